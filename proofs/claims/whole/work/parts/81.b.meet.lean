/-! ===== the class's spaces are the reference's ===== -/
section ME
variable {M K A D E G : qm} {n p k v z l x y c r j f : Int} {F L : Int → Int} {q : Int → Int}
/-- no line is there: no wall -/
theorem now_1 (hA : WAL M A n) (x0 : 0 ≤ x) (x1 : x ≤ 24) (y0 : 0 ≤ y) (y1 : y ≤ 24) (h : ∀ l, 0 ≤ l → l < n → ¬ onU M l 1 x y) : A 52 1 (25 * x + y) = -1 := by
  rcases hA.2 1 x y (by decide) (by decide) x0 x1 y0 y1 with ⟨e, _⟩ | ⟨e1, e2, e3⟩
  · exact e
  · exact absurd e3 (h _ e1 e2)
theorem now_0 (hA : WAL M A n) (x0 : 0 ≤ x) (x1 : x ≤ 24) (y0 : 0 ≤ y) (y1 : y ≤ 24) (h : ∀ l, 0 ≤ l → l < n → ¬ onU M l 0 x y) : A 52 0 (25 * x + y) = -1 := by
  rcases hA.2 0 x y (by decide) (by decide) x0 x1 y0 y1 with ⟨e, _⟩ | ⟨e1, e2, e3⟩
  · exact e
  · exact absurd e3 (h _ e1 e2)
/-- the units of a state's lines, between columns: none -/
theorem mis_1 (hX : AXS M E n) (hA : WAL M A n) (x0 : 0 ≤ x) (x1 : x ≤ 24) (y0 : 0 ≤ y) (y1 : y ≤ 24) (h : ∀ j, 0 ≤ j → j < (E 2157 12 0) → (E 2166 j 0) ≠ x) : A 52 1 (25 * x + y) = -1 := now_1 hA x0 x1 y0 y1 (fun l l0 l1 z => by
  rcases z with ⟨z, _⟩ | ⟨_, _, e, _⟩
  · exact absurd z (by decide)
  · obtain ⟨j, j0, j1, j2⟩ := (hX.2.2.1 x).mpr ⟨l, l0, l1, Or.inl e⟩
    exact h j j0 j1 j2)
theorem mis_0 (hX : AXS M E n) (hA : WAL M A n) (x0 : 0 ≤ x) (x1 : x ≤ 24) (y0 : 0 ≤ y) (y1 : y ≤ 24) (h : ∀ j, 0 ≤ j → j < (E 2157 13 0) → (E 2167 j 0) ≠ y) : A 52 0 (25 * x + y) = -1 := now_0 hA x0 x1 y0 y1 (fun l l0 l1 z => by
  rcases z with ⟨_, _, e, _⟩ | ⟨z, _⟩
  · obtain ⟨j, j0, j1, j2⟩ := (hX.2.2.2 y).mpr ⟨l, l0, l1, Or.inl e⟩
    exact h j j0 j1 j2
  · exact absurd z (by decide))
/-- the cell of a unit -/
noncomputable def kuf (E : qm) (x y : Int) : Int := 42 * rowf E y + colf E x
/-- the first unit of a column, of a row -/
def X1 (E : qm) (c : Int) : Int := if c ≤ 0 then -1 else (E 2166 (c - 1) 0)
def Y1 (E : qm) (r : Int) : Int := if r ≤ 0 then -1 else (E 2167 (r - 1) 0)
theorem X1_b (hX : SRx E (E 2157 12 0)) (c1 : c ≤ (E 2157 12 0)) : -1 ≤ X1 E c ∧ X1 E c ≤ 24 := by
  unfold X1
  by_cases g : c ≤ 0
  · rw [if_pos g]
    decide
  · rw [if_neg g]
    have := hX.2.2 (c - 1) (by omega) (by omega)
    omega
theorem Y1_b (hX : SRy E (E 2157 13 0)) (c1 : r ≤ (E 2157 13 0)) : -1 ≤ Y1 E r ∧ Y1 E r ≤ 24 := by
  unfold Y1
  by_cases g : r ≤ 0
  · rw [if_pos g]
    decide
  · rw [if_neg g]
    have := hX.2.2 (r - 1) (by omega) (by omega)
    omega
/-- F1: the reference's number of a unit's cell is the same without a wall between -/
theorem unit_3 (h_ends : R_ends M K) (hX : AXS M E (M 7 0 0)) (hA : WAL M A (M 7 0 0)) (hL : CPR M E (M 7 0 0) L) : (∀ x y, 0 ≤ x → x ≤ 24 → 0 ≤ y → y ≤ 23 → A 52 1 (25 * x + y) = -1 → L (kuf E (x - 1) y) = L (kuf E x y)) ∧ (∀ x y, 0 ≤ x → x ≤ 23 → 0 ≤ y → y ≤ 24 → A 52 0 (25 * x + y) = -1 → L (kuf E x (y - 1)) = L (kuf E x y)) ∧ (∀ x y, (x = -1 ∨ x = 24 ∨ y = -1 ∨ y = 24) → -1 ≤ x → x ≤ 24 → -1 ≤ y → y ≤ 24 → L (kuf E x y) = L 0) := by
  have cx := fun x => colf_s (x := x) hX.1
  have ry := fun y => rowf_s (x := y) hX.2.1
  have C0 := hX.1.1
  have R0 := hX.2.1.1
  have mr : ∀ r, 0 ≤ r → r ≤ (E 2157 13 0) → ∀ c, (c = 0 ∨ c = (E 2157 12 0)) → L (42 * r + c) = L (42 * 0 + c) := by
    intro r r0 r1 c hc
    have key : ∀ u : Nat, (u : Int) ≤ (E 2157 13 0) → L (42 * u + c) = L (42 * 0 + c) := by
      intro u
      induction u with
      | zero => intro _; rfl
      | succ u ih =>
        intro hu
        have st := (hL u c (by omega) (by omega) (by omega) (by omega)).2 ⟨by omega, by
          rintro ⟨l, z⟩
          have := z.2.2.2.2.1
          have := z.2.2.2.2.2.1
          omega⟩
        rw [show 42 * ((u + 1 : Nat) : Int) + c = 42 * (u : Int) + c + 42 by omega, st, ih (by omega)]
    have := key r.toNat (by omega)
    rw [show ((r.toNat : Nat) : Int) = r by omega] at this
    exact this
  have mc : ∀ c, 0 ≤ c → c ≤ (E 2157 12 0) → ∀ r, (r = 0 ∨ r = (E 2157 13 0)) → L (42 * r + c) = L (42 * r + 0) := by
    intro c c0 c1 r hr
    have key : ∀ u : Nat, (u : Int) ≤ (E 2157 12 0) → L (42 * r + u) = L (42 * r + 0) := by
      intro u
      induction u with
      | zero => intro _; rfl
      | succ u ih =>
        intro hu
        have st := (hL r u (by omega) (by omega) (by omega) (by omega)).1 ⟨by omega, by
          rintro ⟨l, z⟩
          have := z.2.2.2.2.1
          have := z.2.2.2.2.2.1
          omega⟩
        rw [show 42 * r + ((u + 1 : Nat) : Int) = 42 * r + (u : Int) + 1 by omega, st, ih (by omega)]
    have := key c.toNat (by omega)
    rw [show ((c.toNat : Nat) : Int) = c by omega] at this
    exact this
  refine ⟨?_, ?_, ?_⟩
  · intro x y x0 x1 y0 y1 hw
    show L (kuf E (x - 1) y) = L (kuf E x y)
    unfold kuf
    by_cases g : ∃ j, 0 ≤ j ∧ j < (E 2157 12 0) ∧ (E 2166 j 0) = x
    · obtain ⟨j, j0, j1, j2⟩ := g
      have h := colf_hit hX.1 j0 j1 j2
      rw [h.1, h.2]
      have r := ry y
      have st := (hL (rowf E y) j r.1 r.2.1 j0 (by omega)).1 ⟨j1, by
        rintro ⟨l, l0, l1, z1, z2, z3, z4, z5, z6⟩
        have p1 := r.2.2.1 (rowf E y - 1) (by omega) (by omega)
        have p2 := r.2.2.2 (rowf E y) (Int.le_refl _) z4
        rcases hA.2 1 x y (by decide) (by decide) x0 x1 y0 (by omega) with ⟨_, e⟩ | ⟨e, _⟩
        · exact e l l0 l1 (Or.inr ⟨rfl, z1, by omega, by omega, by omega⟩)
        · omega⟩
      rw [show 42 * rowf E y + (j + 1) = 42 * rowf E y + j + 1 by omega]
      exact st.symm
    · rw [colf_miss hX.1 (fun j j0 j1 z => g ⟨j, j0, j1, z⟩)]
  · intro x y x0 x1 y0 y1 hw
    show L (kuf E x (y - 1)) = L (kuf E x y)
    unfold kuf
    by_cases g : ∃ j, 0 ≤ j ∧ j < (E 2157 13 0) ∧ (E 2167 j 0) = y
    · obtain ⟨j, j0, j1, j2⟩ := g
      have h := rowf_hit hX.2.1 j0 j1 j2
      rw [h.1, h.2]
      have r := cx x
      have st := (hL j (colf E x) j0 (by omega) r.1 r.2.1).2 ⟨j1, by
        rintro ⟨l, l0, l1, z1, z2, z3, z4, z5, z6⟩
        have p1 := r.2.2.1 (colf E x - 1) (by omega) (by omega)
        have p2 := r.2.2.2 (colf E x) (Int.le_refl _) z4
        rcases hA.2 0 x y (by decide) (by decide) x0 (by omega) y0 y1 with ⟨_, e⟩ | ⟨e, _⟩
        · exact e l l0 l1 (Or.inl ⟨rfl, z1, by omega, by omega, by omega⟩)
        · omega⟩
      rw [show 42 * (j + 1) + colf E x = 42 * j + colf E x + 42 by omega]
      exact st.symm
    · rw [rowf_miss hX.2.1 (fun j j0 j1 z => g ⟨j, j0, j1, z⟩)]
  · intro x y ho x0 x1 y0 y1
    show L (kuf E x y) = L 0
    unfold kuf
    have cb := cx x
    have rb := ry y
    have z0 := mc _ C0 (Int.le_refl _) 0 (Or.inl rfl)
    rcases ho with g | g | g | g
    · rw [colf_lo hX.1 (by omega), mr _ rb.1 rb.2.1 0 (Or.inl rfl)]
      rfl
    · rw [colf_hi hX.1 (by omega), mr _ rb.1 rb.2.1 _ (Or.inr rfl), z0]
      rfl
    · rw [rowf_lo hX.2.1 (by omega), mc _ cb.1 cb.2.1 0 (Or.inl rfl)]
      rfl
    · rw [rowf_hi hX.2.1 (by omega), mc _ cb.1 cb.2.1 _ (Or.inr rfl), mr _ R0 (Int.le_refl _) 0 (Or.inl rfl)]
      rfl
theorem unit_cmp (h_ends : R_ends M K) (hX : AXS M E (M 7 0 0)) (hA : WAL M A (M 7 0 0)) (hL : CPR M E (M 7 0 0) L) : CMP A (fun v => L (kuf E (v / 24) (v % 24))) (L 0) := by
  obtain ⟨h1, h2, h3⟩ := unit_3 h_ends hX hA hL
  exact cmp_of (H := fun x y => L (kuf E x y)) h1 h2 h3
theorem ext_out (h : ¬ (0 ≤ x ∧ x < 24 ∧ 0 ≤ y ∧ y < 24)) : ext F f x y = f := if_neg h
/-- one number for each of the reference's cells, from the units -/
theorem cell_cpr (h_ends : R_ends M K) (hX : AXS M E (M 7 0 0)) (hA : WAL M A (M 7 0 0)) (hF : CMP A F f) : CPR M E (M 7 0 0) (fun k => ext F f (X1 E (k % 42)) (Y1 E (k / 42))) := by
  intro r c r0 r1 c0 c1
  have C5 := SRx_n hX.1
  have R5 := SRy_n hX.2.1
  (try dsimp only)
  rw [show (42 * r + c) % 42 = c by omega, show (42 * r + c) / 42 = r by omega]
  refine ⟨fun ho => ?_, fun ho => ?_⟩
  · rw [show (42 * r + c + 1) % 42 = c + 1 by omega, show (42 * r + c + 1) / 42 = r by omega]
    by_cases gr : 0 ≤ Y1 E r ∧ Y1 E r < 24
    · have bx := X1_b hX.1 c1
      have r1' : ¬ r ≤ 0 := fun z => by
        unfold Y1 at gr
        rw [if_pos z] at gr
        omega
      have ey : Y1 E r = (E 2167 (r - 1) 0) := by
        unfold Y1
        rw [if_neg r1']
      have ex : X1 E (c + 1) = (E 2166 c 0) := by
        unfold X1
        rw [if_neg (by omega), show c + 1 - 1 = c by omega]
      have sc := hX.1.2.2 c c0 ho.1
      have lt : X1 E c < (E 2166 c 0) := by
        unfold X1
        by_cases g : c ≤ 0
        · rw [if_pos g]
          omega
        · rw [if_neg g]
          exact hX.1.2.1 (c - 1) c (by omega) (by omega) ho.1
      refine (ext_hs hF gr.1 (by omega) bx.1 (show X1 E c ≤ X1 E (c + 1) by omega) (by omega) (fun x xa xb => ?_)).symm
      by_cases g : x = (E 2166 c 0)
      · refine now_1 hA (by omega) (by omega) gr.1 (by omega) (fun l l0 l1 z => ?_)
        rcases z with ⟨z, _⟩ | ⟨_, z1, z2, z3, z4⟩
        · exact absurd z (by decide)
        · obtain ⟨j, j0, j1, j2⟩ := (hX.2.2.2 (M 8 l 3)).mpr ⟨l, l0, l1, Or.inr rfl⟩
          have jr : r ≤ j := by
            apply Classical.byContradiction
            intro w
            by_cases e : j = r - 1
            · rw [e] at j2
              omega
            · have := hX.2.1.2.1 j (r - 1) j0 (by omega) (by omega)
              omega
          have yr : (E 2167 r 0) ≤ (E 2167 j 0) := by
            by_cases e : j = r
            · rw [e]
              exact Int.le_refl _
            · have := hX.2.1.2.1 r j r0 (by omega) j1
              omega
          exact ho.2 ⟨l, l0, l1, z1, by omega, by omega, by omega, by omega, by omega⟩
      · refine mis_1 hX hA (by omega) (by omega) gr.1 (by omega) (fun j j0 j1 e => ?_)
        by_cases gj : j < c
        · have : (E 2166 j 0) ≤ X1 E c := by
            unfold X1
            rw [if_neg (by omega)]
            by_cases e2 : j = c - 1
            · rw [e2]
              exact Int.le_refl _
            · have := hX.1.2.1 j (c - 1) j0 (by omega) (by omega)
              omega
          omega
        · by_cases e2 : j = c
          · rw [e2] at e
            omega
          · have := hX.1.2.1 c j c0 (by omega) j1
            omega
    · rw [ext_out (by omega), ext_out (by omega)]
  · rw [show (42 * r + c + 42) % 42 = c by omega, show (42 * r + c + 42) / 42 = r + 1 by omega]
    by_cases gr : 0 ≤ X1 E c ∧ X1 E c < 24
    · have bx := Y1_b hX.2.1 r1
      have r1' : ¬ c ≤ 0 := fun z => by
        unfold X1 at gr
        rw [if_pos z] at gr
        omega
      have ey : X1 E c = (E 2166 (c - 1) 0) := by
        unfold X1
        rw [if_neg r1']
      have ex : Y1 E (r + 1) = (E 2167 r 0) := by
        unfold Y1
        rw [if_neg (by omega), show r + 1 - 1 = r by omega]
      have sc := hX.2.1.2.2 r r0 ho.1
      have lt : Y1 E r < (E 2167 r 0) := by
        unfold Y1
        by_cases g : r ≤ 0
        · rw [if_pos g]
          omega
        · rw [if_neg g]
          exact hX.2.1.2.1 (r - 1) r (by omega) (by omega) ho.1
      refine (ext_vs hF gr.1 (by omega) bx.1 (show Y1 E r ≤ Y1 E (r + 1) by omega) (by omega) (fun x xa xb => ?_)).symm
      by_cases g : x = (E 2167 r 0)
      · refine now_0 hA gr.1 (by omega) (by omega) (by omega) (fun l l0 l1 z => ?_)
        rcases z with ⟨_, z1, z2, z3, z4⟩ | ⟨z, _⟩
        · obtain ⟨j, j0, j1, j2⟩ := (hX.2.2.1 (M 8 l 2)).mpr ⟨l, l0, l1, Or.inr rfl⟩
          have jr : c ≤ j := by
            apply Classical.byContradiction
            intro w
            by_cases e : j = c - 1
            · rw [e] at j2
              omega
            · have := hX.1.2.1 j (c - 1) j0 (by omega) (by omega)
              omega
          have yr : (E 2166 c 0) ≤ (E 2166 j 0) := by
            by_cases e : j = c
            · rw [e]
              exact Int.le_refl _
            · have := hX.1.2.1 c j c0 (by omega) j1
              omega
          exact ho.2 ⟨l, l0, l1, z1, by omega, by omega, by omega, by omega, by omega⟩
        · exact absurd z (by decide)
      · refine mis_0 hX hA gr.1 (by omega) (by omega) (by omega) (fun j j0 j1 e => ?_)
        by_cases gj : j < r
        · have : (E 2167 j 0) ≤ Y1 E r := by
            unfold Y1
            rw [if_neg (by omega)]
            by_cases e2 : j = r - 1
            · rw [e2]
              exact Int.le_refl _
            · have := hX.2.1.2.1 j (r - 1) j0 (by omega) (by omega)
              omega
          omega
        · by_cases e2 : j = r
          · rw [e2] at e
            omega
          · have := hX.2.1.2.1 r j r0 (by omega) j1
            omega
    · rw [ext_out (by omega), ext_out (by omega)]
theorem X1_col (hX : SRx E (E 2157 12 0)) (x0 : -1 ≤ x) : X1 E (colf E x) ≤ x ∧ ∀ j, 0 ≤ j → j < (E 2157 12 0) → X1 E (colf E x) < (E 2166 j 0) → x < (E 2166 j 0) := by
  have h := colf_s (x := x) hX
  unfold X1
  by_cases g : colf E x ≤ 0
  · rw [if_pos g]
    refine ⟨x0, fun j j0 j1 _ => h.2.2.2 j (by omega) j1⟩
  · rw [if_neg g]
    refine ⟨h.2.2.1 _ (by omega) (by omega), fun j j0 j1 z => ?_⟩
    by_cases gj : colf E x ≤ j
    · exact h.2.2.2 j gj j1
    · exfalso
      by_cases e : j = colf E x - 1
      · rw [e] at z
        omega
      · have := hX.2.1 j (colf E x - 1) j0 (by omega) (by have := h.2.1; omega)
        omega
theorem Y1_row (hX : SRy E (E 2157 13 0)) (x0 : -1 ≤ x) : Y1 E (rowf E x) ≤ x ∧ ∀ j, 0 ≤ j → j < (E 2157 13 0) → Y1 E (rowf E x) < (E 2167 j 0) → x < (E 2167 j 0) := by
  have h := rowf_s (x := x) hX
  unfold Y1
  by_cases g : rowf E x ≤ 0
  · rw [if_pos g]
    refine ⟨x0, fun j j0 j1 _ => h.2.2.2 j (by omega) j1⟩
  · rw [if_neg g]
    refine ⟨h.2.2.1 _ (by omega) (by omega), fun j j0 j1 z => ?_⟩
    by_cases gj : rowf E x ≤ j
    · exact h.2.2.2 j gj j1
    · exfalso
      by_cases e : j = rowf E x - 1
      · rw [e] at z
        omega
      · have := hX.2.1 j (rowf E x - 1) j0 (by omega) (by have := h.2.1; omega)
        omega
theorem kuf_b (hX : AXS M E n) : 0 ≤ kuf E x y ∧ kuf E x y < 1764 ∧ kuf E x y % 42 = colf E x ∧ kuf E x y / 42 = rowf E y := by
  have h := colf_s (x := x) hX.1
  have g := rowf_s (x := y) hX.2.1
  have C5 := SRx_n hX.1
  have R5 := SRy_n hX.2.1
  have := h.1
  have := h.2.1
  have := g.1
  have := g.2.1
  unfold kuf
  omega
/-- a unit is like the first unit of its cell -/
theorem unit_G (hX : AXS M E n) (hA : WAL M A n) (hF : CMP A F f) (x0 : -1 ≤ x) (x1 : x ≤ 24) (y0 : -1 ≤ y) (y1 : y ≤ 24) : ext F f x y = ext F f (X1 E (kuf E x y % 42)) (Y1 E (kuf E x y / 42)) := by
  have kb := kuf_b (x := x) (y := y) hX
  rw [kb.2.2.1, kb.2.2.2]
  have p := X1_col hX.1 x0
  have q := Y1_row hX.2.1 y0
  have bx := X1_b (c := colf E x) hX.1 (colf_s hX.1).2.1
  have by1 := Y1_b (r := rowf E y) hX.2.1 (rowf_s hX.2.1).2.1
  have e1 : ext F f (X1 E (colf E x)) y = ext F f x y := by
    by_cases gy : 0 ≤ y ∧ y < 24
    · refine ext_hs hF gy.1 (by omega) bx.1 p.1 x1 (fun v va vb => mis_1 hX hA (by omega) (by omega) gy.1 (by omega) (fun j j0 j1 e => ?_))
      have := p.2 j j0 j1 (by omega)
      omega
    · rw [ext_out (by omega), ext_out (by omega)]
  have e2 : ext F f (X1 E (colf E x)) (Y1 E (rowf E y)) = ext F f (X1 E (colf E x)) y := by
    by_cases gx : 0 ≤ X1 E (colf E x) ∧ X1 E (colf E x) < 24
    · refine ext_vs hF gx.1 (by omega) by1.1 q.1 y1 (fun v va vb => mis_0 hX hA gx.1 (by omega) (by omega) (by omega) (fun j j0 j1 e => ?_))
      have := q.2 j j0 j1 (by omega)
      omega
    · rw [ext_out (by omega), ext_out (by omega)]
  rw [e2, e1]
/-- the class's space of a unit -/
def own (D : qm) (x y : Int) : Int := ext (fun v => (D 56 v 0)) (-1) x y
/-- two units are of one space just where their cells have one number -/
theorem meet_r (h_ends : R_ends M K) {D0 F' : qm} {x' y' : Int} (hX : AXS M E (M 7 0 0)) (hA : WAL M A (M 7 0 0)) (hS : FSP A D0 D q) (hR : RFS M E F' (M 7 0 0)) (x0 : -1 ≤ x) (x1 : x ≤ 24) (y0 : -1 ≤ y) (y1 : y ≤ 24) (a0 : -1 ≤ x') (a1 : x' ≤ 24) (b0 : -1 ≤ y') (b1 : y' ≤ 24) : own D x y = own D x' y' ↔ (F' 2168 (kuf E x y) 0) = (F' 2168 (kuf E x' y') 0) := by
  obtain ⟨s1, s2, s3, s4, s5, s6, s7, s8⟩ := hS
  constructor
  · intro h
    have U := unit_3 h_ends hX hA hR.2.2.1
    have C := unit_cmp h_ends hX hA hR.2.2.1
    (try dsimp only at U C)
    have val : ∀ x y, -1 ≤ x → x ≤ 24 → -1 ≤ y → y ≤ 24 → own D x y = -1 → (F' 2168 (kuf E x y) 0) = (F' 2168 0 0) := by
      intro x y x0 x1 y0 y1 e
      by_cases g : 0 ≤ x ∧ x < 24 ∧ 0 ≤ y ∧ y < 24
      · unfold own ext at e
        rw [if_pos g] at e
        have w := s4 (24 * x + y) (by omega) (by omega) e _ _ C
        (try dsimp only at w)
        rw [show (24 * x + y) / 24 = x by omega, show (24 * x + y) % 24 = y by omega] at w
        exact w
      · exact U.2.2 x y (by omega) x0 x1 y0 y1
    by_cases e : own D x y = -1
    · rw [val x y x0 x1 y0 y1 e, val x' y' a0 a1 b0 b1 (h ▸ e)]
    · have g : 0 ≤ x ∧ x < 24 ∧ 0 ≤ y ∧ y < 24 := by
        apply Classical.byContradiction
        intro z
        exact e (ext_out z)
      have e' : own D x' y' ≠ -1 := by
        rw [← h]
        exact e
      have g' : 0 ≤ x' ∧ x' < 24 ∧ 0 ≤ y' ∧ y' < 24 := by
        apply Classical.byContradiction
        intro z
        exact e' (ext_out z)
      have o1 : own D x y = (D 56 (24 * x + y) 0) := if_pos g
      have o2 : own D x' y' = (D 56 (24 * x' + y') 0) := if_pos g'
      have b := s3 (24 * x + y) (by omega) (by omega)
      have fr := s5 (D 56 (24 * x + y) 0) (by omega) b.2
      have w1 := fr.2.2.2.1 (24 * x + y) (by omega) (by omega) rfl _ _ C
      have w2 := fr.2.2.2.1 (24 * x' + y') (by omega) (by omega) (by (try dsimp only); omega) _ _ C
      (try dsimp only at w1 w2)
      rw [show (24 * x + y) / 24 = x by omega, show (24 * x + y) % 24 = y by omega] at w1
      rw [show (24 * x' + y') / 24 = x' by omega, show (24 * x' + y') % 24 = y' by omega] at w2
      exact w1.trans w2.symm
  · intro h
    have cp := cell_cpr h_ends hX hA s2
    have k1 := kuf_b (x := x) (y := y) hX
    have k2 := kuf_b (x := x') (y := y') hX
    have w1 := hR.2.2.2 _ cp (kuf E x y) k1.1 k1.2.1
    have w2 := hR.2.2.2 _ cp (kuf E x' y') k2.1 k2.2.1
    have u1 := unit_G hX hA s2 x0 x1 y0 y1
    have u2 := unit_G hX hA s2 a0 a1 b0 b1
    (try dsimp only at w1 w2)
    unfold own
    rw [u1, u2, ← w1, ← w2, h]
end ME
