/-! ===== units and the reference's columns and rows ===== -/
section UN
variable {M K A D E : qm} {n p k v z l x y c r j f x1 x2 : Int} {F : Int → Int} {H : Int → Int → Int}
def colr (E : qm) (x c : Int) : Prop := 0 ≤ c ∧ c ≤ (E 2157 12 0) ∧ (∀ j, 0 ≤ j → j < c → (E 2166 j 0) ≤ x) ∧ (∀ j, c ≤ j → j < (E 2157 12 0) → x < (E 2166 j 0))
theorem colr_ex (h : SRx E (E 2157 12 0)) : ∃ c, colr E x c := by
  have C0 := h.1
  have key : ∀ u : Nat, (u : Int) ≤ (E 2157 12 0) → (∃ c, colr E x c) ∨ ∀ j : Int, 0 ≤ j → j < u → (E 2166 j 0) ≤ x := by
    intro u
    induction u with
    | zero => intro _; exact Or.inr (fun j a b => by omega)
    | succ u ih =>
      intro hu
      rcases ih (by omega) with g | g
      · exact Or.inl g
      · by_cases e : (E 2166 (u : Int) 0) ≤ x
        · refine Or.inr (fun j a b => ?_)
          by_cases ej : j = u
          · rw [ej]
            exact e
          · exact g j a (by omega)
        · refine Or.inl ⟨u, by omega, by omega, g, fun j a b => ?_⟩
          by_cases ej : j = u
          · rw [ej]
            omega
          · have := h.2.1 u j (by omega) (by omega) b
            omega
  rcases key ((E 2157 12 0)).toNat (by omega) with g | g
  · exact g
  · exact ⟨(E 2157 12 0), C0, Int.le_refl _, fun j a b => g j a (by omega), fun j a b => by omega⟩
theorem colr_one {d : Int} (h : colr E x c) (h2 : colr E x d) : c = d := by
  rcases Int.lt_trichotomy c d with g | g | g
  · have := h.2.2.2 c (Int.le_refl c) (by have := h2.2.1; omega)
    have := h2.2.2.1 c h.1 g
    omega
  · exact g
  · have := h2.2.2.2 d (Int.le_refl d) (by have := h.2.1; omega)
    have := h.2.2.1 d h2.1 g
    omega
noncomputable def colf (E : qm) (x : Int) : Int := @dite Int (∃ c, colr E x c) (Classical.propDecidable _) (fun h => Classical.choose h) (fun _ => 0)
theorem colf_s (h : SRx E (E 2157 12 0)) : colr E x (colf E x) := by
  unfold colf
  rw [dif_pos (colr_ex h)]
  exact Classical.choose_spec (colr_ex h)
theorem colf_e (h : SRx E (E 2157 12 0)) (hc : colr E x c) : colf E x = c := colr_one (colf_s h) hc
theorem colf_hit (h : SRx E (E 2157 12 0)) (j0 : 0 ≤ j) (j1 : j < (E 2157 12 0)) (e : (E 2166 j 0) = x) : colf E x = j + 1 ∧ colf E (x - 1) = j := by
  constructor
  · refine colf_e h ⟨by omega, by omega, fun i a b => ?_, fun i a b => ?_⟩
    · by_cases g : i = j
      · rw [g]
        omega
      · have := h.2.1 i j a (by omega) j1
        omega
    · have := h.2.1 j i j0 (by omega) b
      omega
  · refine colf_e h ⟨by omega, by omega, fun i a b => ?_, fun i a b => ?_⟩
    · have := h.2.1 i j a (by omega) j1
      omega
    · by_cases g : i = j
      · rw [g]
        omega
      · have := h.2.1 j i j0 (by omega) b
        omega
theorem colf_miss (h : SRx E (E 2157 12 0)) (e : ∀ j, 0 ≤ j → j < (E 2157 12 0) → (E 2166 j 0) ≠ x) : colf E (x - 1) = colf E x := by
  have q := colf_s (x := x) h
  refine colf_e h ⟨q.1, q.2.1, fun i a b => ?_, fun i a b => ?_⟩
  · have := q.2.2.1 i a b
    have := e i a (by have := q.2.1; omega)
    omega
  · have := q.2.2.2 i a b
    omega
theorem colf_lo (h : SRx E (E 2157 12 0)) (hx : x < 0) : colf E x = 0 := colf_e h ⟨by omega, h.1, fun i a b => by omega, fun i a b => by
  have := h.2.2 i a b
  omega⟩
theorem colf_hi (h : SRx E (E 2157 12 0)) (hx : 24 ≤ x) : colf E x = (E 2157 12 0) := colf_e h ⟨h.1, Int.le_refl _, fun i a b => by
  have := h.2.2 i a b
  omega, fun i a b => by omega⟩
def rowr (E : qm) (x c : Int) : Prop := 0 ≤ c ∧ c ≤ (E 2157 13 0) ∧ (∀ j, 0 ≤ j → j < c → (E 2167 j 0) ≤ x) ∧ (∀ j, c ≤ j → j < (E 2157 13 0) → x < (E 2167 j 0))
theorem rowr_ex (h : SRy E (E 2157 13 0)) : ∃ c, rowr E x c := by
  have C0 := h.1
  have key : ∀ u : Nat, (u : Int) ≤ (E 2157 13 0) → (∃ c, rowr E x c) ∨ ∀ j : Int, 0 ≤ j → j < u → (E 2167 j 0) ≤ x := by
    intro u
    induction u with
    | zero => intro _; exact Or.inr (fun j a b => by omega)
    | succ u ih =>
      intro hu
      rcases ih (by omega) with g | g
      · exact Or.inl g
      · by_cases e : (E 2167 (u : Int) 0) ≤ x
        · refine Or.inr (fun j a b => ?_)
          by_cases ej : j = u
          · rw [ej]
            exact e
          · exact g j a (by omega)
        · refine Or.inl ⟨u, by omega, by omega, g, fun j a b => ?_⟩
          by_cases ej : j = u
          · rw [ej]
            omega
          · have := h.2.1 u j (by omega) (by omega) b
            omega
  rcases key ((E 2157 13 0)).toNat (by omega) with g | g
  · exact g
  · exact ⟨(E 2157 13 0), C0, Int.le_refl _, fun j a b => g j a (by omega), fun j a b => by omega⟩
theorem rowr_one {d : Int} (h : rowr E x c) (h2 : rowr E x d) : c = d := by
  rcases Int.lt_trichotomy c d with g | g | g
  · have := h.2.2.2 c (Int.le_refl c) (by have := h2.2.1; omega)
    have := h2.2.2.1 c h.1 g
    omega
  · exact g
  · have := h2.2.2.2 d (Int.le_refl d) (by have := h.2.1; omega)
    have := h.2.2.1 d h2.1 g
    omega
noncomputable def rowf (E : qm) (x : Int) : Int := @dite Int (∃ c, rowr E x c) (Classical.propDecidable _) (fun h => Classical.choose h) (fun _ => 0)
theorem rowf_s (h : SRy E (E 2157 13 0)) : rowr E x (rowf E x) := by
  unfold rowf
  rw [dif_pos (rowr_ex h)]
  exact Classical.choose_spec (rowr_ex h)
theorem rowf_e (h : SRy E (E 2157 13 0)) (hc : rowr E x c) : rowf E x = c := rowr_one (rowf_s h) hc
theorem rowf_hit (h : SRy E (E 2157 13 0)) (j0 : 0 ≤ j) (j1 : j < (E 2157 13 0)) (e : (E 2167 j 0) = x) : rowf E x = j + 1 ∧ rowf E (x - 1) = j := by
  constructor
  · refine rowf_e h ⟨by omega, by omega, fun i a b => ?_, fun i a b => ?_⟩
    · by_cases g : i = j
      · rw [g]
        omega
      · have := h.2.1 i j a (by omega) j1
        omega
    · have := h.2.1 j i j0 (by omega) b
      omega
  · refine rowf_e h ⟨by omega, by omega, fun i a b => ?_, fun i a b => ?_⟩
    · have := h.2.1 i j a (by omega) j1
      omega
    · by_cases g : i = j
      · rw [g]
        omega
      · have := h.2.1 j i j0 (by omega) b
        omega
theorem rowf_miss (h : SRy E (E 2157 13 0)) (e : ∀ j, 0 ≤ j → j < (E 2157 13 0) → (E 2167 j 0) ≠ x) : rowf E (x - 1) = rowf E x := by
  have q := rowf_s (x := x) h
  refine rowf_e h ⟨q.1, q.2.1, fun i a b => ?_, fun i a b => ?_⟩
  · have := q.2.2.1 i a b
    have := e i a (by have := q.2.1; omega)
    omega
  · have := q.2.2.2 i a b
    omega
theorem rowf_lo (h : SRy E (E 2157 13 0)) (hx : x < 0) : rowf E x = 0 := rowf_e h ⟨by omega, h.1, fun i a b => by omega, fun i a b => by
  have := h.2.2 i a b
  omega⟩
theorem rowf_hi (h : SRy E (E 2157 13 0)) (hx : 24 ≤ x) : rowf E x = (E 2157 13 0) := rowf_e h ⟨h.1, Int.le_refl _, fun i a b => by
  have := h.2.2 i a b
  omega, fun i a b => by omega⟩
/-- a number of each unit, f outside -/
def ext (F : Int → Int) (f x y : Int) : Int := if 0 ≤ x ∧ x < 24 ∧ 0 ≤ y ∧ y < 24 then F (24 * x + y) else f
theorem ext_h (h : CMP A F f) (x0 : 0 ≤ x) (x1 : x ≤ 24) (y0 : 0 ≤ y) (y1 : y ≤ 23) (hw : A 52 1 (25 * x + y) = -1) : ext F f (x - 1) y = ext F f x y := by
  unfold ext
  by_cases g : x < 24
  · rw [if_pos (show 0 ≤ x ∧ x < 24 ∧ 0 ≤ y ∧ y < 24 by omega)]
    have q := h (24 * x + y) 1 (by omega) (by omega) (by decide) (by decide) (by rw [wb_1, show 25 * ((24 * x + y) / 24) + (24 * x + y) % 24 = 25 * x + y by omega]; exact hw)
    unfold cb at q
    rw [if_neg (by decide), if_pos rfl] at q
    by_cases g0 : x = 0
    · rw [if_neg (by omega)]
      rw [if_pos (by omega)] at q
      exact (q.1 rfl).symm
    · rw [if_pos (by omega)]
      rw [if_neg (by omega)] at q
      have := q.2 (by omega)
      rw [show 24 * x + y - 24 = 24 * (x - 1) + y by omega] at this
      exact this
  · rw [if_pos (show 0 ≤ x - 1 ∧ x - 1 < 24 ∧ 0 ≤ y ∧ y < 24 by omega), if_neg (by omega)]
    have q := h (24 * (x - 1) + y) 0 (by omega) (by omega) (by decide) (by decide) (by
      unfold wb
      rw [if_pos rfl, show 25 * ((24 * (x - 1) + y) / 24) + (24 * (x - 1) + y) % 24 + 25 = 25 * x + y by omega]
      exact hw)
    unfold cb at q
    rw [if_pos rfl, if_pos (by omega)] at q
    exact q.1 rfl
theorem ext_v (h : CMP A F f) (x0 : 0 ≤ x) (x1 : x ≤ 23) (y0 : 0 ≤ y) (y1 : y ≤ 24) (hw : A 52 0 (25 * x + y) = -1) : ext F f x (y - 1) = ext F f x y := by
  unfold ext
  by_cases g : y < 24
  · rw [if_pos (show 0 ≤ x ∧ x < 24 ∧ 0 ≤ y ∧ y < 24 by omega)]
    have q := h (24 * x + y) 3 (by omega) (by omega) (by decide) (by decide) (by rw [wb_3, show 25 * ((24 * x + y) / 24) + (24 * x + y) % 24 = 25 * x + y by omega]; exact hw)
    unfold cb at q
    rw [if_neg (by decide), if_neg (by decide), if_neg (by decide)] at q
    by_cases g0 : y = 0
    · rw [if_neg (by omega)]
      rw [if_pos (by omega)] at q
      exact (q.1 rfl).symm
    · rw [if_pos (by omega)]
      rw [if_neg (by omega)] at q
      have := q.2 (by omega)
      rw [show 24 * x + y - 1 = 24 * x + (y - 1) by omega] at this
      exact this
  · rw [if_pos (show 0 ≤ x ∧ x < 24 ∧ 0 ≤ y - 1 ∧ y - 1 < 24 by omega), if_neg (by omega)]
    have q := h (24 * x + (y - 1)) 2 (by omega) (by omega) (by decide) (by decide) (by
      unfold wb
      rw [if_neg (by decide), if_neg (by decide), if_pos rfl, show 25 * ((24 * x + (y - 1)) / 24) + (24 * x + (y - 1)) % 24 + 1 = 25 * x + y by omega]
      exact hw)
    unfold cb at q
    rw [if_neg (by decide), if_neg (by decide), if_pos rfl, if_pos (by omega)] at q
    exact q.1 rfl
theorem cmp_of (h1 : ∀ x y, 0 ≤ x → x ≤ 24 → 0 ≤ y → y ≤ 23 → A 52 1 (25 * x + y) = -1 → H (x - 1) y = H x y) (h2 : ∀ x y, 0 ≤ x → x ≤ 23 → 0 ≤ y → y ≤ 24 → A 52 0 (25 * x + y) = -1 → H x (y - 1) = H x y) (ho : ∀ x y, (x = -1 ∨ x = 24 ∨ y = -1 ∨ y = 24) → -1 ≤ x → x ≤ 24 → -1 ≤ y → y ≤ 24 → H x y = f) : CMP A (fun v => H (v / 24) (v % 24)) f := by
  intro c d c0 c1 d0 d1 hw
  have e : d = 0 ∨ d = 1 ∨ d = 2 ∨ d = 3 := by omega
  (try dsimp only)
  unfold wb at hw
  unfold cb
  rcases e with rfl | rfl | rfl | rfl
  · rw [if_pos rfl] at hw ⊢
    rw [show 25 * (c / 24) + c % 24 + 25 = 25 * (c / 24 + 1) + c % 24 by omega] at hw
    have q := h1 (c / 24 + 1) (c % 24) (by omega) (by omega) (by omega) (by omega) hw
    rw [show c / 24 + 1 - 1 = c / 24 by omega] at q
    by_cases g : 23 ≤ c / 24
    · rw [if_pos g]
      refine ⟨fun _ => q.trans (ho _ _ (Or.inr (Or.inl (by omega))) (by omega) (by omega) (by omega) (by omega)), fun z => absurd rfl z⟩
    · rw [if_neg g]
      refine ⟨fun z => by omega, fun _ => ?_⟩
      rw [show (c + 24) / 24 = c / 24 + 1 by omega, show (c + 24) % 24 = c % 24 by omega]
      exact q.symm
  · rw [if_neg (by decide), if_pos rfl] at hw ⊢
    have q := h1 (c / 24) (c % 24) (by omega) (by omega) (by omega) (by omega) hw
    by_cases g : c / 24 ≤ 0
    · rw [if_pos g]
      refine ⟨fun _ => q.symm.trans (ho _ _ (Or.inl (by omega)) (by omega) (by omega) (by omega) (by omega)), fun z => absurd rfl z⟩
    · rw [if_neg g]
      refine ⟨fun z => by omega, fun _ => ?_⟩
      rw [show (c - 24) / 24 = c / 24 - 1 by omega, show (c - 24) % 24 = c % 24 by omega]
      exact q
  · rw [if_neg (by decide), if_neg (by decide), if_pos rfl] at hw ⊢
    rw [show 25 * (c / 24) + c % 24 + 1 = 25 * (c / 24) + (c % 24 + 1) by omega] at hw
    have q := h2 (c / 24) (c % 24 + 1) (by omega) (by omega) (by omega) (by omega) hw
    rw [show c % 24 + 1 - 1 = c % 24 by omega] at q
    by_cases g : 23 ≤ c % 24
    · rw [if_pos g]
      refine ⟨fun _ => q.trans (ho _ _ (Or.inr (Or.inr (Or.inr (by omega)))) (by omega) (by omega) (by omega) (by omega)), fun z => absurd rfl z⟩
    · rw [if_neg g]
      refine ⟨fun z => by omega, fun _ => ?_⟩
      rw [show (c + 1) / 24 = c / 24 by omega, show (c + 1) % 24 = c % 24 + 1 by omega]
      exact q.symm
  · rw [if_neg (by decide), if_neg (by decide), if_neg (by decide)] at hw ⊢
    have q := h2 (c / 24) (c % 24) (by omega) (by omega) (by omega) (by omega) hw
    by_cases g : c % 24 ≤ 0
    · rw [if_pos g]
      refine ⟨fun _ => q.symm.trans (ho _ _ (Or.inr (Or.inr (Or.inl (by omega)))) (by omega) (by omega) (by omega) (by omega)), fun z => absurd rfl z⟩
    · rw [if_neg g]
      refine ⟨fun z => by omega, fun _ => ?_⟩
      rw [show (c - 1) / 24 = c / 24 by omega, show (c - 1) % 24 = c % 24 - 1 by omega]
      exact q
/-- along a row of units without walls -/
theorem ext_hs (h : CMP A F f) (y0 : 0 ≤ y) (y1 : y ≤ 23) (a0 : -1 ≤ x1) (a1 : x1 ≤ x2) (a2 : x2 ≤ 24) (hw : ∀ x, x1 < x → x ≤ x2 → A 52 1 (25 * x + y) = -1) : ext F f x1 y = ext F f x2 y := by
  have key : ∀ u : Nat, x1 + u ≤ x2 → ext F f x1 y = ext F f (x1 + u) y := by
    intro u
    induction u with
    | zero =>
      intro _
      rw [show x1 + ((0 : Nat) : Int) = x1 by omega]
    | succ u ih =>
      intro hu
      have e : x1 + ((u + 1 : Nat) : Int) = x1 + u + 1 := by omega
      have q := ext_h h (x := x1 + u + 1) (y := y) (by omega) (by omega) y0 y1 (hw _ (by omega) (by omega))
      rw [show x1 + (u : Int) + 1 - 1 = x1 + u by omega] at q
      rw [e, ih (by omega), q]
  have q := key (x2 - x1).toNat (by omega)
  rw [show x1 + ((x2 - x1).toNat : Int) = x2 by omega] at q
  exact q
theorem ext_vs (h : CMP A F f) (y0 : 0 ≤ x) (y1 : x ≤ 23) (a0 : -1 ≤ x1) (a1 : x1 ≤ x2) (a2 : x2 ≤ 24) (hw : ∀ y, x1 < y → y ≤ x2 → A 52 0 (25 * x + y) = -1) : ext F f x x1 = ext F f x x2 := by
  have key : ∀ u : Nat, x1 + u ≤ x2 → ext F f x x1 = ext F f x (x1 + u) := by
    intro u
    induction u with
    | zero =>
      intro _
      rw [show x1 + ((0 : Nat) : Int) = x1 by omega]
    | succ u ih =>
      intro hu
      have e : x1 + ((u + 1 : Nat) : Int) = x1 + u + 1 := by omega
      have q := ext_v h (x := x) (y := x1 + u + 1) y0 y1 (by omega) (by omega) (hw _ (by omega) (by omega))
      rw [show x1 + (u : Int) + 1 - 1 = x1 + u by omega] at q
      rw [e, ih (by omega), q]
  have q := key (x2 - x1).toNat (by omega)
  rw [show x1 + ((x2 - x1).toNat : Int) = x2 by omega] at q
  exact q
end UN
