/-! ===== lines along one another ===== -/
def crsN (K : qm) (k f x y n : Int) : Prop := (f = 1 ∧ (K 2160 k 0) = 1 ∧ (K 2159 k 0) = y ∧ max (K 2158 k 0) x < min ((K 2158 k 0) + (K 2161 k 0)) (x + n)) ∨ (f = 0 ∧ (K 2160 k 0) = 0 ∧ (K 2158 k 0) = x ∧ max (K 2159 k 0) y < min ((K 2159 k 0) + (K 2161 k 0)) (y + n))
def LB (K : qm) (l : Int) : Prop := ((K 2160 l 0) = 0 ∨ (K 2160 l 0) = 1) ∧ 1 ≤ (K 2161 l 0) ∧ 0 ≤ (K 2158 l 0) ∧ 0 ≤ (K 2159 l 0) ∧ (K 2158 l 0) + (K 2161 l 0) ≤ 48 ∧ (K 2159 l 0) + (K 2161 l 0) ≤ 48
section PL
variable {M K : qm} {k l f x y n hx hy e : Int}
theorem LB_of (h_ends : R_ends M K) (l0 : 0 ≤ l) (l1 : l < (M 7 0 0)) : LB K l := by
  have q := h_ends l l0 l1
  unfold LB
  rcases q.1 with g | g
  · rw [g, if_pos rfl, if_pos rfl] at q
    omega
  · rw [g, if_neg (by decide), if_neg (by decide)] at q
    omega
theorem highX_r (hl : 0 ≤ l ∧ l < 20) (h : LB K l) : qf_X16_highX 20000 l K = some (if (K 2160 l 0) = 0 then (K 2158 l 0) else (K 2158 l 0) + (K 2161 l 0)) := by
  unfold LB at h
  unfold qf_X16_highX
  simp only [if_pos hl]
  by_cases g : (K 2160 l 0) = 0
  · rw [if_pos g, if_pos g, w32_id (by omega) (by omega), Int.add_zero]
  · rw [if_neg g, if_neg g, w32_id (by omega) (by omega)]
theorem highY_r (hl : 0 ≤ l ∧ l < 20) (h : LB K l) : qf_X16_highY 20000 l K = some (if (K 2160 l 0) = 0 then (K 2159 l 0) + (K 2161 l 0) else (K 2159 l 0)) := by
  unfold LB at h
  unfold qf_X16_highY
  simp only [if_pos hl]
  by_cases g : (K 2160 l 0) = 0
  · rw [if_pos g, if_pos g, w32_id (by omega) (by omega)]
  · rw [if_neg g, if_neg g, w32_id (by omega) (by omega), Int.add_zero]
theorem along_r (hk : 0 ≤ k ∧ k < 20) (hl : 0 ≤ l ∧ l < 20) (h1 : LB K k) (h2 : LB K l) : qW (qf_X16_along 20000 k l K) (fun v => 1 ≤ v ↔ crsN K k (K 2160 l 0) (K 2158 l 0) (K 2159 l 0) (K 2161 l 0)) := by
  have a1 := highX_r hk h1
  have a2 := highX_r hl h2
  have a3 := highY_r hk h1
  have a4 := highY_r hl h2
  unfold LB at h1 h2
  have p0 : (K 2160 k 0) = 0 → (K 2160 l 0) = 0 → (crsN K k (K 2160 l 0) (K 2158 l 0) (K 2159 l 0) (K 2161 l 0) ↔ ((K 2158 k 0) = (K 2158 l 0) ∧ max (K 2159 k 0) (K 2159 l 0) < min ((K 2159 k 0) + (K 2161 k 0)) ((K 2159 l 0) + (K 2161 l 0)))) := by
    intro a b
    unfold crsN
    constructor <;> intro u <;> omega
  have p1 : (K 2160 k 0) = 1 → (K 2160 l 0) = 1 → (crsN K k (K 2160 l 0) (K 2158 l 0) (K 2159 l 0) (K 2161 l 0) ↔ ((K 2159 k 0) = (K 2159 l 0) ∧ max (K 2158 k 0) (K 2158 l 0) < min ((K 2158 k 0) + (K 2161 k 0)) ((K 2158 l 0) + (K 2161 l 0)))) := by
    intro a b
    unfold crsN
    constructor <;> intro u <;> omega
  have p2 : (K 2160 k 0) ≠ (K 2160 l 0) → ¬ crsN K k (K 2160 l 0) (K 2158 l 0) (K 2159 l 0) (K 2161 l 0) := by
    intro a
    unfold crsN
    omega
  generalize crsN K k (K 2160 l 0) (K 2158 l 0) (K 2159 l 0) (K 2161 l 0) = P at p0 p1 p2 ⊢
  unfold qf_X16_along qf_X16_along_J59 qf_X16_along_J131 qf_X16_along_J196
  simp only [if_pos hk, if_pos hl, a1, a2, a3, a4, Option.bind_some]
  have no : ¬ P → (1 ≤ (-1 : Int) ↔ P) := fun h => ⟨fun u => by omega, fun u => absurd u h⟩
  by_cases g : (K 2160 k 0) = (K 2160 l 0)
  · rw [if_pos g]
    rcases h1.1 with z | z
    · have z2 : (K 2160 l 0) = 0 := by omega
      have hP := p0 z z2
      simp only [z, z2, if_true, reduceIte]
      by_cases g2 : (K 2158 k 0) = (K 2158 l 0)
      · rw [if_pos g2]
        by_cases g3 : (K 2159 k 0) ≤ (K 2159 l 0)
        · rw [if_pos g3]
          by_cases g4 : (K 2159 l 0) + (K 2161 l 0) ≤ (K 2159 k 0) + (K 2161 k 0)
          · rw [if_pos g4, w32_id (by omega) (by omega)]
            exact qW_some (by rw [hP]; constructor <;> intro u <;> omega)
          · rw [if_neg g4, w32_id (by omega) (by omega)]
            exact qW_some (by rw [hP]; constructor <;> intro u <;> omega)
        · rw [if_neg g3]
          by_cases g4 : (K 2159 l 0) + (K 2161 l 0) ≤ (K 2159 k 0) + (K 2161 k 0)
          · rw [if_pos g4, w32_id (by omega) (by omega)]
            exact qW_some (by rw [hP]; constructor <;> intro u <;> omega)
          · rw [if_neg g4, w32_id (by omega) (by omega)]
            exact qW_some (by rw [hP]; constructor <;> intro u <;> omega)
      · rw [if_neg g2]
        exact qW_some (no (fun u => g2 (hP.mp u).1))
    · have z2 : (K 2160 l 0) = 1 := by omega
      have hP := p1 z z2
      simp only [z, z2, if_neg (show ¬ (1 : Int) = 0 by decide)]
      by_cases g2 : (K 2159 k 0) = (K 2159 l 0)
      · rw [if_pos g2]
        by_cases g3 : (K 2158 k 0) ≤ (K 2158 l 0)
        · rw [if_pos g3]
          by_cases g4 : (K 2158 l 0) + (K 2161 l 0) ≤ (K 2158 k 0) + (K 2161 k 0)
          · rw [if_pos g4, w32_id (by omega) (by omega)]
            exact qW_some (by rw [hP]; constructor <;> intro u <;> omega)
          · rw [if_neg g4, w32_id (by omega) (by omega)]
            exact qW_some (by rw [hP]; constructor <;> intro u <;> omega)
        · rw [if_neg g3]
          by_cases g4 : (K 2158 l 0) + (K 2161 l 0) ≤ (K 2158 k 0) + (K 2161 k 0)
          · rw [if_pos g4, w32_id (by omega) (by omega)]
            exact qW_some (by rw [hP]; constructor <;> intro u <;> omega)
          · rw [if_neg g4, w32_id (by omega) (by omega)]
            exact qW_some (by rw [hP]; constructor <;> intro u <;> omega)
      · rw [if_neg g2]
        exact qW_some (no (fun u => g2 (hP.mp u).1))
  · rw [if_neg g]
    exact qW_some (no (p2 g))
def crE (K : qm) (n e f x y m : Int) : Prop := ∃ k, 0 ≤ k ∧ k < n ∧ k ≠ e ∧ crsN K k f x y m
theorem isAlone_r (n0 : 0 ≤ (K 2157 0 0)) (n1 : (K 2157 0 0) ≤ 20) (hl : 0 ≤ l ∧ l < 20) (h2 : LB K l) (h1 : ∀ k, 0 ≤ k → k < (K 2157 0 0) → LB K k) : qf_X16_isAlone 20000 l K = some (b01 (¬ crE K (K 2157 0 0) l (K 2160 l 0) (K 2158 l 0) (K 2159 l 0) (K 2161 l 0))) := by
  refine qW_e ?_
  unfold qf_X16_isAlone
  refine qW_call (Q := fun o => o = .inr (b01 (¬ crE K (K 2157 0 0) l (K 2160 l 0) (K 2158 l 0) (K 2159 l 0) (K 2161 l 0)))) ?_ ?_
  · unfold qf_X16_isAlone_L4
    refine qW_for (K 2157 0 0) (fun i s => s = (l, b01 (¬ crE K i l (K 2160 l 0) (K 2158 l 0) (K 2159 l 0) (K 2161 l 0)), i)) ?_ ?_ ?_ n0 (by omega)
    · rintro i _ i0 i1 rfl
      have e1 : w32 (i + 1) = i + 1 := w32_id (by omega) (by omega)
      unfold qf_X16_isAlone_L4_b qf_X16_isAlone_J31 qf_X16_isAlone_J35
      (try dsimp only)
      rw [if_neg (show ¬ (K 2157 0 0) ≤ i by omega), e1]
      have grow : crE K i l (K 2160 l 0) (K 2158 l 0) (K 2159 l 0) (K 2161 l 0) → crE K (i + 1) l (K 2160 l 0) (K 2158 l 0) (K 2159 l 0) (K 2161 l 0) := fun ⟨k, a, b, c, d⟩ => ⟨k, a, by omega, c, d⟩
      have keep : ¬ crE K i l (K 2160 l 0) (K 2158 l 0) (K 2159 l 0) (K 2161 l 0) → (i = l ∨ ¬ crsN K i (K 2160 l 0) (K 2158 l 0) (K 2159 l 0) (K 2161 l 0)) → ¬ crE K (i + 1) l (K 2160 l 0) (K 2158 l 0) (K 2159 l 0) (K 2161 l 0) := by
        rintro h3 h4 ⟨k, a, b, c, d⟩
        by_cases g : k = i
        · rw [g] at c d
          exact h4.elim c (fun z => z d)
        · exact h3 ⟨k, a, by omega, c, d⟩
      refine qW_mono (Q := fun o => o = Sum.inr (l, b01 (¬ crE K (i + 1) l (K 2160 l 0) (K 2158 l 0) (K 2159 l 0) (K 2161 l 0)), i + 1)) ?_ (by rintro _ rfl; exact rfl)
      rcases b01_o (p := ¬ crE K i l (K 2160 l 0) (K 2158 l 0) (K 2159 l 0) (K 2161 l 0)) with ⟨g1, g2⟩ | ⟨g1, g2⟩
      · rw [g1, if_neg (by decide)]
        by_cases g3 : i = l
        · rw [if_pos g3]
          exact qW_some (by rw [b01_t (keep g2 (Or.inl g3))])
        · rw [if_neg g3]
          refine qW_call (along_r (by omega) hl (h1 i i0 i1) h2) ?_
          intro v hv
          by_cases g4 : 1 ≤ v
          · rw [if_pos g4]
            exact qW_some (by rw [b01_f (fun z => z ⟨i, i0, by omega, g3, hv.mp g4⟩)])
          · rw [if_neg g4]
            exact qW_some (by rw [b01_t (keep g2 (Or.inr (fun z => g4 (hv.mpr z))))])
      · rw [g1, if_pos rfl]
        have g3 : crE K i l (K 2160 l 0) (K 2158 l 0) (K 2159 l 0) (K 2161 l 0) := Classical.byContradiction g2
        exact qW_some (by rw [b01_f (fun z => z (grow g3))])
    · rintro _ rfl
      unfold qf_X16_isAlone_L4_b
      (try dsimp only)
      rw [if_pos (Int.le_refl _)]
      exact qW_some rfl
    · rw [b01_t (by rintro ⟨k, a, b, _⟩; omega)]
  · rintro _ rfl
    (try dsimp only)
    rw [if_pos b01_01]
    exact qW_some rfl
theorem liesAlong_r (h_lines : R_lines M K) (h_ends : R_ends M K) (hf : f = 0 ∨ f = 1) (hn : 1 ≤ n) (ex : hx = if f = 0 then x else x + n) (ey : hy = if f = 0 then y + n else y) : qf_X8_liesAlong 20000 e x y hx hy M = some (b01 (crE K (M 7 0 0) e f x y n)) := by
  have s_lines := h_lines
  unfold R_lines at s_lines
  have hd : (f = 0 ∧ hx = x ∧ hy = y + n) ∨ (f = 1 ∧ hx = x + n ∧ hy = y) := by
    rcases hf with g | g
    · rw [if_pos g] at ex ey
      omega
    · rw [if_neg (by omega)] at ex ey
      omega
  clear ex ey hf
  refine qW_e ?_
  unfold qf_X8_liesAlong qf_X8_liesAlong_L3
  refine qW_call (Q := fun o => match o with
    | .inl r => r = 1 ∧ crE K (M 7 0 0) e f x y n
    | .inr _ => ¬ crE K (M 7 0 0) e f x y n) ?_ ?_
  · refine qW_for (M 7 0 0) (fun i s => s = (e, x, y, hx, hy, i) ∧ ∀ k, 0 ≤ k → k < i → ¬ (k ≠ e ∧ crsN K k f x y n)) ?_ ?_ ⟨rfl, all_0⟩ s_lines.1 (by omega)
    · rintro i _ i0 i1 ⟨rfl, hi⟩
      have e1 : w32 (i + 1) = i + 1 := w32_id (by omega) (by omega)
      have hr : 0 ≤ i ∧ i < 20 := by omega
      have q := h_ends i i0 i1
      have qd : ((K 2160 i 0) = 0 ∧ 1 ≤ (K 2161 i 0) ∧ (M 8 i 0) = (K 2158 i 0) ∧ (M 8 i 1) = (K 2159 i 0) ∧ (M 8 i 2) = (K 2158 i 0) ∧ (M 8 i 3) = (K 2159 i 0) + (K 2161 i 0)) ∨ ((K 2160 i 0) = 1 ∧ 1 ≤ (K 2161 i 0) ∧ (M 8 i 0) = (K 2158 i 0) ∧ (M 8 i 1) = (K 2159 i 0) ∧ (M 8 i 2) = (K 2158 i 0) + (K 2161 i 0) ∧ (M 8 i 3) = (K 2159 i 0)) := by
        rcases q.1 with g | g
        · rw [g, if_pos rfl, if_pos rfl] at q
          omega
        · rw [g, if_neg (by decide), if_neg (by decide)] at q
          omega
      clear q
      have no : ¬ (i ≠ e ∧ crsN K i f x y n) → ∀ k, 0 ≤ k → k < i + 1 → ¬ (k ≠ e ∧ crsN K k f x y n) := fun h => all_s hi h
      have ye : (i ≠ e ∧ crsN K i f x y n) → crE K (M 7 0 0) e f x y n := fun h => ⟨i, i0, i1, h.1, h.2⟩
      unfold qf_X8_liesAlong_L3_b qf_X8_liesAlong_J50 qf_X8_liesAlong_J51 qf_X8_liesAlong_J82 qf_X8_liesAlong_J83 qf_X8_liesAlong_J118
      (try dsimp only)
      rw [if_neg (show ¬ (M 7 0 0) ≤ i by omega), if_pos hr, e1]
      simp only [if_true, reduceIte, if_neg (show ¬ (1 : Int) = 0 by decide)]
      generalize (M 8 i 0) = a0 at *
      generalize (M 8 i 1) = a1 at *
      generalize (M 8 i 2) = a2 at *
      generalize (M 8 i 3) = a3 at *
      unfold crsN at no ye
      rcases hd with ⟨hf, h1, h2⟩ | ⟨hf, h1, h2⟩
      · have c1 : ¬ y = hy := by omega
        have c2 : x = hx := by omega
        rw [if_neg c1]
        simp only [if_pos c2]
        (repeat' with_reducible refine qW_ite (fun _ => ?_) (fun _ => ?_)) <;> first
          | exact qW_some ⟨rfl, no (by omega)⟩
          | exact qW_some ⟨rfl, ye (by omega)⟩
      · have c1 : y = hy := by omega
        have c2 : ¬ x = hx := by omega
        rw [if_pos c1]
        simp only [if_neg c2]
        (repeat' with_reducible refine qW_ite (fun _ => ?_) (fun _ => ?_)) <;> first
          | exact qW_some ⟨rfl, no (by omega)⟩
          | exact qW_some ⟨rfl, ye (by omega)⟩
    · rintro _ ⟨rfl, hi⟩
      unfold qf_X8_liesAlong_L3_b
      (try dsimp only)
      rw [if_pos (Int.le_refl _)]
      exact qW_some (fun ⟨k, a, b, c, d⟩ => hi k a b ⟨c, d⟩)
  · rintro (o | o) z
    · exact qW_some (by rw [b01_t z.2]; exact z.1)
    · exact qW_some (b01_f z).symm
end PL
