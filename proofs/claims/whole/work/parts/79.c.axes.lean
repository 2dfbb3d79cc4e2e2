/-! ===== the reference's columns and rows ===== -/
section AX
variable {M K E : qm} {n p k v z l x y : Int}
/-- the lines are the same -/
def PLS (K E : qm) : Prop := (∀ i, (E 2158 i 0) = (K 2158 i 0)) ∧ (∀ i, (E 2159 i 0) = (K 2159 i 0)) ∧ (∀ i, (E 2160 i 0) = (K 2160 i 0)) ∧ (∀ i, (E 2161 i 0) = (K 2161 i 0)) ∧ (E 2157 0 0) = (K 2157 0 0)
theorem PLS_r : PLS K K := ⟨fun _ => rfl, fun _ => rfl, fun _ => rfl, fun _ => rfl, rfl⟩
theorem PLS_w {a : Nat} {i j : Int} (h : PLS K E) (ha : (a ≠ 2158 ∧ a ≠ 2159 ∧ a ≠ 2160 ∧ a ≠ 2161) ∧ (a ≠ 2157 ∨ i ≠ 0)) : PLS K (qw E a i j v) := by
  obtain ⟨h1, h2, h3, h4, h5⟩ := h
  refine ⟨fun k => (qw_a (Ne.symm ha.1.1)).trans (h1 k), fun k => (qw_a (Ne.symm ha.1.2.1)).trans (h2 k), fun k => (qw_a (Ne.symm ha.1.2.2.1)).trans (h3 k), fun k => (qw_a (Ne.symm ha.1.2.2.2)).trans (h4 k), ?_⟩
  rw [qw_ap, if_neg (by omega)]
  exact h5
theorem PLS_o {a : Nat} {G : qm} (h : PLS K E) (hf : ofr a E G) (ha : a ≠ 2158 ∧ a ≠ 2159 ∧ a ≠ 2160 ∧ a ≠ 2161 ∧ a ≠ 2157) : PLS K G := by
  obtain ⟨h1, h2, h3, h4, h5⟩ := h
  exact ⟨fun k => (hf _ _ _ (Ne.symm ha.1)).trans (h1 k), fun k => (hf _ _ _ (Ne.symm ha.2.1)).trans (h2 k), fun k => (hf _ _ _ (Ne.symm ha.2.2.1)).trans (h3 k), fun k => (hf _ _ _ (Ne.symm ha.2.2.2.1)).trans (h4 k), (hf _ _ _ (Ne.symm ha.2.2.2.2)).trans h5⟩
theorem hiX_e (h_lines : R_lines M K) (h_ends : R_ends M K) (h : PLS K E) (l0 : 0 ≤ l) (l1 : l < (M 7 0 0)) : qf_X16_highX 20000 l E = some (M 8 l 2) := by
  have q := h_ends l l0 l1
  unfold R_lines at h_lines
  have c : 0 ≤ l ∧ l < 20 := ⟨l0, by omega⟩
  unfold qf_X16_highX
  rw [if_pos c, if_pos c, h.2.2.1]
  rcases q.1 with g | g
  · rw [g, if_pos rfl, if_pos rfl] at q
    rw [g, if_pos rfl, h.1, w32_id (by omega) (by omega), q.2.2.2.2.1]
  · rw [g, if_neg (by decide), if_neg (by decide)] at q
    rw [g, if_neg (by decide), if_pos c, h.1, h.2.2.2.1, w32_id (by omega) (by omega), q.2.2.2.2.1]
theorem hiY_e (h_lines : R_lines M K) (h_ends : R_ends M K) (h : PLS K E) (l0 : 0 ≤ l) (l1 : l < (M 7 0 0)) : qf_X16_highY 20000 l E = some (M 8 l 3) := by
  have q := h_ends l l0 l1
  unfold R_lines at h_lines
  have c : 0 ≤ l ∧ l < 20 := ⟨l0, by omega⟩
  unfold qf_X16_highY
  rw [if_pos c, if_pos c, h.2.2.1]
  rcases q.1 with g | g
  · rw [g, if_pos rfl, if_pos rfl] at q
    rw [g, if_pos rfl, if_pos c, h.2.1, h.2.2.2.1, w32_id (by omega) (by omega), q.2.2.2.2.2.1]
  · rw [g, if_neg (by decide), if_neg (by decide)] at q
    rw [g, if_neg (by decide), h.2.1, w32_id (by omega) (by omega), q.2.2.2.2.2.1]
def AXF (K E : qm) : Prop := ∀ b i j, b ≠ 2166 → b ≠ 2167 → ¬ (b = 2157 ∧ (i = 12 ∨ i = 13)) → E b i j = K b i j
def AXS (M E : qm) (n : Int) : Prop := SRx E (E 2157 12 0) ∧ SRy E (E 2157 13 0) ∧ (∀ z, (∃ i, 0 ≤ i ∧ i < (E 2157 12 0) ∧ (E 2166 i 0) = z) ↔ ∃ l, 0 ≤ l ∧ l < n ∧ (z = (M 8 l 0) ∨ z = (M 8 l 2))) ∧ (∀ z, (∃ i, 0 ≤ i ∧ i < (E 2157 13 0) ∧ (E 2167 i 0) = z) ↔ ∃ l, 0 ≤ l ∧ l < n ∧ (z = (M 8 l 1) ∨ z = (M 8 l 3)))
theorem SRx_o {G : qm} (h : SRx E n) (hf : ∀ i, (G 2166 i 0) = (E 2166 i 0)) : SRx G n := by
  refine ⟨h.1, fun i j a b c => ?_, fun i a b => ?_⟩
  · rw [hf, hf]
    exact h.2.1 i j a b c
  · rw [hf]
    exact h.2.2 i a b
theorem SRy_o {G : qm} (h : SRy E n) (hf : ∀ i, (G 2167 i 0) = (E 2167 i 0)) : SRy G n := by
  refine ⟨h.1, fun i j a b c => ?_, fun i a b => ?_⟩
  · rw [hf, hf]
    exact h.2.1 i j a b c
  · rw [hf]
    exact h.2.2 i a b
theorem axes_s (h_lines : R_lines M K) (h_ends : R_ends M K) (hP : PLS K E) (hF : AXF K E) (h : AXS M E l) (l0 : 0 ≤ l) (l1 : l < (M 7 0 0)) : qW (qf_X16_run_L26_b 20000 l E) (fun o => ∃ G, o = .inr (l + 1, G) ∧ PLS K G ∧ AXF K G ∧ AXS M G (l + 1)) := by
  have q := ends_b h_ends l0 l1
  have qe := h_ends l l0 l1
  have s_lines := h_lines
  unfold R_lines at s_lines
  have c : 0 ≤ l ∧ l < 20 := ⟨l0, by omega⟩
  have el : (E 2157 0 0) = (M 7 0 0) := hP.2.2.2.2.trans s_lines.2.2
  obtain ⟨hx, hy, sx, sy⟩ := h
  unfold qf_X16_run_L26_b
  rw [if_neg (by omega), if_pos c, show E 2158 l 0 = (M 8 l 0) by rw [hP.1, qe.2.2.1]]
  refine qW_call (insx_r hx (v := (M 8 l 0)) q.1 (by omega)) ?_
  rintro ⟨n1, E1⟩ ⟨a1, a2, a3⟩
  (try dsimp only at a1 a2 a3 ⊢)
  refine qW_bnd ?_
  have P1 : PLS K (qw E1 2157 12 0 n1) := PLS_w (PLS_o hP a2 (by decide)) (by decide)
  refine qW_eq (hiX_e h_lines h_ends P1 l0 l1) ?_
  (try dsimp only)
  rw [show qw E1 2157 12 0 n1 2157 12 0 = n1 from qw_s]
  have b1 : SRx (qw E1 2157 12 0 n1) n1 := SRx_o a1 (fun i => qw_a (by decide))
  refine qW_call (insx_r b1 (v := (M 8 l 2)) (by omega) q.2.2.1) ?_
  rintro ⟨n2, E2⟩ ⟨c1, c2, c3⟩
  (try dsimp only at c1 c2 c3 ⊢)
  refine qW_bnd ?_
  have P2 : PLS K (qw E2 2157 12 0 n2) := PLS_w (PLS_o P1 c2 (by decide)) (by decide)
  have er : qw E2 2157 12 0 n2 2157 13 0 = (E 2157 13 0) := by
    rw [qw_i (by decide), c2 _ _ _ (by decide), qw_i (by decide), a2 _ _ _ (by decide)]
  have ey : ∀ i, qw E2 2157 12 0 n2 2167 i 0 = (E 2167 i 0) := fun i => by
    rw [qw_a (by decide), c2 _ _ _ (by decide), qw_a (by decide), a2 _ _ _ (by decide)]
  rw [if_pos c, er, show qw E2 2157 12 0 n2 2159 l 0 = (M 8 l 1) by rw [P2.2.1, qe.2.2.2.1]]
  have hy2 : SRy (qw E2 2157 12 0 n2) (E 2157 13 0) := SRy_o hy ey
  refine qW_call (insy_r hy2 (v := (M 8 l 1)) q.2.1 (by omega)) ?_
  rintro ⟨n3, E3⟩ ⟨d1, d2, d3⟩
  (try dsimp only at d1 d2 d3 ⊢)
  refine qW_bnd ?_
  have P3 : PLS K (qw E3 2157 13 0 n3) := PLS_w (PLS_o P2 d2 (by decide)) (by decide)
  refine qW_eq (hiY_e h_lines h_ends P3 l0 l1) ?_
  (try dsimp only)
  rw [show qw E3 2157 13 0 n3 2157 13 0 = n3 from qw_s]
  have b3 : SRy (qw E3 2157 13 0 n3) n3 := SRy_o d1 (fun i => qw_a (by decide))
  refine qW_call (insy_r b3 (v := (M 8 l 3)) (by omega) q.2.2.2.1) ?_
  rintro ⟨n4, E4⟩ ⟨f1, f2, f3⟩
  (try dsimp only at f1 f2 f3 ⊢)
  refine qW_bnd ?_
  rw [w32_id (x := l + 1) (by omega) (by omega)]
  have gx : ∀ i, qw E4 2157 13 0 n4 2166 i 0 = (E2 2166 i 0) := fun i => by
    rw [qw_a (by decide), f2 _ _ _ (by decide), qw_a (by decide), d2 _ _ _ (by decide), qw_a (by decide)]
  have gc : qw E4 2157 13 0 n4 2157 12 0 = n2 := by
    rw [qw_i (by decide), f2 _ _ _ (by decide), qw_i (by decide), d2 _ _ _ (by decide), qw_s]
  have gy : ∀ i, qw E4 2157 13 0 n4 2167 i 0 = (E4 2167 i 0) := fun i => qw_a (by decide)
  have gr : qw E4 2157 13 0 n4 2157 13 0 = n4 := qw_s
  refine qW_some ⟨_, rfl, PLS_w (PLS_o P3 f2 (by decide)) (by decide), fun b i j b1 b2 b3 => ?_, ?_, ?_, fun z => ?_, fun z => ?_⟩
  · rw [qw_ap, if_neg (by omega), f2 _ _ _ b2, qw_ap, if_neg (by omega), d2 _ _ _ b2, qw_ap, if_neg (by omega), c2 _ _ _ b1, qw_ap, if_neg (by omega), a2 _ _ _ b1]
    exact hF b i j b1 b2 b3
  · rw [gc]
    exact SRx_o c1 gx
  · rw [gr]
    exact SRy_o f1 gy
  · rw [gc]
    have u := sx z
    have r1 := a3 z
    have r2 := c3 z
    constructor
    · rintro ⟨i, i0, i1, i2⟩
      rw [gx] at i2
      rcases r2.mp ⟨i, i0, i1, i2⟩ with w | ⟨i, i0, i1, i2⟩
      · exact ⟨l, l0, by omega, Or.inr w⟩
      · rw [qw_a (by decide)] at i2
        rcases r1.mp ⟨i, i0, i1, i2⟩ with w | w
        · exact ⟨l, l0, by omega, Or.inl w⟩
        · obtain ⟨k, k0, k1, k2⟩ := u.mp w
          exact ⟨k, k0, by omega, k2⟩
    · rintro ⟨k, k0, k1, k2⟩
      have w : ∃ i, 0 ≤ i ∧ i < n2 ∧ (E2 2166 i 0) = z := by
        by_cases e : k = l
        · rw [e] at k2
          rcases k2 with k2 | k2
          · obtain ⟨i, i0, i1, i2⟩ := r1.mpr (Or.inl k2)
            exact r2.mpr (Or.inr ⟨i, i0, i1, by rw [qw_a (by decide)]; exact i2⟩)
          · exact r2.mpr (Or.inl k2)
        · obtain ⟨i, i0, i1, i2⟩ := r1.mpr (Or.inr (u.mpr ⟨k, k0, by omega, k2⟩))
          exact r2.mpr (Or.inr ⟨i, i0, i1, by rw [qw_a (by decide)]; exact i2⟩)
      obtain ⟨i, i0, i1, i2⟩ := w
      exact ⟨i, i0, i1, by rw [gx]; exact i2⟩
  · rw [gr]
    have u := sy z
    have r1 := d3 z
    have r2 := f3 z
    constructor
    · rintro ⟨i, i0, i1, i2⟩
      rw [gy] at i2
      rcases r2.mp ⟨i, i0, i1, i2⟩ with w | ⟨i, i0, i1, i2⟩
      · exact ⟨l, l0, by omega, Or.inr w⟩
      · rw [qw_a (by decide)] at i2
        rcases r1.mp ⟨i, i0, i1, i2⟩ with w | ⟨i, i0, i1, i2⟩
        · exact ⟨l, l0, by omega, Or.inl w⟩
        · rw [ey] at i2
          obtain ⟨k, k0, k1, k2⟩ := u.mp ⟨i, i0, i1, i2⟩
          exact ⟨k, k0, by omega, k2⟩
    · rintro ⟨k, k0, k1, k2⟩
      have w : ∃ i, 0 ≤ i ∧ i < n4 ∧ (E4 2167 i 0) = z := by
        by_cases e : k = l
        · rw [e] at k2
          rcases k2 with k2 | k2
          · obtain ⟨i, i0, i1, i2⟩ := r1.mpr (Or.inl k2)
            exact r2.mpr (Or.inr ⟨i, i0, i1, by rw [qw_a (by decide)]; exact i2⟩)
          · exact r2.mpr (Or.inl k2)
        · obtain ⟨i, i0, i1, i2⟩ := u.mpr ⟨k, k0, by omega, k2⟩
          obtain ⟨i, i0, i1, i2⟩ := r1.mpr (Or.inr ⟨i, i0, i1, by rw [ey]; exact i2⟩)
          exact r2.mpr (Or.inr ⟨i, i0, i1, by rw [qw_a (by decide)]; exact i2⟩)
      obtain ⟨i, i0, i1, i2⟩ := w
      exact ⟨i, i0, i1, by rw [gy]; exact i2⟩
theorem axes_r (h_lines : R_lines M K) (h_ends : R_ends M K) (hP : PLS K E) (hF : AXF K E) (hc : (E 2157 12 0) = 0) (hr : (E 2157 13 0) = 0) : qW (qf_X16_run_L26 20000 20000 0 E) (fun o => ∃ G, o = .inr ((), G) ∧ PLS K G ∧ AXF K G ∧ AXS M G (M 7 0 0)) := by
  have s_lines := h_lines
  unfold R_lines at s_lines
  unfold qf_X16_run_L26
  refine qW_for (M 7 0 0) (fun l t => ∃ G, t = (l, G) ∧ PLS K G ∧ AXF K G ∧ AXS M G l) ?_ ?_ ?_ (by omega) (by omega)
  · rintro l _ l0 l1 ⟨G, rfl, h1, h2, h3⟩
    refine qW_mono (axes_s h_lines h_ends h1 h2 h3 l0 l1) ?_
    rintro _ ⟨G', rfl, g⟩
    exact ⟨G', rfl, g⟩
  · rintro _ ⟨G, rfl, h1, h2, h3⟩
    unfold qf_X16_run_L26_b
    (try dsimp only)
    rw [if_pos (by rw [h1.2.2.2.2]; omega)]
    exact qW_some ⟨G, rfl, h1, h2, h3⟩
  · refine ⟨E, rfl, hP, hF, ⟨by rw [hc]; decide, fun i j a b c => by omega, fun i a b => by omega⟩, ⟨by rw [hr]; decide, fun i j a b c => by omega, fun i a b => by omega⟩, fun z => ?_, fun z => ?_⟩
    · constructor
      · rintro ⟨i, i0, i1, _⟩
        omega
      · rintro ⟨i, i0, i1, _⟩
        omega
    · constructor
      · rintro ⟨i, i0, i1, _⟩
        omega
      · rintro ⟨i, i0, i1, _⟩
        omega
end AX
