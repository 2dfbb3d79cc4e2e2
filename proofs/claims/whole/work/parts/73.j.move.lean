/-! ===== the call move ===== -/
section MV
variable {M K : qm} {l f x y n hx hy x1 x2 x3 : Int}
def mvR (K : qm) (l x y : Int) : qm := qw (qw K 2158 l 0 x) 2159 l 0 y
theorem mv_at {i : Int} : (mvR K l x y) 2158 i 0 = (if i = l then x else (K 2158 i 0)) ∧ (mvR K l x y) 2159 i 0 = (if i = l then y else (K 2159 i 0)) := by
  unfold mvR
  refine ⟨?_, ?_⟩
  · simp only [qw_ap, false_and, true_and, and_true, and_false, and_self, if_false, if_true, reduceIte, Nat.reduceEqDiff, Int.reduceEq]
  · simp only [qw_ap, false_and, true_and, and_true, and_false, and_self, if_false, if_true, reduceIte, Nat.reduceEqDiff, Int.reduceEq]
theorem mv_o {b : Nat} {i j : Int} (h : b ≠ 2158) (h2 : b ≠ 2159) : (mvR K l x y) b i j = K b i j := by
  unfold mvR
  rw [qw_a h2, qw_a h]
/-- alone after a move: as the class asks -/
theorem mvAlone_r (h_lines : R_lines M K) (h_ends : R_ends M K) (l0 : 0 ≤ l) (l1 : l < (M 7 0 0)) (hx0 : 0 ≤ x) (hy0 : 0 ≤ y) (bx : x ≤ 24) (by_ : y ≤ 24) : qf_X16_isAlone 20000 l (mvR K l x y) = some (if b01 (crE K (M 7 0 0) l (K 2160 l 0) x y (K 2161 l 0)) = 0 then 1 else 0) := by
  have s_lines := h_lines
  unfold R_lines at s_lines
  have q := LB_of h_ends l0 l1
  have e := h_ends l l0 l1
  have len24 : (K 2161 l 0) ≤ 24 := by
    rcases e.1 with g | g
    · rw [g, if_pos rfl, if_pos rfl] at e
      omega
    · rw [g, if_neg (by decide), if_neg (by decide)] at e
      omega
  have kl : (mvR K l x y) 2157 0 0 = (M 7 0 0) := s_lines.2.2
  have a := mv_at (K := K) (l := l) (x := x) (y := y) (i := l)
  rw [if_pos rfl, if_pos rfl] at a
  have a3 : (mvR K l x y) 2160 l 0 = (K 2160 l 0) := mv_o (by decide) (by decide)
  have a4 : (mvR K l x y) 2161 l 0 = (K 2161 l 0) := mv_o (by decide) (by decide)
  have eA := isAlone_r (K := mvR K l x y) (l := l) (by rw [kl]; exact s_lines.1) (by rw [kl]; exact s_lines.2.1) (by omega) (by
    unfold LB at q ⊢
    rw [a.1, a.2, a3, a4]
    exact ⟨q.1, q.2.1, hx0, hy0, by omega, by omega⟩) (by
    intro k k0 k1
    rw [kl] at k1
    have z := LB_of h_ends k0 k1
    have ak := mv_at (K := K) (l := l) (x := x) (y := y) (i := k)
    by_cases g : k = l
    · rw [g]
      unfold LB at q ⊢
      rw [a.1, a.2, a3, a4]
      exact ⟨q.1, q.2.1, hx0, hy0, by omega, by omega⟩
    · rw [if_neg g, if_neg g] at ak
      unfold LB at z ⊢
      rw [ak.1, ak.2, show (mvR K l x y) 2160 k 0 = (K 2160 k 0) from mv_o (by decide) (by decide), show (mvR K l x y) 2161 k 0 = (K 2161 k 0) from mv_o (by decide) (by decide)]
      exact z)
  rw [a.1, a.2, a3, a4, kl] at eA
  have hE : crE (mvR K l x y) (M 7 0 0) l (K 2160 l 0) x y (K 2161 l 0) ↔ crE K (M 7 0 0) l (K 2160 l 0) x y (K 2161 l 0) := by
    have ak : ∀ k, k ≠ l → (crsN (mvR K l x y) k (K 2160 l 0) x y (K 2161 l 0) ↔ crsN K k (K 2160 l 0) x y (K 2161 l 0)) := by
      intro k hk
      have z := mv_at (K := K) (l := l) (x := x) (y := y) (i := k)
      rw [if_neg hk, if_neg hk] at z
      exact crsN_x z.1 z.2 (mv_o (by decide) (by decide)) (mv_o (by decide) (by decide))
    unfold crE
    constructor
    · rintro ⟨k, k0, k1, k2, k3⟩
      exact ⟨k, k0, k1, k2, (ak k k2).mp k3⟩
    · rintro ⟨k, k0, k1, k2, k3⟩
      exact ⟨k, k0, k1, k2, (ak k k2).mpr k3⟩
  rw [eA]
  refine congrArg some ?_
  rcases b01_o (p := crE K (M 7 0 0) l (K 2160 l 0) x y (K 2161 l 0)) with g | g
  · rw [g.1, if_neg (by decide), b01_f (fun z => z (hE.mpr g.2))]
  · rw [g.1, if_pos rfl, b01_t (fun z => g.2 (hE.mp z))]
theorem move_ok (h : LNT M K) (hb : (M 6 11 0) = 0) (l0 : 0 ≤ l) (l1 : l < (M 7 0 0)) (x0 : 0 ≤ x) (y0 : 0 ≤ y) (ex : hx = if (K 2160 l 0) = 0 then x else x + (K 2161 l 0)) (ey : hy = if (K 2160 l 0) = 0 then y + (K 2161 l 0) else y) (x24 : hx ≤ 24) (y24 : hy ≤ 24) : LNT (qw (lnC M l x y hx hy) 51 2 0 0) (qw (mvR K l x y) 2157 10 0 0) := by
  obtain ⟨h_lines, h_ends, h_doorn, h_doors, h_find0, h_portn, h_portw, h_portc⟩ := h
  have p0 : (M 824 3 0) = 0 := h_portn.2.2.2.2.2.2.2 hb
  have s1 : ∀ i j, (lnC M l x y hx hy) 8 i j = if i = l ∧ j = 3 then hy else if i = l ∧ j = 2 then hx else if i = l ∧ j = 1 then y else if i = l ∧ j = 0 then x else (M 8 i j) := by
    intro i j
    unfold lnC
    simp only [qw_ap, false_and, true_and, and_true, and_false, and_self, if_false, if_true, reduceIte, Nat.reduceEqDiff, Int.reduceEq]
  have q := h_ends l l0 l1
  refine ⟨?_, ?_, ?_, ?_, ?_, ?_, fun p a b => ?_, fun p a b => ?_⟩
  · exact h_lines
  · refine ends_set (l := l) (f := (K 2160 l 0)) (x := x) (y := y) (n := (K 2161 l 0)) (hx := hx) (hy := hy) h_ends q.1 q.2.1 x0 y0 ex ey x24 y24 l0 (Or.inl rfl) s1 (fun i => (mv_at (K := K) (l := l) (x := x) (y := y) (i := i)).1) (fun i => (mv_at (K := K) (l := l) (x := x) (y := y) (i := i)).2) (fun i => ?_) (fun i => ?_)
    · show (K 2160 i 0) = _
      split
      · rename_i g
        rw [g]
      · rfl
    · show (K 2161 i 0) = _
      split
      · rename_i g
        rw [g]
      · rfl
  · exact h_doorn
  · exact h_doors
  · unfold R_find0 at h_find0 ⊢
    obtain ⟨q1, q2, q3, q4, q5, q6⟩ := h_find0
    exact ⟨q1, q2, q3, Or.inl rfl, rfl, q6⟩
  · exact h_portn
  · have b : p < (M 824 3 0) := b
    omega
  · have b : p < (M 824 3 0) := b
    omega
theorem isP_r {v : Int} : qf_X16_isIn 20000 v K = some (b01 (0 ≤ v ∧ v ≤ 24)) := by
  unfold qf_X16_isIn
  by_cases g : v < 0
  · rw [if_pos g, b01_f (by omega)]
  · rw [if_neg g]
    by_cases g2 : 24 < v
    · rw [if_pos g2, b01_f (by omega)]
    · rw [if_neg g2, b01_t ⟨by omega, by omega⟩]
theorem staysOn_r (l0 : 0 ≤ l) (l1 : l < 20) (hx2 : -2147483648 ≤ x2 ∧ x2 ≤ 2147483647) (hx3 : -2147483648 ≤ x3 ∧ x3 ≤ 2147483647) (b0 : 0 ≤ (M 8 l 0) ∧ (M 8 l 0) ≤ 24) (b1 : 0 ≤ (M 8 l 1) ∧ (M 8 l 1) ≤ 24) (b2 : 0 ≤ (M 8 l 2) ∧ (M 8 l 2) ≤ 24) (b3 : 0 ≤ (M 8 l 3) ∧ (M 8 l 3) ≤ 24) : qf_X8_staysOnPlan 20000 l x2 x3 M = some (b01 (0 ≤ (M 8 l 0) + x2 ∧ (M 8 l 2) + x2 ≤ 24 ∧ 0 ≤ (M 8 l 1) + x3 ∧ (M 8 l 3) + x3 ≤ 24)) := by
  unfold qf_X8_staysOnPlan
  rw [if_pos ⟨l0, l1⟩, w64_id (by omega) (by omega), w64_id (by omega) (by omega), w64_id (by omega) (by omega), w64_id (by omega) (by omega)]
  by_cases g1 : (M 8 l 0) + x2 < 0
  · rw [if_pos g1, b01_f (by omega)]
  · rw [if_neg g1]
    by_cases g2 : 24 < (M 8 l 2) + x2
    · rw [if_pos g2, b01_f (by omega)]
    · rw [if_neg g2]
      by_cases g3 : (M 8 l 1) + x3 < 0
      · rw [if_pos g3, b01_f (by omega)]
      · rw [if_neg g3]
        by_cases g4 : 24 < (M 8 l 3) + x3
        · rw [if_pos g4, b01_f (by omega)]
        · rw [if_neg g4, b01_t (by omega)]
theorem mayGo_r (l0 : 0 ≤ l) (l1 : l < 20) (h : LB K l) (hx2 : hx = if (K 2160 l 0) = 0 then (K 2158 l 0) else (K 2158 l 0) + (K 2161 l 0)) (hy2 : hy = if (K 2160 l 0) = 0 then (K 2159 l 0) + (K 2161 l 0) else (K 2159 l 0)) (h24 : hx ≤ 24 ∧ hy ≤ 24) : qf_X16_mayGo 20000 l x2 x3 K = some (b01 (0 ≤ (K 2158 l 0) + x2 ∧ hx + x2 ≤ 24 ∧ 0 ≤ (K 2159 l 0) + x3 ∧ hy + x3 ≤ 24)) := by
  have a1 := highX_r ⟨l0, l1⟩ h
  have a2 := highY_r ⟨l0, l1⟩ h
  rw [← hx2] at a1
  rw [← hy2] at a2
  have hr : (K 2158 l 0) ≤ hx ∧ (K 2159 l 0) ≤ hy := by
    unfold LB at h
    rw [hx2, hy2]
    split <;> omega
  unfold LB at h
  clear hx2 hy2
  refine qW_e ?_
  unfold qf_X16_mayGo
  by_cases c1 : x2 < -24
  · rw [if_pos c1, b01_f (by omega)]
    exact qW_some rfl
  · rw [if_neg c1]
    by_cases c2 : 24 < x2
    · rw [if_pos c2, b01_f (by omega)]
      exact qW_some rfl
    · rw [if_neg c2]
      by_cases c3 : x3 < -24
      · rw [if_pos c3, b01_f (by omega)]
        exact qW_some rfl
      · rw [if_neg c3]
        by_cases c4 : 24 < x3
        · rw [if_pos c4, b01_f (by omega)]
          exact qW_some rfl
        · rw [if_neg c4, if_pos ⟨l0, l1⟩, w32_id (x := (K 2158 l 0) + x2) (by omega) (by omega), isP_r]
          refine qW_bind (qW_some ?_)
          (try dsimp only)
          refine qW_b (fun g => ?_) (fun g => ?_)
          · rw [b01_f (by omega)]
            exact qW_some rfl
          · rw [if_pos ⟨l0, l1⟩, w32_id (x := (K 2159 l 0) + x3) (by omega) (by omega), isP_r]
            refine qW_bind (qW_some ?_)
            (try dsimp only)
            refine qW_b (fun g2 => ?_) (fun g2 => ?_)
            · rw [b01_f (by omega)]
              exact qW_some rfl
            · rw [a1]
              refine qW_bind (qW_some ?_)
              (try dsimp only)
              rw [w32_id (x := hx + x2) (by omega) (by omega), isP_r]
              refine qW_bind (qW_some ?_)
              (try dsimp only)
              refine qW_b (fun g3 => ?_) (fun g3 => ?_)
              · rw [b01_f (by omega)]
                exact qW_some rfl
              · rw [a2]
                refine qW_bind (qW_some ?_)
                (try dsimp only)
                rw [w32_id (x := hy + x3) (by omega) (by omega), isP_r]
                refine qW_bind (qW_some ?_)
                (try dsimp only)
                refine qW_b (fun g4 => ?_) (fun g4 => ?_)
                · rw [b01_f (by omega)]
                  exact qW_some rfl
                · rw [b01_t (by omega)]
                  exact qW_some rfl
end MV
