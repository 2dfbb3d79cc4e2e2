/-! ===== the calls line, move ===== -/
section LI
variable {M K : qm} {l f x y n hx hy x1 x2 x3 x4 : Int}
/-- a line's relation when a line's coordinates are set anew -/
theorem ends_set {S T : qm} (h_ends : R_ends M K) (hf : f = 0 ∨ f = 1) (hn : 1 ≤ n) (x0 : 0 ≤ x) (y0 : 0 ≤ y) (ex : hx = if f = 0 then x else x + n) (ey : hy = if f = 0 then y + n else y) (x24 : hx ≤ 24) (y24 : hy ≤ 24) (l0 : 0 ≤ l) (s0 : (S 7 0 0) = (M 7 0 0) ∨ ((S 7 0 0) = (M 7 0 0) + 1 ∧ l = (M 7 0 0))) (s1 : ∀ i j, (S 8 i j) = if i = l ∧ j = 3 then hy else if i = l ∧ j = 2 then hx else if i = l ∧ j = 1 then y else if i = l ∧ j = 0 then x else (M 8 i j)) (t1 : ∀ i, (T 2158 i 0) = if i = l then x else (K 2158 i 0)) (t2 : ∀ i, (T 2159 i 0) = if i = l then y else (K 2159 i 0)) (t3 : ∀ i, (T 2160 i 0) = if i = l then f else (K 2160 i 0)) (t4 : ∀ i, (T 2161 i 0) = if i = l then n else (K 2161 i 0)) : R_ends S T := by
  intro i i0 i1
  rw [t1, t2, t3, t4]
  by_cases e : i = l
  · subst e
    rw [s1, s1, s1, s1]
    simp only [true_and, Int.reduceEq, if_false, if_true, reduceIte]
    refine ⟨hf, hn, ?_, ?_, x0, y0, x24, y24⟩
    · rw [ex]
      split <;> omega
    · rw [ey]
      split <;> omega
  · rw [s1, s1, s1, s1]
    simp only [e, false_and, if_false, reduceIte]
    exact h_ends i i0 (by omega)
theorem crsN_x {T : qm} {k : Int} (e1 : (T 2158 k 0) = (K 2158 k 0)) (e2 : (T 2159 k 0) = (K 2159 k 0)) (e3 : (T 2160 k 0) = (K 2160 k 0)) (e4 : (T 2161 k 0) = (K 2161 k 0)) : crsN T k f x y n ↔ crsN K k f x y n := by
  unfold crsN
  rw [e1, e2, e3, e4]
def lnR (K : qm) (l f x y n : Int) : qm := qw (qw (qw (qw (qw K 2158 l 0 x) 2159 l 0 y) 2160 l 0 f) 2161 l 0 n) 2162 l 0 0
theorem line_r (h_lines : R_lines M K) (h_ends : R_ends M K) (hl : (M 7 0 0) = l) (l20 : l < 20) (hf : f = if x2 = x4 then 1 else 0) (ex : x = min x1 x3) (ey : y = min x2 x4) (en : n = x1 + x3 - 2 * x + x2 + x4 - 2 * y) (c1 : 0 ≤ x1 ∧ x1 ≤ 24) (c2 : 0 ≤ x2 ∧ x2 ≤ 24) (c3 : 0 ≤ x3 ∧ x3 ≤ 24) (c4 : 0 ≤ x4 ∧ x4 ≤ 24) (hd : (x1 = x3 ∧ x2 ≠ x4) ∨ (x1 ≠ x3 ∧ x2 = x4)) : qf_X16_line 20000 x1 x2 x3 x4 K = some (if b01 (crE K l (-1) f x y n) = 0 then (l, qw (qw (lnR K l f x y n) 2157 0 0 (l + 1)) 2157 10 0 0) else (-1, lnR K l f x y n)) := by
  have s_lines := h_lines
  unfold R_lines at s_lines
  have kl : (K 2157 0 0) = l := by omega
  have hl20 : 0 ≤ l ∧ l < 20 := by omega
  have f01 : f = 0 ∨ f = 1 := by
    by_cases g : x2 = x4
    · rw [if_pos g] at hf
      exact Or.inr hf
    · rw [if_neg g] at hf
      exact Or.inl hf
  have low : ∀ k, k ≠ l → (lnR K l f x y n) 2158 k 0 = (K 2158 k 0) ∧ (lnR K l f x y n) 2159 k 0 = (K 2159 k 0) ∧ (lnR K l f x y n) 2160 k 0 = (K 2160 k 0) ∧ (lnR K l f x y n) 2161 k 0 = (K 2161 k 0) := by
    intro k hk
    unfold lnR
    simp only [qw_ap, hk, false_and, true_and, and_true, and_false, and_self, if_false, if_true, reduceIte, Nat.reduceEqDiff, Int.reduceEq]
  have at_l : (lnR K l f x y n) 2158 l 0 = x ∧ (lnR K l f x y n) 2159 l 0 = y ∧ (lnR K l f x y n) 2160 l 0 = f ∧ (lnR K l f x y n) 2161 l 0 = n := by
    unfold lnR
    simp only [qw_ap, false_and, true_and, and_true, and_false, and_self, if_false, if_true, reduceIte, Nat.reduceEqDiff, Int.reduceEq]
  have eA := isAlone_r (K := lnR K l f x y n) (l := l) (by show 0 ≤ (K 2157 0 0); omega) (by show (K 2157 0 0) ≤ 20; omega) hl20 (by
    unfold LB
    rw [at_l.1, at_l.2.1, at_l.2.2.1, at_l.2.2.2]
    omega) (by
    intro k k0 k1
    have k1 : k < (K 2157 0 0) := k1
    have q := low k (by omega)
    have z := LB_of h_ends k0 (by omega)
    unfold LB at z ⊢
    rw [q.1, q.2.1, q.2.2.1, q.2.2.2]
    exact z)
  rw [at_l.1, at_l.2.1, at_l.2.2.1, at_l.2.2.2] at eA
  have hE : crE (lnR K l f x y n) ((lnR K l f x y n) 2157 0 0) l f x y n ↔ crE K l (-1) f x y n := by
    rw [show (lnR K l f x y n) 2157 0 0 = l from kl]
    unfold crE
    constructor
    · rintro ⟨k, k0, k1, k2, k3⟩
      have q := low k (by omega)
      exact ⟨k, k0, k1, by omega, (crsN_x q.1 q.2.1 q.2.2.1 q.2.2.2).mp k3⟩
    · rintro ⟨k, k0, k1, k2, k3⟩
      have q := low k (by omega)
      exact ⟨k, k0, k1, by omega, (crsN_x q.1 q.2.1 q.2.2.1 q.2.2.2).mpr k3⟩
  have eb : b01 (¬ crE (lnR K l f x y n) ((lnR K l f x y n) 2157 0 0) l f x y n) = if b01 (crE K l (-1) f x y n) = 0 then 1 else 0 := by
    rcases b01_o (p := crE K l (-1) f x y n) with g | g
    · rw [g.1, if_neg (by decide), b01_f (fun z => z (hE.mpr g.2))]
    · rw [g.1, if_pos rfl, b01_t (fun z => g.2 (hE.mp z))]
  rw [eb] at eA
  have J59 : qf_X16_line_J59 20000 x1 x2 x3 x4 l f (qw (qw K 2158 l 0 x) 2159 l 0 y) = some (if b01 (crE K l (-1) f x y n) = 0 then (l, qw (qw (lnR K l f x y n) 2157 0 0 (l + 1)) 2157 10 0 0) else (-1, lnR K l f x y n)) := by
    refine qW_e ?_
    unfold qf_X16_line_J59
    rw [if_pos ⟨hl20, f01⟩]
    refine qW_bnd ?_
    refine qW_pos (show 0 ≤ (K 2157 0 0) ∧ (K 2157 0 0) < 20 by omega) (qW_pos (show 0 ≤ (K 2157 0 0) ∧ (K 2157 0 0) < 20 by omega) (qW_pos (show 0 ≤ (K 2157 0 0) ∧ (K 2157 0 0) < 20 by omega) ?_))
    refine qW_bnd ?_
    refine qW_pos (show 0 ≤ (K 2157 0 0) ∧ (K 2157 0 0) < 20 by omega) ?_
    refine qW_bnd ?_
    have v1 : (qw (qw (qw K 2158 l 0 x) 2159 l 0 y) 2160 l 0 f) 2158 l 0 = x := by
      simp only [qw_ap, false_and, true_and, and_true, and_false, and_self, if_false, if_true, reduceIte, Nat.reduceEqDiff, Int.reduceEq]
    have v2 : (qw (qw (qw K 2158 l 0 x) 2159 l 0 y) 2160 l 0 f) 2159 l 0 = y := by
      simp only [qw_ap, false_and, true_and, and_true, and_false, and_self, if_false, if_true, reduceIte, Nat.reduceEqDiff, Int.reduceEq]
    have ew : qw (qw (qw (qw (qw K 2158 l 0 x) 2159 l 0 y) 2160 l 0 f) 2161 (K 2157 0 0) 0 (w32 (w32 (w32 (w32 (w32 (x1 + x3) - w32 (2 * (qw (qw (qw K 2158 l 0 x) 2159 l 0 y) 2160 l 0 f) 2158 (K 2157 0 0) 0)) + x2) + x4) - w32 (2 * (qw (qw (qw K 2158 l 0 x) 2159 l 0 y) 2160 l 0 f) 2159 (K 2157 0 0) 0)))) 2162 (K 2157 0 0) 0 0 = lnR K l f x y n := by
      rw [kl, v1, v2, w32_id (x := x1 + x3) (by omega) (by omega), w32_id (x := 2 * x) (by omega) (by omega), w32_id (x := x1 + x3 - 2 * x) (by omega) (by omega), w32_id (x := x1 + x3 - 2 * x + x2) (by omega) (by omega), w32_id (x := x1 + x3 - 2 * x + x2 + x4) (by omega) (by omega), w32_id (x := 2 * y) (by omega) (by omega), w32_id (by omega) (by omega), ← en]
      rfl
    refine qW_call (Q := fun r => r = if b01 (crE K l (-1) f x y n) = 0 then 1 else 0) ?_ ?_
    · show qW (qf_X16_isAlone 20000 (K 2157 0 0) (qw (qw (qw (qw (qw K 2158 l 0 x) 2159 l 0 y) 2160 l 0 f) 2161 (K 2157 0 0) 0 (w32 (w32 (w32 (w32 (w32 (x1 + x3) - w32 (2 * (qw (qw (qw K 2158 l 0 x) 2159 l 0 y) 2160 l 0 f) 2158 (K 2157 0 0) 0)) + x2) + x4) - w32 (2 * (qw (qw (qw K 2158 l 0 x) 2159 l 0 y) 2160 l 0 f) 2159 (K 2157 0 0) 0)))) 2162 (K 2157 0 0) 0 0)) _
      rw [ew, kl]
      exact qW_v eA
    · intro r hr
      have ew2 := ew
      by_cases g : b01 (crE K l (-1) f x y n) = 0
      · rw [if_pos g] at hr
        rw [if_pos g, hr, if_neg (by decide)]
        refine qW_bnd (qW_bnd (qW_some ?_))
        show (w32 (w32 ((K 2157 0 0) + 1) - 1), qw (qw (qw (qw (qw (qw (qw K 2158 l 0 x) 2159 l 0 y) 2160 l 0 f) 2161 (K 2157 0 0) 0 (w32 (w32 (w32 (w32 (w32 (x1 + x3) - w32 (2 * (qw (qw (qw K 2158 l 0 x) 2159 l 0 y) 2160 l 0 f) 2158 (K 2157 0 0) 0)) + x2) + x4) - w32 (2 * (qw (qw (qw K 2158 l 0 x) 2159 l 0 y) 2160 l 0 f) 2159 (K 2157 0 0) 0)))) 2162 (K 2157 0 0) 0 0) 2157 0 0 (w32 ((K 2157 0 0) + 1))) 2157 10 0 0) = _
        rw [ew2, kl, w32_id (x := l + 1) (by omega) (by omega), w32_id (by omega) (by omega), show l + 1 - 1 = l by omega]
      · rw [if_neg g] at hr
        rw [if_neg g, hr, if_pos rfl]
        exact qW_some (congrArg (fun z => ((-1 : Int), z)) ew)
  have J39 : qf_X16_line_J39 20000 x1 x2 x3 x4 l y (qw K 2158 l 0 x) = some (if b01 (crE K l (-1) f x y n) = 0 then (l, qw (qw (lnR K l f x y n) 2157 0 0 (l + 1)) 2157 10 0 0) else (-1, lnR K l f x y n)) := by
    refine qW_e ?_
    unfold qf_X16_line_J39
    rw [if_pos hl20]
    refine qW_bnd ?_
    show qW (if x2 = x4 then qf_X16_line_J59 20000 x1 x2 x3 x4 (K 2157 0 0) 1 (qw (qw K 2158 l 0 x) 2159 l 0 y) else qf_X16_line_J59 20000 x1 x2 x3 x4 (K 2157 0 0) 0 (qw (qw K 2158 l 0 x) 2159 l 0 y)) _
    rw [kl]
    by_cases g : x2 = x4
    · rw [if_pos g] at hf
      subst hf
      rw [if_pos g]
      exact qW_v J59
    · rw [if_neg g] at hf
      subst hf
      rw [if_neg g]
      exact qW_v J59
  have J18 : qf_X16_line_J18 20000 x1 x2 x3 x4 l x K = some (if b01 (crE K l (-1) f x y n) = 0 then (l, qw (qw (lnR K l f x y n) 2157 0 0 (l + 1)) 2157 10 0 0) else (-1, lnR K l f x y n)) := by
    refine qW_e ?_
    unfold qf_X16_line_J18
    rw [if_pos hl20]
    refine qW_bnd ?_
    show qW (if x4 ≤ x2 then qf_X16_line_J39 20000 x1 x2 x3 x4 (K 2157 0 0) x4 (qw K 2158 l 0 x) else qf_X16_line_J39 20000 x1 x2 x3 x4 (K 2157 0 0) x2 (qw K 2158 l 0 x)) _
    rw [kl]
    by_cases g : x4 ≤ x2
    · have e : y = x4 := by omega
      rw [if_pos g]
      rw [e] at J39 ⊢
      exact qW_v J39
    · have e : y = x2 := by omega
      rw [if_neg g]
      rw [e] at J39 ⊢
      exact qW_v J39
  unfold qf_X16_line
  rw [kl]
  by_cases g : x3 ≤ x1
  · have e : x = x3 := by omega
    rw [if_pos g]
    rw [e] at J18 ⊢
    exact J18
  · have e : x = x1 := by omega
    rw [if_neg g]
    rw [e] at J18 ⊢
    exact J18
end LI
