/-! ===== the calls line, move ===== -/
section LI
variable {M K : qm} {l f x y n hx hy x1 x2 x3 x4 : Int}
/-- a line's relation when a line's coordinates are set anew -/
theorem ends_set {S T : qm} (h_ends : R_ends M K) (hf : f = 0 ∨ f = 1) (hn : 1 ≤ n) (x0 : 0 ≤ x) (y0 : 0 ≤ y) (ex : hx = if f = 0 then x else x + n) (ey : hy = if f = 0 then y + n else y) (x24 : hx ≤ 24) (y24 : hy ≤ 24) (l0 : 0 ≤ l) (s0 : (S 7 0 0) = (M 7 0 0) ∨ ((S 7 0 0) = (M 7 0 0) + 1 ∧ l = (M 7 0 0))) (s1 : ∀ i j, (S 8 i j) = if i = l ∧ j = 3 then hy else if i = l ∧ j = 2 then hx else if i = l ∧ j = 1 then y else if i = l ∧ j = 0 then x else (M 8 i j)) (t1 : ∀ i, (T 2158 i 0) = if i = l then x else (K 2158 i 0)) (t2 : ∀ i, (T 2159 i 0) = if i = l then y else (K 2159 i 0)) (t3 : ∀ i, (T 2160 i 0) = if i = l then f else (K 2160 i 0)) (t4 : ∀ i, (T 2161 i 0) = if i = l then n else (K 2161 i 0)) : R_ends S T := by
  intro i i0 i1
  rw [t1, t2, t3, t4]
  by_cases e : i = l
  · subst e
    rw [s1, s1, s1, s1]
    simp only [true_and, Int.reduceEq, if_false, if_true, reduceIte]
    refine ⟨hf, hn, ?_, ?_, x0, y0, x24, y24⟩
    · rw [ex]
      split <;> omega
    · rw [ey]
      split <;> omega
  · rw [s1, s1, s1, s1]
    simp only [e, false_and, if_false, reduceIte]
    exact h_ends i i0 (by omega)
end LI
