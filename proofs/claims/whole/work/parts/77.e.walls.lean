section WE
variable {M K A : qm} {l x y w : Int}
theorem wallFrom_r (h_ends : R_ends M K) (hA : WAL M A (M 7 0 0)) (x0 : 0 ≤ x) (x1 : x ≤ 24) (y0 : 0 ≤ y) (y1 : y ≤ 24) (w0 : 0 ≤ w) (w1 : w ≤ 3) : ∃ v, qf_X2_wallFrom 20000 x y w A = some v ∧ lnU M (M 7 0 0) w x y v := by
  have off : ∀ {d X Y : Int}, (0 ≤ X ∧ 0 ≤ Y ∧ (d = 0 → X < 24 ∧ Y ≤ 24) ∧ (d = 1 → Y < 24 ∧ X ≤ 24) → False) → ∀ l, 0 ≤ l → l < (M 7 0 0) → ¬ onU M l d X Y := fun h l a b z => h (onU_b h_ends a b z)
  have c : w = 0 ∨ w = 1 ∨ w = 2 ∨ w = 3 := by omega
  unfold qf_X2_wallFrom lnU frU
  rcases c with rfl | rfl | rfl | rfl
  · simp only [Int.reduceEq, true_and, false_and, or_false, false_or, if_true, if_false, reduceIte]
    by_cases g : 24 ≤ x
    · rw [if_pos g]
      exact ⟨-1, rfl, Or.inl ⟨rfl, off (by omega)⟩⟩
    · rw [if_neg g, w32_id (x := x * 25) (by omega) (by omega), w32_id (x := x * 25 + y) (by omega) (by omega), if_pos ⟨by omega, by omega⟩, show x * 25 + y = 25 * x + y by omega]
      exact ⟨_, rfl, hA.2 0 x y (by decide) (by decide) x0 x1 y0 y1⟩
  · simp only [Int.reduceEq, true_and, false_and, or_false, false_or, if_true, if_false, reduceIte]
    by_cases g : 24 ≤ y
    · rw [if_pos g]
      exact ⟨-1, rfl, Or.inl ⟨rfl, off (by omega)⟩⟩
    · rw [if_neg g, w32_id (x := x * 25) (by omega) (by omega), w32_id (x := x * 25 + y) (by omega) (by omega), if_pos ⟨by omega, by omega⟩, show x * 25 + y = 25 * x + y by omega]
      exact ⟨_, rfl, hA.2 1 x y (by decide) (by decide) x0 x1 y0 y1⟩
  · simp only [Int.reduceEq, true_and, false_and, or_false, false_or, if_true, if_false, reduceIte]
    by_cases g : x ≤ 0
    · rw [if_pos g]
      exact ⟨-1, rfl, Or.inl ⟨rfl, off (by omega)⟩⟩
    · rw [if_neg g, w32_id (x := x - 1) (by omega) (by omega), w32_id (x := (x - 1) * 25) (by omega) (by omega), w32_id (x := (x - 1) * 25 + y) (by omega) (by omega), if_pos ⟨by omega, by omega⟩, show (x - 1) * 25 + y = 25 * (x - 1) + y by omega]
      exact ⟨_, rfl, hA.2 0 (x - 1) y (by decide) (by decide) (by omega) (by omega) y0 y1⟩
  · simp only [Int.reduceEq, true_and, false_and, or_false, false_or, if_true, if_false, reduceIte]
    by_cases g : y ≤ 0
    · rw [if_pos g]
      exact ⟨-1, rfl, Or.inl ⟨rfl, off (by omega)⟩⟩
    · rw [if_neg g, w32_id (x := x * 25) (by omega) (by omega), w32_id (x := x * 25 + y) (by omega) (by omega), w32_id (x := x * 25 + y - 1) (by omega) (by omega), if_pos ⟨by omega, by omega⟩, show x * 25 + y - 1 = 25 * x + (y - 1) by omega]
      exact ⟨_, rfl, hA.2 1 x (y - 1) (by decide) (by decide) x0 x1 (by omega) (by omega)⟩
end WE
