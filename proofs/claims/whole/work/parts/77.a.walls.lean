/-! ===== the class draws the walls ===== -/
section WA
variable {M K A : qm} {l d x y at_ st : Int}
/-- a line runs along the unit from (x, y), level (d = 0) or upright (d = 1) -/
def onU (M : qm) (l d x y : Int) : Prop := (d = 0 ∧ (M 8 l 1) = (M 8 l 3) ∧ y = (M 8 l 1) ∧ (M 8 l 0) ≤ x ∧ x < (M 8 l 2)) ∨ (d = 1 ∧ (M 8 l 1) ≠ (M 8 l 3) ∧ x = (M 8 l 0) ∧ (M 8 l 1) ≤ y ∧ y < (M 8 l 3))
def wst (M : qm) (l d at_ st : Int) : Nat → qm
  | 0 => M
  | k + 1 => qw (wst M l d at_ st k) 52 d (at_ + st * k) l
theorem wst_o {b : Nat} {i j : Int} {k : Nat} (h : b ≠ 52) : wst M l d at_ st k b i j = M b i j := by
  induction k with
  | zero => rfl
  | succ k ih =>
    show (qw (wst M l d at_ st k) 52 d (at_ + st * k) l) b i j = _
    rw [qw_a h, ih]
theorem wst_w {i a : Int} {k : Nat} : ((i = d ∧ ∃ j : Int, 0 ≤ j ∧ j < k ∧ a = at_ + st * j) ∧ wst M l d at_ st k 52 i a = l) ∨ (¬ (i = d ∧ ∃ j : Int, 0 ≤ j ∧ j < k ∧ a = at_ + st * j) ∧ wst M l d at_ st k 52 i a = (M 52 i a)) := by
  induction k with
  | zero => exact Or.inr ⟨fun ⟨_, j, j0, j1, _⟩ => by omega, rfl⟩
  | succ k ih =>
    have e : wst M l d at_ st (k + 1) 52 i a = if i = d ∧ a = at_ + st * k then l else wst M l d at_ st k 52 i a := by
      show (qw (wst M l d at_ st k) 52 d (at_ + st * k) l) 52 i a = _
      simp only [qw_ap, false_and, true_and, and_true, and_false, and_self, if_false, if_true, reduceIte, Nat.reduceEqDiff, Int.reduceEq]
    rw [e]
    by_cases g : i = d ∧ a = at_ + st * k
    · rw [if_pos g]
      exact Or.inl ⟨⟨g.1, k, by omega, by omega, g.2⟩, rfl⟩
    · rw [if_neg g]
      rcases ih with ⟨⟨q1, j, j0, j1, j2⟩, q2⟩ | ⟨q1, q2⟩
      · exact Or.inl ⟨⟨q1, j, j0, by omega, j2⟩, q2⟩
      · refine Or.inr ⟨?_, q2⟩
        rintro ⟨z1, j, j0, j1, j2⟩
        by_cases gj : j = k
        · exact g ⟨z1, by rw [j2, gj]⟩
        · exact q1 ⟨z1, j, j0, by omega, j2⟩
/-- the walls behind n lines -/
def WAL (M A : qm) (n : Int) : Prop := (∀ b i j, b ≠ 52 → A b i j = M b i j) ∧ ∀ d x y, 0 ≤ d → d ≤ 1 → 0 ≤ x → x ≤ 24 → 0 ≤ y → y ≤ 24 → (A 52 d (25 * x + y) = -1 ∧ ∀ l, 0 ≤ l → l < n → ¬ onU M l d x y) ∨ (0 ≤ A 52 d (25 * x + y) ∧ A 52 d (25 * x + y) < n ∧ onU M (A 52 d (25 * x + y)) d x y)
end WA
