section WD
variable {M K A : qm} {l n x y w : Int}
/-- a line leaves the place (x, y) that way: right, up, left, down -/
def frU (M : qm) (l w x y : Int) : Prop := (w = 0 ∧ onU M l 0 x y) ∨ (w = 1 ∧ onU M l 1 x y) ∨ (w = 2 ∧ onU M l 0 (x - 1) y) ∨ (w = 3 ∧ onU M l 1 x (y - 1))
/-- a place's line that way: a number, or none -/
def lnU (M : qm) (n w x y v : Int) : Prop := (v = -1 ∧ ∀ l, 0 ≤ l → l < n → ¬ frU M l w x y) ∨ (0 ≤ v ∧ v < n ∧ frU M v w x y)
theorem onU_b (h_ends : R_ends M K) {d : Int} (l0 : 0 ≤ l) (l1 : l < (M 7 0 0)) (h : onU M l d x y) : 0 ≤ x ∧ 0 ≤ y ∧ (d = 0 → x < 24 ∧ y ≤ 24) ∧ (d = 1 → y < 24 ∧ x ≤ 24) := by
  have q := h_ends l l0 l1
  obtain ⟨e0, h0⟩ : ∃ v, (M 8 l 0) = v := ⟨_, rfl⟩
  obtain ⟨e1, h1⟩ : ∃ v, (M 8 l 1) = v := ⟨_, rfl⟩
  obtain ⟨e2, h2⟩ : ∃ v, (M 8 l 2) = v := ⟨_, rfl⟩
  obtain ⟨e3, h3⟩ : ∃ v, (M 8 l 3) = v := ⟨_, rfl⟩
  have b : 0 ≤ e0 ∧ 0 ≤ e1 ∧ e2 ≤ 24 ∧ e3 ≤ 24 ∧ ((e1 = e3 ∧ e0 < e2) ∨ (e1 < e3 ∧ e0 = e2)) := by
    rcases q.1 with g | g
    · rw [g, if_pos rfl, if_pos rfl] at q
      omega
    · rw [g, if_neg (by decide), if_neg (by decide)] at q
      omega
  clear q
  unfold onU at h
  rw [h0, h1, h2, h3] at h
  omega
end WD
