/-! ===== passing: the tables of persons after a step ===== -/
section PSk
variable {M K N : qm} {k p q r s t u v x y room τ j : Int} {b : Nat}
theorem qw_k {a : Nat} {i l w : Int} (h : k ≠ i) : qw M a i l w b k j = M b k j := if_neg (fun z => h z.2.1)
theorem enS_o (h : k ≠ q) : enS K q room x y t b k j = K b k j := by
  unfold enS
  rw [qw_k h, qw_k h, qw_k h, qw_k h, qw_k h]
theorem enS_a (h : b ≠ 2306 ∧ b ≠ 2307 ∧ b ≠ 2308 ∧ b ≠ 2310 ∧ b ≠ 2311) : enS K q room x y t b k j = K b k j := by
  unfold enS
  rw [qw_a h.2.2.2.2, qw_a h.2.2.2.1, qw_a h.2.2.1, qw_a h.2.1, qw_a h.1]
theorem enT_o (h : k ≠ q) : enT M q room x y t b k j = M b k j := by
  unfold enT enC
  rw [qw_k h, qw_k h, qw_k h, qw_k h, qw_k h]
theorem enT_a (h : b ≠ 761) : enT M q room x y t b k j = M b k j := by
  unfold enT enC
  rw [qw_a h, qw_a h, qw_a h, qw_a h, qw_a h]
theorem enT_v : enT M q room x y t 761 q 0 = room ∧ enT M q room x y t 761 q 1 = x ∧ enT M q room x y t 761 q 2 = y ∧ enT M q room x y t 761 q 3 = M 761 q 3 ∧ enT M q room x y t 761 q 4 = w32 (M 761 q 4 + 1) ∧ enT M q room x y t 761 q 5 = t ∧ enT M q room x y t 761 q 6 = M 761 q 6 ∧ enT M q room x y t 761 q 7 = M 761 q 7 := by
  unfold enT enC
  refine ⟨?_, ?_, ?_, ?_, ?_, ?_, ?_, ?_⟩
  · rw [qw_j (by decide), qw_j (by decide), qw_j (by decide), qw_s]
  · rw [qw_j (by decide), qw_j (by decide), qw_s]
  · rw [qw_j (by decide), qw_s]
  · rw [qw_j (by decide), qw_j (by decide), qw_j (by decide), qw_j (by decide), qw_j (by decide)]
  · rw [qw_j (by decide), qw_j (by decide), qw_j (by decide), qw_j (by decide), qw_s]
  · rw [qw_s]
  · rw [qw_j (by decide), qw_j (by decide), qw_j (by decide), qw_j (by decide), qw_j (by decide)]
  · rw [qw_j (by decide), qw_j (by decide), qw_j (by decide), qw_j (by decide), qw_j (by decide)]
theorem enS_v : enS K q room x y t 2306 q 0 = room ∧ enS K q room x y t 2307 q 0 = x ∧ enS K q room x y t 2308 q 0 = y ∧ enS K q room x y t 2309 q 0 = K 2309 q 0 ∧ enS K q room x y t 2310 q 0 = w32 (K 2310 q 0 + 1) ∧ enS K q room x y t 2311 q 0 = t ∧ enS K q room x y t 2304 q 0 = K 2304 q 0 ∧ enS K q room x y t 2305 q 0 = K 2305 q 0 := by
  refine ⟨?_, ?_, ?_, enS_a (by decide), ?_, ?_, enS_a (by decide), enS_a (by decide)⟩
  · unfold enS
    rw [qw_a (by decide), qw_a (by decide), qw_a (by decide), qw_a (by decide), qw_s]
  · unfold enS
    rw [qw_a (by decide), qw_a (by decide), qw_a (by decide), qw_s]
  · unfold enS
    rw [qw_a (by decide), qw_a (by decide), qw_s]
  · unfold enS
    rw [qw_a (by decide), qw_s]
  · unfold enS
    rw [qw_s]
theorem ent_both (h_persons : R_persons M K) (h_personb : R_personb M K) (p0 : 0 ≤ p) (p1 : p < M 756 7 0) (hτ : 0 ≤ τ) (ht : τ ≤ M 6 12 0) (hr : 0 ≤ r ∧ r ≤ K 2156 9 0) (hxy : (r = K 2156 9 0 ∧ x = -1 ∧ y = -1) ∨ (r ≠ K 2156 9 0 ∧ 0 ≤ x ∧ x < 24 ∧ 0 ≤ y ∧ y < 24 ∧ M 56 (24 * x + y) 0 = r)) : R_persons (enT M p r x y τ) (enS K p r x y τ) ∧ R_personb (enT M p r x y τ) (enS K p r x y τ) := by
  have S := enS_v (K := K) (q := p) (room := r) (x := x) (y := y) (t := τ)
  have T := enT_v (M := M) (q := p) (room := r) (x := x) (y := y) (t := τ)
  have n7 : enT M p r x y τ 756 7 0 = M 756 7 0 := enT_a (by decide)
  have n6 : enT M p r x y τ 6 12 0 = M 6 12 0 := enT_a (by decide)
  have n9 : enS K p r x y τ 2156 9 0 = K 2156 9 0 := enS_a (by decide)
  have n5 : ∀ c, enT M p r x y τ 56 c 0 = M 56 c 0 := fun c => enT_a (by decide)
  refine ⟨fun k k0 k1 => ?_, fun k k0 k1 => ?_⟩
  · rw [n7] at k1
    have z := h_persons k k0 k1
    by_cases e : k = p
    · rw [e] at z ⊢
      rw [S.1, S.2.1, S.2.2.1, S.2.2.2.1, S.2.2.2.2.1, S.2.2.2.2.2.1, S.2.2.2.2.2.2.1, S.2.2.2.2.2.2.2, T.1, T.2.1, T.2.2.1, T.2.2.2.1, T.2.2.2.2.1, T.2.2.2.2.2.1, T.2.2.2.2.2.2.1, T.2.2.2.2.2.2.2, z.2.2.2.2.1]
      exact ⟨rfl, rfl, rfl, z.2.2.2.1, rfl, rfl, z.2.2.2.2.2.2.1, z.2.2.2.2.2.2.2⟩
    · simp only [enS_o e, enT_o e]
      exact z
  · rw [n7] at k1
    have z := h_personb k k0 k1
    rw [n6, n9]
    by_cases e : k = p
    · rw [e] at z ⊢
      rw [S.1, S.2.1, S.2.2.1, S.2.2.2.1, S.2.2.2.2.2.1, n5]
      refine ⟨hr.1, hr.2, z.2.2.1, hτ, ht, ?_⟩
      rcases hxy with ⟨h1, h2, h3⟩ | ⟨h1, h2⟩
      · rw [if_pos h1]
        exact ⟨h2, h3⟩
      · rw [if_neg h1]
        exact h2
    · simp only [enS_o e, n5]
      exact z
end PSk
