/-! ===== the block program: one block, on both sides ===== -/
theorem w32_r (x : Int) : -2147483648 ≤ w32 x ∧ w32 x ≤ 2147483647 := by
  unfold w32
  omega
theorem lackC {M : qm} {b : Int} (hb : 0 ≤ b) (hb2 : b < 40) (hk : 0 ≤ (M 1004 b 0) ∧ (M 1004 b 0) < 26) : qW (qf_X9_lacksInput 20000 b M) (fun r => (r = 0 ∧ ∀ i, 0 ≤ i → i < qT5 (M 1004 b 0) → (M 1008 b i) ≠ -1) ∨ (r = 1 ∧ ∃ i, 0 ≤ i ∧ i < qT5 (M 1004 b 0) ∧ (M 1008 b i) = -1)) := by
  have h3 := qT5_r hk.1 hk.2
  unfold qf_X9_lacksInput
  refine qW_call (Q := fun o => match o with | .inl r => r = 1 ∧ ∃ i, 0 ≤ i ∧ i < qT5 (M 1004 b 0) ∧ (M 1008 b i) = -1 | .inr _ => ∀ i, 0 ≤ i → i < qT5 (M 1004 b 0) → (M 1008 b i) ≠ -1) ?_ ?_
  · refine qW_loop (fun s => s.1 = b ∧ 0 ≤ s.2 ∧ s.2 ≤ qT5 (M 1004 b 0) ∧ ∀ i, 0 ≤ i → i < s.2 → (M 1008 b i) ≠ -1) (fun s => (qT5 (M 1004 b 0) - s.2).toNat) ?_ _ _ ?_ ?_
    · rintro ⟨a, i⟩ ⟨g0, g1, g2, g3⟩
      (try dsimp only at g0 g1 g2 g3 ⊢)
      subst g0
      unfold qf_X9_lacksInput_L2_b
      rw [if_pos ⟨hb, hb2⟩, if_pos hk]
      by_cases gi : qT5 (M 1004 a 0) ≤ i
      · rw [if_pos gi]
        exact qW_some (fun k k1 k2 => g3 k k1 (by omega))
      · rw [if_neg gi, if_pos ⟨hb, hb2⟩, if_pos ⟨g1, by omega⟩, w32_id (x := i + 1) (by omega) (by omega)]
        by_cases e2 : (M 1008 a i) = -1
        · rw [if_pos e2]
          exact qW_some ⟨rfl, i, g1, by omega, e2⟩
        · rw [if_neg e2]
          refine qW_some ⟨⟨rfl, by (try dsimp only); omega, by (try dsimp only); omega, fun k k1 k2 => ?_⟩, by (try dsimp only); omega⟩
          (try dsimp only at k2)
          by_cases e3 : k = i
          · rw [e3]
            exact e2
          · exact g3 k k1 (by omega)
    · exact ⟨rfl, Int.le_refl _, h3.1, fun k k1 k2 => absurd k2 (by (try dsimp only); omega)⟩
    · (try dsimp only)
      omega
  · rintro (o | v) h
    · exact qW_some (Or.inr h)
    · exact qW_some (Or.inl ⟨rfl, h⟩)
theorem lackR {M : qm} {b k : Int} (hb : 0 ≤ b) (hb2 : b < 40) (hk : 0 ≤ k ∧ k < 26) : qW (qf_X17_failure_L9 20000 20000 b k 0 M) (fun o => match o with
    | .inl r => r = 3 ∧ k ≠ 16 ∧ ∃ i, 0 ≤ i ∧ i < qT5 k ∧ (M 2240 (3 * b + i) 0) < 0
    | .inr _ => k = 16 ∨ ∀ i, 0 ≤ i → i < qT5 k → 0 ≤ (M 2240 (3 * b + i) 0)) := by
  have h3 := qT5_r hk.1 hk.2
  refine qW_loop (fun s => s.1 = b ∧ s.2.1 = k ∧ 0 ≤ s.2.2 ∧ s.2.2 ≤ qT5 k ∧ ∀ i, 0 ≤ i → i < s.2.2 → 0 ≤ (M 2240 (3 * b + i) 0)) (fun s => (qT5 k - s.2.2).toNat) ?_ _ _ ?_ ?_
  · rintro ⟨a, c, i⟩ ⟨g0, gk, g1, g2, g3⟩
    (try dsimp only at g0 gk g1 g2 g3 ⊢)
    subst g0
    subst gk
    unfold qf_X17_failure_L9_b
    rw [inputs_r hk.1 hk.2]
    refine qW_bind (qW_some ?_)
    by_cases gi : qT5 c ≤ i
    · rw [if_pos gi]
      exact qW_some (Or.inr (fun k k1 k2 => g3 k k1 (by omega)))
    · rw [if_neg gi]
      by_cases e16 : c = 16
      · rw [if_pos e16]
        exact qW_some (Or.inl e16)
      · have e2 : w32 (w32 (3 * a) + i) = 3 * a + i := by rw [w32_id (x := 3 * a) (by omega) (by omega), w32_id (by omega) (by omega)]
        rw [if_neg e16, e2, if_pos ⟨by omega, by omega⟩, w32_id (x := i + 1) (by omega) (by omega)]
        by_cases e3 : 0 ≤ (M 2240 (3 * a + i) 0)
        · rw [if_pos e3]
          refine qW_some ⟨⟨rfl, rfl, by (try dsimp only); omega, by (try dsimp only); omega, fun k k1 k2 => ?_⟩, by (try dsimp only); omega⟩
          (try dsimp only at k2)
          by_cases ek : k = i
          · rw [ek]
            exact e3
          · exact g3 k k1 (by omega)
        · rw [if_neg e3]
          exact qW_some ⟨rfl, e16, i, g1, by omega, by omega⟩
  · exact ⟨rfl, rfl, Int.le_refl _, h3.1, fun k k1 k2 => absurd k2 (by (try dsimp only); omega)⟩
  · (try dsimp only)
    omega
/-- what the program's two sides hold alike -/
def PgI (M K : qm) : Prop := R_blocks M K ∧ R_kinds M K ∧ R_pq M K ∧ R_safe M K ∧ R_outs M K ∧ R_hand M K ∧ R_wire M K ∧ R_row M K ∧ R_points M K ∧ R_failed M K
theorem in_r {K : qm} {b i v : Int} (hb : 0 ≤ b) (hb2 : b < 40) (h0 : 0 ≤ i) (h1 : i < 3) (e : K 2240 (3 * b + i) 0 = v) (v0 : 0 ≤ v) (v1 : v < 40) : qf_X17_in 20000 b i K = some (K 2242 v 0) := by
  unfold qf_X17_in
  rw [w32_id (x := 3 * b) (by omega) (by omega), w32_id (x := 3 * b + i) (by omega) (by omega), if_pos ⟨by omega, by omega⟩, e, if_pos ⟨v0, v1⟩]
theorem inC_r {M : qm} {b i : Int} (hb : 0 ≤ b) (hb2 : b < 40) (h0 : 0 ≤ i) (h1 : i < 3) (v0 : -1 ≤ M 1008 b i) (v1 : M 1008 b i < 40) : qf_X9_inputOf 20000 b i M = some (if M 1008 b i = -1 then 0 else M 1049 (M 1008 b i) 0) := by
  unfold qf_X9_inputOf
  rw [if_pos ⟨hb, hb2⟩, if_pos ⟨h0, h1⟩]
  by_cases e : M 1008 b i = -1
  · rw [if_pos e, if_pos e]
  · rw [if_neg e, if_neg e, if_pos ⟨by omega, v1⟩]
theorem lackC_0 {M : qm} {b : Int} (hb : 0 ≤ b) (hb2 : b < 40) (hk : 0 ≤ (M 1004 b 0) ∧ (M 1004 b 0) < 26) (h : ∀ i, 0 ≤ i → i < qT5 (M 1004 b 0) → (M 1008 b i) ≠ -1) : qf_X9_lacksInput 20000 b M = some 0 := by
  obtain ⟨r, e, ⟨rfl, -⟩ | ⟨rfl, i, i0, i1, i2⟩⟩ := lackC hb hb2 hk
  · exact e
  · exact absurd i2 (h i i0 i1)
theorem lackC_1 {M : qm} {b i : Int} (hb : 0 ≤ b) (hb2 : b < 40) (hk : 0 ≤ (M 1004 b 0) ∧ (M 1004 b 0) < 26) (i0 : 0 ≤ i) (i1 : i < qT5 (M 1004 b 0)) (i2 : (M 1008 b i) = -1) : qf_X9_lacksInput 20000 b M = some 1 := by
  obtain ⟨r, e, ⟨rfl, h⟩ | ⟨rfl, -⟩⟩ := lackC hb hb2 hk
  · exact absurd i2 (h i i0 i1)
  · exact e
theorem lackR_0 {M : qm} {b k : Int} (hb : 0 ≤ b) (hb2 : b < 40) (hk : 0 ≤ k ∧ k < 26) (h : k = 16 ∨ ∀ i, 0 ≤ i → i < qT5 k → 0 ≤ (M 2240 (3 * b + i) 0)) : qf_X17_failure_L9 20000 20000 b k 0 M = some (.inr ()) := by
  obtain ⟨r, e, h2⟩ := lackR (M := M) hb hb2 hk
  rcases r with r | r
  · obtain ⟨-, g, i, i0, i1, i2⟩ := h2
    rcases h with h | h
    · exact absurd h g
    · have := h i i0 i1
      omega
  · exact e
theorem lackR_1 {M : qm} {b k i : Int} (hb : 0 ≤ b) (hb2 : b < 40) (hk : 0 ≤ k ∧ k < 26) (hn : k ≠ 16) (i0 : 0 ≤ i) (i1 : i < qT5 k) (i2 : (M 2240 (3 * b + i) 0) < 0) : qf_X17_failure_L9 20000 20000 b k 0 M = some (.inl 3) := by
  obtain ⟨r, e, h2⟩ := lackR (M := M) hb hb2 hk
  rcases r with r | r
  · obtain ⟨rfl, -⟩ := h2
    exact e
  · rcases h2 with h | h
    · exact absurd h hn
    · have := h i i0 i1
      omega
