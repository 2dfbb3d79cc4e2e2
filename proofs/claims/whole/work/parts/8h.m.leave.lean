/-! ===== passing: nobody went yet ===== -/
section PSm
variable {M K N V A B C D : qm} {c d e k l n m p r s t u v x y z τ : Int}
theorem wnt_C (h_lines : R_lines M K) : ∃ N, qf_X10_movePersons_L2 20000 20000 τ 0 M = some (.inr ((), N)) ∧ (∀ e x y, e ≠ 803 → N e x y = M e x y) ∧ ∀ l e, 0 ≤ l → l < (M 7 0 0) → 0 ≤ e → e < 6 → N 803 l e = 0 := by
  have s_lines := h_lines
  unfold R_lines at s_lines
  obtain ⟨o, e1, N, rfl, h1, h2⟩ : qW (qf_X10_movePersons_L2 20000 20000 τ 0 M) (fun o => ∃ N, o = .inr ((), N) ∧ (∀ e x y, e ≠ 803 → N e x y = M e x y) ∧ ∀ l e, 0 ≤ l → l < (M 7 0 0) → 0 ≤ e → e < 6 → N 803 l e = 0) := by
    unfold qf_X10_movePersons_L2
    refine qW_for (M 7 0 0) (fun i r => ∃ V, r = (τ, i, V) ∧ (∀ e x y, e ≠ 803 → V e x y = M e x y) ∧ ∀ l e, 0 ≤ l → l < i → 0 ≤ e → e < 6 → V 803 l e = 0) ?_ ?_ ⟨M, rfl, fun _ _ _ _ => rfl, fun l e l0 l1 => by omega⟩ (by omega) (by omega)
    · rintro i _ i0 i1 ⟨V, rfl, g1, g2⟩
      have gl : (V 7 0 0) = (M 7 0 0) := g1 _ _ _ (by decide)
      show qW (qf_X10_movePersons_L2_b 20000 τ i V) _
      unfold qf_X10_movePersons_L2_b
      rw [gl, if_neg (show ¬ (M 7 0 0) ≤ i by omega), if_pos (show 0 ≤ i ∧ i < 20 by omega), w32_id (x := i + 1) (by omega) (by omega)]
      refine qW_bnd ?_
      refine qW_some ⟨_, rfl, fun e x y z => ?_, fun l e l0 l1 e0 e1 => ?_⟩
      · refine Eq.trans ?_ (g1 e x y z)
        exact if_neg (fun w => z w.1)
      · by_cases w : l = i
        · rw [w]
          exact if_pos ⟨rfl, rfl, e0, e1⟩
        · refine Eq.trans ?_ (g2 l e l0 (by omega) e0 e1)
          exact if_neg (fun q => w q.2.1)
    · rintro _ ⟨V, rfl, g1, g2⟩
      have gl : (V 7 0 0) = (M 7 0 0) := g1 _ _ _ (by decide)
      show qW (qf_X10_movePersons_L2_b 20000 τ (M 7 0 0) V) _
      unfold qf_X10_movePersons_L2_b
      rw [gl, if_pos (Int.le_refl _)]
      exact qW_some ⟨V, rfl, g1, g2⟩
  exact ⟨N, e1, h1, h2⟩
theorem wnt_K : ∃ V, qf_X18_leave_L2 20000 20000 0 K = some (.inr ((), V)) ∧ (∀ e x y, e ≠ 2330 → V e x y = K e x y) ∧ ∀ j, 0 ≤ j → j < 120 → V 2330 j 0 = 0 := by
  obtain ⟨o, e1, V, rfl, h1, h2⟩ : qW (qf_X18_leave_L2 20000 20000 0 K) (fun o => ∃ V, o = .inr ((), V) ∧ (∀ e x y, e ≠ 2330 → V e x y = K e x y) ∧ ∀ j, 0 ≤ j → j < 120 → V 2330 j 0 = 0) := by
    unfold qf_X18_leave_L2
    refine qW_for 120 (fun i r => ∃ V, r = (i, V) ∧ (∀ e x y, e ≠ 2330 → V e x y = K e x y) ∧ ∀ j, 0 ≤ j → j < i → V 2330 j 0 = 0) ?_ ?_ ⟨K, rfl, fun _ _ _ _ => rfl, fun j j0 j1 => by omega⟩ (by omega) (by omega)
    · rintro i _ i0 i1 ⟨V, rfl, g1, g2⟩
      show qW (qf_X18_leave_L2_b 20000 i V) _
      unfold qf_X18_leave_L2_b
      rw [if_neg (show ¬ 120 ≤ i by omega), if_pos (show 0 ≤ i ∧ i < 120 by omega), w32_id (x := i + 1) (by omega) (by omega)]
      refine qW_bnd ?_
      refine qW_some ⟨_, rfl, fun e x y z => (qw_a z).trans (g1 e x y z), fun j j0 j1 => ?_⟩
      by_cases w : j = i
      · rw [w]
        exact qw_s
      · rw [qw_i w]
        exact g2 j j0 (by omega)
    · rintro _ ⟨V, rfl, g1, g2⟩
      show qW (qf_X18_leave_L2_b 20000 120 V) _
      unfold qf_X18_leave_L2_b
      rw [if_pos (Int.le_refl _)]
      exact qW_some ⟨V, rfl, g1, g2⟩
  exact ⟨V, e1, h1, h2⟩
theorem wnt_P (hp : 0 ≤ K 2156 27 0 ∧ K 2156 27 0 ≤ 40) : ∃ V, qf_X18_leave_L23 20000 20000 0 K = some (.inr ((), V)) ∧ (∀ e x y, e ≠ 2331 → V e x y = K e x y) ∧ ∀ j, 0 ≤ j → j < K 2156 27 0 → V 2331 j 0 = 0 := by
  obtain ⟨o, e1, V, rfl, h1, h2⟩ : qW (qf_X18_leave_L23 20000 20000 0 K) (fun o => ∃ V, o = .inr ((), V) ∧ (∀ e x y, e ≠ 2331 → V e x y = K e x y) ∧ ∀ j, 0 ≤ j → j < K 2156 27 0 → V 2331 j 0 = 0) := by
    unfold qf_X18_leave_L23
    refine qW_for (K 2156 27 0) (fun i r => ∃ V, r = (i, V) ∧ (∀ e x y, e ≠ 2331 → V e x y = K e x y) ∧ ∀ j, 0 ≤ j → j < i → V 2331 j 0 = 0) ?_ ?_ ⟨K, rfl, fun _ _ _ _ => rfl, fun j j0 j1 => by omega⟩ (by omega) (by omega)
    · rintro i _ i0 i1 ⟨V, rfl, g1, g2⟩
      have gl : V 2156 27 0 = K 2156 27 0 := g1 _ _ _ (by decide)
      show qW (qf_X18_leave_L23_b 20000 i V) _
      unfold qf_X18_leave_L23_b
      rw [gl, if_neg (show ¬ K 2156 27 0 ≤ i by omega), if_pos (show 0 ≤ i ∧ i < 40 by omega), w32_id (x := i + 1) (by omega) (by omega)]
      refine qW_bnd ?_
      refine qW_some ⟨_, rfl, fun e x y z => (qw_a z).trans (g1 e x y z), fun j j0 j1 => ?_⟩
      by_cases w : j = i
      · rw [w]
        exact qw_s
      · rw [qw_i w]
        exact g2 j j0 (by omega)
    · rintro _ ⟨V, rfl, g1, g2⟩
      have gl : V 2156 27 0 = K 2156 27 0 := g1 _ _ _ (by decide)
      show qW (qf_X18_leave_L23_b 20000 (K 2156 27 0) V) _
      unfold qf_X18_leave_L23_b
      rw [gl, if_pos (Int.le_refl _)]
      exact qW_some ⟨V, rfl, g1, g2⟩
  exact ⟨V, e1, h1, h2⟩
end PSm
