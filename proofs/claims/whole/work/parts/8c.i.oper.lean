/-! ===== the reference combines two fractions ===== -/
section LWi
variable {M N K : qm} {a b c d s x y u l v n m i : Int}
theorem times_any (a0 : FIT a) (b0 : FIT b) (ho : (K 2184 40 0) ≠ 0) : ∃ v, qf_X15_times 20000 a b K = some (v, K) ∧ FIT v := by
  have fw : FIT (w64 (a * b)) := by unfold FIT w64; omega
  refine ⟨w64 (a * b), ?_, fw⟩
  have op : qf_X15_times_J35 20000 (w64 (a * b)) K = some (w64 (a * b), K) := by
    unfold qf_X15_times_J35 qf_X15_opens
    rw [if_neg ho]
    rfl
  unfold qf_X15_times
  by_cases g1 : a = 0
  · rw [if_pos g1]
  · rw [if_neg g1]
    by_cases g2 : b = 0
    · rw [if_pos g2]
    · rw [if_neg g2, if_neg g2]
      by_cases z : w64 (Int.tdiv (w64 (a * b)) b) = a
      · rw [if_pos z, if_neg g1]
        by_cases y : w64 (Int.tdiv (w64 (a * b)) a) = b
        · rw [if_pos y]
        · rw [if_neg y]
          exact op
      · rw [if_neg z]
        exact op
theorem plus_any (hi : i = 0 ∨ i = 1) (ho : (K 2184 40 0) ≠ 0) : ∃ v, qf_X15_plus 20000 a b i K = some (v, K) ∧ FIT v := by
  have pm : ∀ s t, qf_X15_plus_J136 20000 s t K = some (s, K) := fun s t => by
    unfold qf_X15_plus_J136
    by_cases z : t = 0
    · rw [if_pos z]
    · rw [if_neg z]
      unfold qf_X15_opens
      rw [if_neg ho]
      rfl
  have j14 : ∀ r, qf_X15_plus_J14 20000 a b i r K = some (r, K) := fun r => by
    unfold qf_X15_plus_J14 qf_X15_plus_J91 qf_X15_plus_J102 qf_X15_plus_J117 qf_X15_plus_J128 qf_X15_plus_J135 qf_X15_plus_J32 qf_X15_plus_J43 qf_X15_plus_J58 qf_X15_plus_J69 qf_X15_plus_J76
    repeat' (first | exact pm _ _ | split)
  unfold qf_X15_plus
  by_cases z : i = 0
  · rw [if_pos z, j14]
    exact ⟨_, rfl, by unfold FIT w64; omega⟩
  · rw [if_neg z, j14]
    exact ⟨_, rfl, by unfold FIT w64; omega⟩
/-- a step that may find something too great -/
def MUK (N N' : qm) (v r : Int) : Prop := FIT v ∧ (∀ x i j, ¬ (x = 2184 ∧ (i = 40 ∨ i = 41)) → N' x i j = N x i j) ∧ (((N 2184 40 0) = 0 ∧ FIT r ∧ v = r ∧ N' = N) ∨ ((N 2184 40 0) = 0 ∧ ¬ FIT r ∧ (N' 2184 40 0) = 2 ∧ (N' 2184 41 0) = 0) ∨ ((N 2184 40 0) ≠ 0 ∧ N' = N))
theorem mu_K (a0 : FIT a) (b0 : FIT b) (N : qm) : ∃ v N', qf_X15_times 20000 a b N = some (v, N') ∧ MUK N N' v (a * b) := by
  by_cases ho : (N 2184 40 0) = 0
  · rcases times_K (K := N) a0 b0 ho with ⟨f, e⟩ | ⟨f, v, fv, e⟩
    · exact ⟨_, _, e, f, fun _ _ _ _ => rfl, Or.inl ⟨ho, f, rfl, rfl⟩⟩
    · exact ⟨_, _, e, fv, fun x i j h => by rw [qw_ap, if_neg (by omega), qw_ap, if_neg (by omega)], Or.inr (Or.inl ⟨ho, f, by rw [qw_ap, if_neg (by decide)]; exact qw_s, qw_s⟩)⟩
  · obtain ⟨v, e, fv⟩ := times_any (K := N) a0 b0 ho
    exact ⟨v, N, e, fv, fun _ _ _ _ => rfl, Or.inr (Or.inr ⟨ho, rfl⟩)⟩
theorem pl_K (a0 : FIT a) (b0 : FIT b) (hi : i = 0 ∨ i = 1) (N : qm) : ∃ v N', qf_X15_plus 20000 a b i N = some (v, N') ∧ MUK N N' v (if i = 0 then a + b else a - b) := by
  by_cases ho : (N 2184 40 0) = 0
  · rcases plus_K (K := N) (s := if i = 0 then a + b else a - b) a0 b0 hi ho rfl with ⟨f, e⟩ | ⟨f, v, fv, e⟩
    · exact ⟨_, _, e, f, fun _ _ _ _ => rfl, Or.inl ⟨ho, f, rfl, rfl⟩⟩
    · exact ⟨_, _, e, fv, fun x i j h => by rw [qw_ap, if_neg (by omega), qw_ap, if_neg (by omega)], Or.inr (Or.inl ⟨ho, f, by rw [qw_ap, if_neg (by decide)]; exact qw_s, qw_s⟩)⟩
  · obtain ⟨v, e, fv⟩ := plus_any (K := N) (a := a) (b := b) hi ho
    exact ⟨v, N, e, fv, fun _ _ _ _ => rfl, Or.inr (Or.inr ⟨ho, rfl⟩)⟩
end LWi
