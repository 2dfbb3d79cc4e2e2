/-! ===== products that fit ===== -/
section LWd
variable {M K : qm} {a b x y u l i g w c v : Int}
def FIT (x : Int) : Prop := -9223372036854775808 ≤ x ∧ x < 9223372036854775808
theorem mul_x (a0 : FIT a) (b0 : FIT b) (bn : b ≠ 0) : w64 (Int.tdiv (w64 (a * b)) b) = a ↔ FIT (a * b) ∨ (a = -9223372036854775808 ∧ b = -1) := by
  unfold FIT at a0 b0 ⊢
  obtain ⟨P, hP⟩ : ∃ P, a * b = P := ⟨_, rfl⟩
  obtain ⟨p, hp⟩ : ∃ p, w64 P = p := ⟨_, rfl⟩
  rw [hP, hp]
  constructor
  · intro h
    have wp : ∃ k, P = p + 18446744073709551616 * k := by
      refine ⟨(P + 9223372036854775808) / 18446744073709551616, ?_⟩
      rw [← hp]
      unfold w64
      omega
    obtain ⟨k, hk⟩ := wp
    have pr : -9223372036854775808 ≤ p ∧ p < 9223372036854775808 := by
      rw [← hp]
      unfold w64
      omega
    have dm := Int.mul_tdiv_add_tmod p b
    have tn := Int.natAbs_tmod p b
    have tl := Nat.mod_lt p.natAbs (show 0 < b.natAbs by omega)
    obtain ⟨t, ht⟩ : ∃ t, Int.tdiv p b = t := ⟨_, rfl⟩
    obtain ⟨r, hr⟩ : ∃ r, Int.tmod p b = r := ⟨_, rfl⟩
    rw [ht] at h dm
    rw [hr] at dm tn
    by_cases tf : -9223372036854775808 ≤ t ∧ t < 9223372036854775808
    · rw [w64_id tf.1 tf.2] at h
      rw [h, Int.mul_comm, hP] at dm
      left
      have k0 : k = 0 := by omega
      omega
    · right
      have nt : t.natAbs = p.natAbs / b.natAbs := by
        rw [← ht]
        exact Int.natAbs_tdiv p b
      have le : p.natAbs / b.natAbs ≤ p.natAbs := Nat.div_le_self _ _
      have t63 : t = 9223372036854775808 := by omega
      have b1 : b = -1 ∨ b = 1 ∨ 2 ≤ b.natAbs := by omega
      rcases b1 with z | z | z
      · rw [t63] at h
        have e : w64 9223372036854775808 = -9223372036854775808 := by decide
        rw [e] at h
        exact ⟨h.symm, z⟩
      · rw [z, Int.tdiv_one] at ht
        omega
      · have le2 : p.natAbs / b.natAbs ≤ p.natAbs / 2 := Nat.div_le_div_left z (by decide)
        omega
  · rintro (h | ⟨h1, h2⟩)
    · rw [w64_id h.1 h.2] at hp
      rw [← hp, ← hP, Int.mul_tdiv_cancel a bn]
      exact w64_id a0.1 a0.2
    · have e : p = -9223372036854775808 := by
        rw [← hp, ← hP, h1, h2]
        decide
      rw [e, h1, h2]
      decide
theorem mult_C (a0 : FIT a) (b0 : FIT b) : (FIT (a * b) ∧ qf_X7_multiply 20000 a b M = some (a * b, M)) ∨ (¬ FIT (a * b) ∧ ∃ v, FIT v ∧ qf_X7_multiply 20000 a b M = some (v, qw M 735 12 0 2)) := by
  have wz : w64 0 = 0 := by decide
  by_cases g1 : a = 0
  · left
    rw [g1, Int.zero_mul]
    exact ⟨by unfold FIT; decide, rfl⟩
  · by_cases g2 : b = 0
    · left
      rw [g2, Int.mul_zero]
      refine ⟨by unfold FIT; decide, ?_⟩
      unfold qf_X7_multiply
      rw [if_neg g1, if_pos rfl]
    · have mx := mul_x a0 b0 g2
      by_cases f : FIT (a * b)
      · left
        refine ⟨f, ?_⟩
        have ok := mx.mpr (Or.inl f)
        unfold FIT at f
        have n1 : ¬ (a = -1 ∧ b = -9223372036854775808) := fun z => by
          rw [z.1, z.2] at f
          omega
        have n2 : ¬ (b = -1 ∧ a = -9223372036854775808) := fun z => by
          rw [z.1, z.2] at f
          omega
        have wf : w64 (a * b) = a * b := w64_id f.1 f.2
        have j55 : qf_X7_multiply_J55 20000 a b (w64 (a * b)) M = some (a * b, M) := by
          unfold qf_X7_multiply_J55 qf_X7_multiply_J56
          rw [if_pos rfl, if_neg g2, if_pos ok, wf]
        have j35 : qf_X7_multiply_J35 20000 a b (w64 (a * b)) M = some (a * b, M) := by
          unfold qf_X7_multiply_J35
          by_cases z : b = -1
          · rw [if_pos z, if_neg (fun y => n2 ⟨z, y⟩)]
            exact j55
          · rw [if_neg z]
            exact j55
        unfold qf_X7_multiply
        rw [if_neg g1, if_neg g2]
        by_cases z : a = -1
        · rw [if_pos z, if_neg (fun y => n1 ⟨z, y⟩)]
          exact j35
        · rw [if_neg z]
          exact j35
      · right
        refine ⟨f, w64 (a * b), by unfold FIT w64; omega, ?_⟩
        have j51 : qf_X7_multiply_J51 20000 a b (w64 (a * b)) M = some (w64 (a * b), qw M 735 12 0 2) := by
          unfold qf_X7_multiply_J51 qf_X7_multiply_J56 qf_X7_multiply_J72
          rw [if_neg (by decide)]
          rfl
        have j35 : qf_X7_multiply_J35 20000 a b (w64 (a * b)) M = some (w64 (a * b), qw M 735 12 0 2) := by
          have j55 : ¬ (a = -9223372036854775808 ∧ b = -1) → qf_X7_multiply_J55 20000 a b (w64 (a * b)) M = some (w64 (a * b), qw M 735 12 0 2) := fun n => by
            unfold qf_X7_multiply_J55 qf_X7_multiply_J56 qf_X7_multiply_J72
            rw [if_pos rfl, if_neg g2, if_neg (fun y => by rcases mx.mp y with q | q; exact f q; exact n q)]
            rfl
          unfold qf_X7_multiply_J35
          by_cases z : b = -1
          · rw [if_pos z]
            by_cases y : a = -9223372036854775808
            · rw [if_pos y]
              exact j51
            · rw [if_neg y]
              exact j55 (fun q => y q.1)
          · rw [if_neg z]
            exact j55 (fun q => z q.2)
        unfold qf_X7_multiply
        rw [if_neg g1, if_neg g2]
        by_cases z : a = -1
        · rw [if_pos z]
          by_cases y : b = -9223372036854775808
          · rw [if_pos y]
            exact j51
          · rw [if_neg y]
            exact j35
        · rw [if_neg z]
          exact j35
theorem times_K (a0 : FIT a) (b0 : FIT b) (ho : (K 2184 40 0) = 0) : (FIT (a * b) ∧ qf_X15_times 20000 a b K = some (a * b, K)) ∨ (¬ FIT (a * b) ∧ ∃ v, FIT v ∧ qf_X15_times 20000 a b K = some (v, qw (qw K 2184 40 0 2) 2184 41 0 0)) := by
  have wz : w64 0 = 0 := by decide
  by_cases g1 : a = 0
  · left
    rw [g1, Int.zero_mul]
    refine ⟨by unfold FIT; decide, ?_⟩
    unfold qf_X15_times
    rw [if_pos rfl, Int.zero_mul, wz]
  · by_cases g2 : b = 0
    · left
      rw [g2, Int.mul_zero]
      refine ⟨by unfold FIT; decide, ?_⟩
      unfold qf_X15_times
      rw [if_neg g1, if_pos rfl, Int.mul_zero, wz]
    · have mx := mul_x a0 b0 g2
      have my := mul_x b0 a0 g1
      rw [Int.mul_comm b a] at my
      by_cases f : FIT (a * b)
      · left
        refine ⟨f, ?_⟩
        have ff := f
        unfold FIT at ff
        unfold qf_X15_times
        rw [if_neg g1, if_neg g2, if_neg g2, if_pos (mx.mpr (Or.inl f)), if_neg g1, if_pos (my.mpr (Or.inl f)), w64_id ff.1 ff.2]
      · right
        refine ⟨f, w64 (a * b), by unfold FIT w64; omega, ?_⟩
        have op : qf_X15_times_J35 20000 (w64 (a * b)) K = some (w64 (a * b), qw (qw K 2184 40 0 2) 2184 41 0 0) := by
          unfold qf_X15_times_J35 qf_X15_opens
          rw [if_pos ho]
          rfl
        unfold qf_X15_times
        rw [if_neg g1, if_neg g2, if_neg g2]
        by_cases z : w64 (Int.tdiv (w64 (a * b)) b) = a
        · rw [if_pos z, if_neg g1]
          have y : ¬ w64 (Int.tdiv (w64 (a * b)) a) = b := fun y => by
            rcases mx.mp z with q | q
            · exact f q
            · rcases my.mp y with r | r
              · exact f r
              · omega
          rw [if_neg y]
          exact op
        · rw [if_neg z]
          exact op
end LWd
