/-! ===== the bus: what begins in a bit time ===== -/
section BUi
variable {M K M' K' Ka Z A : qm} {a b i j k v w x y s t I β R u : Int} {n m r : Nat} {q p : Int → Int}
theorem ans_all (h : ∀ s, 0 ≤ s → s < 8 → STN M K s) (hl : ∀ i, 0 ≤ i → i < 8 → K 2268 i 0 = M 1170 i 0 ∧ 0 ≤ M 1170 i 0 ∧ M 1170 i 0 < 256) (hli : ∀ i, 0 ≤ i → i < 2048 → K 2256 i 0 = M 1167 i 0) (hr : K 2252 23 0 = R) (r01 : R = 0 ∨ R = 1) : ∃ M1 K1, qf_X1_beginAnswers_L7 20000 20000 R 0 M = some (.inr ((), M1)) ∧ qf_X12_answers_L49 20000 20000 (aimV M) 0 K = some (.inr ((), K1)) ∧ (∀ s, 0 ≤ s → s < 8 → STN M1 K1 s ∧ (M1 1140 s 9 = M 1140 s 9 ∨ M1 1140 s 9 = 0)) ∧ (∀ e x y, ¬ (e = 1140 ∧ (y = 8 ∨ y = 9)) → M1 e x y = M e x y) ∧ (∀ e x y, e ≠ 2262 → e ≠ 2263 → K1 e x y = K e x y) := by
  obtain ⟨r, r', e1, e2, M', K', rfl, rfl, h1, h2, h3⟩ := two_loop (f := fun s => qf_X1_beginAnswers_L7_b 20000 s.1 s.2.1 s.2.2) (g := fun s => qf_X12_answers_L49_b 20000 s.1 s.2.1 s.2.2) (Q := fun (r : (Unit × qm) ⊕ (Unit × qm)) (r' : (Unit × qm) ⊕ (Unit × qm)) => ∃ M1 K1, r = .inr ((), M1) ∧ r' = .inr ((), K1) ∧ (∀ s, 0 ≤ s → s < 8 → STN M1 K1 s ∧ (M1 1140 s 9 = M 1140 s 9 ∨ M1 1140 s 9 = 0)) ∧ (∀ e x y, ¬ (e = 1140 ∧ (y = 8 ∨ y = 9)) → M1 e x y = M e x y) ∧ (∀ e x y, e ≠ 2262 → e ≠ 2263 → K1 e x y = K e x y)) 8 (fun i a b => ∃ (p : Int) (Z W : qm), p = i ∧ a = (R, p, Z) ∧ b = (aimV M, p, W) ∧ (∀ s, 0 ≤ s → s < 8 → STN Z W s ∧ (Z 1140 s 9 = M 1140 s 9 ∨ Z 1140 s 9 = 0)) ∧ (∀ e x y, ¬ (e = 1140 ∧ (y = 8 ∨ y = 9)) → Z e x y = M e x y) ∧ (∀ e x y, e ≠ 2262 → e ≠ 2263 → W e x y = K e x y)) (fun i a b i8 hI => by
      obtain ⟨p, Z, W, hp, rfl, rfl, h1, h2, h3⟩ := hI
      have p0 : 0 ≤ p := by omega
      have p8 : p < 8 := by omega
      have av : aimV Z = aimV M := by
        unfold aimV
        rw [h2 1170 3 0 (by omega), h2 1170 4 0 (by omega)]
      obtain ⟨M1, K1, c1, c2, c3, c4, c5, c6⟩ := ans_one (R := R) (h1 p p0 p8).1 p0 p8 (fun i i0 i1 => by
        rw [h3 _ _ _ (by decide) (by decide), h2 1170 i 0 (by omega)]
        exact hl i i0 i1) (fun i i0 i1 => by
        rw [h3 _ _ _ (by decide) (by decide), h2 1167 i 0 (by omega)]
        exact hli i i0 i1) ((h3 _ _ _ (by decide) (by decide)).trans hr) r01
      rw [av] at c2
      refine ⟨(R, p + 1, M1), (aimV M, p + 1, K1), c1, c2, p + 1, M1, K1, by omega, rfl, rfl, fun s s0 s1 => ?_, fun e x y z => ?_, fun e x y z1 z2 => ?_⟩
      · by_cases e : s = p
        · rw [e]
          have q := (h1 p p0 p8).2
          refine ⟨c3, ?_⟩
          rcases c6 with z | z
          · rw [z]
            exact q
          · exact Or.inr z
        · obtain ⟨q1, q2⟩ := h1 s s0 s1
          refine ⟨stn_o q1 (fun j => c4 _ _ _ (by omega)) (fun j => c4 _ _ _ (by omega)) (fun j => c4 _ _ _ (by omega)) (fun b _ _ _ _ => c5 _ _ _ (by omega)) (fun i _ _ => c5 _ _ _ (by omega)), ?_⟩
          rw [c4 1140 s 9 (by omega)]
          exact q2
      · rw [c4 e x y (by omega)]
        exact h2 e x y z
      · rw [c5 e x y (by omega)]
        exact h3 e x y z1 z2) (fun a b hI => by
      obtain ⟨p, Z, W, hp, rfl, rfl, h1, h2, h3⟩ := hI
      refine ⟨.inr ((), Z), .inr ((), W), ?_, ?_, Z, W, rfl, rfl, h1, h2, h3⟩
      · show qf_X1_beginAnswers_L7_b 20000 R p Z = _
        unfold qf_X1_beginAnswers_L7_b
        rw [if_pos (show (8 : Int) ≤ p by omega)]
      · show qf_X12_answers_L49_b 20000 (aimV M) p W = _
        unfold qf_X12_answers_L49_b
        rw [if_pos (show (8 : Int) ≤ p by omega)]) 8 0 20000 20000 (R, 0, M) (aimV M, 0, K) rfl (by omega) (by omega) ⟨0, M, K, rfl, rfl, rfl, fun s s0 s1 => ⟨h s s0 s1, Or.inl rfl⟩, fun _ _ _ _ => rfl, fun _ _ _ _ _ => rfl⟩
  exact ⟨M', K', e1, e2, h1, h2, h3⟩
/-- what begins in the bit time t: answers, and what is said -/
theorem mid_both (h : ∀ s, 0 ≤ s → s < 8 → STN M K s) (hn : M 1139 5 0 = t) (hk : K 2252 0 0 = t) (t1 : 1 ≤ t) (t2 : t ≤ 180000) (hi : IDR K (t - 1) (M 1139 6 0)) (hl : LTT M K (t - 1)) (hli : ∀ i, 0 ≤ i → i < 2048 → K 2256 i 0 = M 1167 i 0) (hab : ∀ s, 0 ≤ s → s < 8 → M 1140 s 9 ≠ -1 → t = K 2252 24 0 + 14 + M 1140 s 9) (hie : 0 < K 2252 24 0 → M 1139 6 0 ≤ t - 1 - K 2252 24 0 + 10) : ∃ Ma M7 K7 K9, (if M 1139 5 0 = w32 (M 1139 16 0 + 14) then if M 1139 17 0 = 0 then qf_X1_runBitTime_J35 20000 M else (qf_X1_beginAnswers 20000 M).bind (fun r28 => qf_X1_runBitTime_J35 20000 r28.2) else qf_X1_runBitTime_J35 20000 M) = qf_X1_runBitTime_J35 20000 Ma ∧ qf_X1_runBitTime_L37 20000 20000 0 Ma = some (.inr ((), M7)) ∧ qf_X12_bitTime_L17 20000 20000 (min 60 (M 1139 6 0)) 0 K = some (.inr ((), K7)) ∧ qf_X12_answers 20000 K7 = some ((), K9) ∧ (∀ s, 0 ≤ s → s < 8 → STN M7 K9 s ∧ (M7 1140 s 9 ≠ -1 → t = K 2252 24 0 + 14 + M7 1140 s 9) ∧ (M7 1140 s 1 = M 1140 s 1 ∨ (M7 1140 s 1 = 0 ∧ 50 ≤ M 1139 6 0))) ∧ (∀ e x y, ¬ (e = 1140 ∧ (y = 1 ∨ y = 8 ∨ y = 9)) → e ≠ 1158 → M7 e x y = M e x y) ∧ (∀ e x y, e ≠ 2260 → e ≠ 2262 → e ≠ 2263 → K9 e x y = K e x y) := by
  have ll := hl
  unfold LTT at ll
  obtain ⟨l1, l2, l3, l4, l5⟩ := ll
  by_cases g : 0 < K 2252 24 0 ∧ t = K 2252 24 0 + 14 ∧ K 2252 25 0 = 0
  · -- answers begin: nothing is begun to be said
    obtain ⟨g1, g2, g3⟩ := g
    have i50 : M 1139 6 0 < 50 := by
      have := hie g1
      omega
    obtain ⟨c1, c2, c3, c4, c5, c6⟩ : K 2252 24 0 = M 1139 16 0 ∧ 1 ≤ M 1139 16 0 ∧ M 1139 16 0 ≤ t - 1 ∧ 8 ≤ M 1139 15 0 ∧ ((M 1139 17 0 = 1 ∧ K 2252 25 0 = 0) ∨ (M 1139 17 0 = 0 ∧ K 2252 25 0 = 1)) ∧ K 2252 23 0 = b01 (RGP M) := by
      rcases l5 with z | z
      · omega
      · exact z
    have r01 : b01 (RGP M) = 0 ∨ b01 (RGP M) = 1 := by
      by_cases z : RGP M
      · exact Or.inr (b01_t z)
      · exact Or.inl (b01_f z)
    obtain ⟨M1, K1, a1, a2, a3, a4, a5⟩ := ans_all (R := b01 (RGP M)) h (fun i i0 i1 => l4 i i0 (by omega)) hli c6 r01
    have v4 := l4 4 (by omega) (by omega)
    have v3 := l4 3 (by omega) (by omega)
    refine ⟨M1, M1, K, K1, ?_, beg_id_C (by rw [a4 _ _ _ (by omega)]; exact i50), beg_id_K (by omega) (fun s s0 s1 => by rw [(h s s0 s1).sy]; exact (h s s0 s1).s0), ?_, fun s s0 s1 => ⟨(a3 s s0 s1).1, fun z => ?_, Or.inl (a4 _ _ _ (by omega))⟩, fun e x y z1 z2 => a4 e x y (by omega), fun e x y z1 z2 z3 => a5 e x y z2 z3⟩
    · have eb : qf_X1_beginAnswers 20000 M = some ((), M1) := by
        unfold qf_X1_beginAnswers
        rw [isRight_C c4 l1.2 (fun i i0 i1 => (l4 i i0 i1).2)]
        simp only [Option.bind_some]
        rw [a1]
        rfl
      rw [w32_id (x := M 1139 16 0 + 14) (by omega) (by omega), if_pos (by omega), if_neg (by omega), eb]
      rfl
    · unfold qf_X12_answers
      have av : 256 * K 2268 3 0 + K 2268 4 0 = aimV M := by
        unfold aimV
        omega
      rw [if_neg (by omega), hk, w32_id (x := K 2252 24 0 + 14) (by omega) (by omega), if_pos g2, if_pos g3, w32_id (x := 256 * K 2268 3 0) (by omega) (by omega), w32_id (x := 256 * K 2268 3 0 + K 2268 4 0) (by omega) (by omega), av, a2]
      rfl
    · rcases (a3 s s0 s1).2 with y | y
      · rw [y] at z ⊢
        exact hab s s0 s1 z
      · rw [y]
        omega
  · obtain ⟨M7, K7, b1, b2, b3, b4, b5, b6⟩ := beg_all (v := min 60 (M 1139 6 0)) h rfl
    have k24 : K7 2252 24 0 = K 2252 24 0 := b5 _ _ _ (by decide)
    have k25 : K7 2252 25 0 = K 2252 25 0 := b5 _ _ _ (by decide)
    have k00 : K7 2252 0 0 = t := (b5 _ _ _ (by decide)).trans hk
    refine ⟨M, M7, K7, K7, ?_, b1, b2, ?_, fun s s0 s1 => ⟨b3 s s0 s1, fun z => ?_, b6 s s0 s1⟩, fun e x y z1 z2 => b4 e x y (by omega) z2, fun e x y z1 z2 z3 => b5 e x y z1⟩
    · rcases l5 with z | z
      · rw [w32_id (x := M 1139 16 0 + 14) (by omega) (by omega), if_neg (by omega)]
      · rw [w32_id (x := M 1139 16 0 + 14) (by omega) (by omega)]
        by_cases e : M 1139 5 0 = M 1139 16 0 + 14
        · rw [if_pos e, if_pos (by omega)]
        · rw [if_neg e]
    · unfold qf_X12_answers
      rw [k24, k25, k00]
      by_cases e0 : K 2252 24 0 = 0
      · rw [if_pos e0]
      · have e1 : 1 ≤ K 2252 24 0 ∧ K 2252 24 0 ≤ t := by omega
        rw [if_neg e0, w32_id (x := K 2252 24 0 + 14) (by omega) (by omega)]
        by_cases e2 : t = K 2252 24 0 + 14
        · rw [if_pos e2, if_neg (by omega)]
        · rw [if_neg e2]
    · rw [b4 1140 s 9 (by omega) (by decide)] at z ⊢
      exact hab s s0 s1 z
end BUi
