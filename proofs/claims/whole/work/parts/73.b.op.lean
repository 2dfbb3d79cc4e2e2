/-! ===== the calls call, done ===== -/
def LFT (M K : qm) : Prop := R_carn M K ∧ R_cars M K ∧ R_carz M K ∧ R_calln M K ∧ R_calls M K ∧ R_given M K ∧ R_givenz M K ∧ R_opens M K ∧ R_openl M K ∧ R_openi M K ∧ R_opena M K ∧ R_begun M K ∧ R_begunz M K ∧ R_begunr M K
section LF
variable {M K S T : qm} {x1 x2 t v w : Int}
theorem LFT_A (h : LFT M K) : LFT (qw M 2332 0 0 v) K := by
  obtain ⟨h_carn, h_cars, h_carz, h_calln, h_calls, h_given, h_givenz, h_opens, h_openl, h_openi, h_opena, h_begun, h_begunz, h_begunr⟩ := h
  exact ⟨R_carn_x (M := M) (K := K) rfl rfl h_carn, R_cars_x (M := M) (K := K) rfl (fun _ _ => rfl) (fun _ _ => rfl) (fun _ _ => rfl) (fun _ _ => rfl) (fun _ _ => rfl) (fun _ _ => rfl) h_cars, R_carz_x (M := M) (K := K) rfl (fun _ _ => rfl) h_carz, R_calln_x (M := M) (K := K) rfl rfl h_calln, R_calls_x (M := M) (K := K) rfl rfl (fun _ _ => rfl) (fun _ _ => rfl) (fun _ _ => rfl) (fun _ _ => rfl) (fun _ _ => rfl) h_calls, R_given_x (M := M) (K := K) rfl (fun _ _ => rfl) (fun _ _ => rfl) (fun _ _ => rfl) (fun _ _ => rfl) (fun _ _ => rfl) h_given, R_givenz_x (M := M) (K := K) rfl (fun _ _ => rfl) h_givenz, R_opens_x (M := M) (K := K) rfl rfl (fun _ _ => rfl) h_opens, R_openl_x (M := M) (K := K) rfl rfl (fun _ _ => rfl) (fun _ _ => rfl) h_openl, R_openi_x (M := M) (K := K) rfl (fun _ _ => rfl) h_openi, R_opena_x (M := M) (K := K) rfl rfl (fun _ _ => rfl) (fun _ _ => rfl) h_opena, R_begun_x (M := M) (K := K) rfl rfl (fun _ _ => rfl) (fun _ _ => rfl) (fun _ _ => rfl) h_begun, R_begunz_x (M := M) (K := K) rfl rfl (fun _ _ => rfl) (fun _ _ => rfl) h_begunz, R_begunr_x (M := M) (K := K) rfl rfl (fun _ _ => rfl) h_begunr⟩
theorem LFT_K (h : LFT M K) : LFT M (qw K 2156 0 0 v) := by
  obtain ⟨h_carn, h_cars, h_carz, h_calln, h_calls, h_given, h_givenz, h_opens, h_openl, h_openi, h_opena, h_begun, h_begunz, h_begunr⟩ := h
  exact ⟨R_carn_x (M := M) (K := K) rfl rfl h_carn, R_cars_x (M := M) (K := K) rfl (fun _ _ => rfl) (fun _ _ => rfl) (fun _ _ => rfl) (fun _ _ => rfl) (fun _ _ => rfl) (fun _ _ => rfl) h_cars, R_carz_x (M := M) (K := K) rfl (fun _ _ => rfl) h_carz, R_calln_x (M := M) (K := K) rfl rfl h_calln, R_calls_x (M := M) (K := K) rfl rfl (fun _ _ => rfl) (fun _ _ => rfl) (fun _ _ => rfl) (fun _ _ => rfl) (fun _ _ => rfl) h_calls, R_given_x (M := M) (K := K) rfl (fun _ _ => rfl) (fun _ _ => rfl) (fun _ _ => rfl) (fun _ _ => rfl) (fun _ _ => rfl) h_given, R_givenz_x (M := M) (K := K) rfl (fun _ _ => rfl) h_givenz, R_opens_x (M := M) (K := K) rfl rfl (fun _ _ => rfl) h_opens, R_openl_x (M := M) (K := K) rfl rfl (fun _ _ => rfl) (fun _ _ => rfl) h_openl, R_openi_x (M := M) (K := K) rfl (fun _ _ => rfl) h_openi, R_opena_x (M := M) (K := K) rfl rfl (fun _ _ => rfl) (fun _ _ => rfl) h_opena, R_begun_x (M := M) (K := K) rfl rfl (fun _ _ => rfl) (fun _ _ => rfl) (fun _ _ => rfl) h_begun, R_begunz_x (M := M) (K := K) rfl rfl (fun _ _ => rfl) (fun _ _ => rfl) h_begunz, R_begunr_x (M := M) (K := K) rfl rfl (fun _ _ => rfl) h_begunr⟩
theorem call_fin (h : LFT M K) (o6 : (M 1337 4 0) < 6) (c4 : (M 1337 2 0) < 400) (f0 : 0 ≤ x1 ∧ x1 < 60) (f1 : 0 ≤ x2 ∧ x2 < 60) (t0 : 0 ≤ t) (t1 : t ≤ (M 6 12 0)) (s1 : (S 1337 2 0) = (M 1337 2 0) + 1) (s2 : (S 1337 4 0) = (M 1337 4 0) + 1) (s3 : (S 1337 0 0) = (M 1337 0 0)) (s4 : (S 6 12 0) = (M 6 12 0)) (s5 : ∀ c i, (S 1343 c i) = if c = (M 1337 2 0) ∧ i = 2 then t else if c = (M 1337 2 0) ∧ i = 1 then x2 else if c = (M 1337 2 0) ∧ i = 0 then x1 else (M 1343 c i)) (s6 : ∀ c i, (S 1745 c i) = if c = (M 1337 2 0) ∧ 0 ≤ i ∧ i < 4 then -1 else (M 1745 c i)) (s7 : ∀ k, (S 1744 k 0) = if k = (M 1337 4 0) then (M 1337 2 0) else (M 1744 k 0)) (s8 : ∀ a i, (S 1338 a i) = (M 1338 a i)) (r1 : (T 2270 6 0) = (M 1337 2 0) + 1) (r2 : ∀ c, (T 2276 c 0) = if c = (M 1337 2 0) then x1 else (K 2276 c 0)) (r3 : ∀ c, (T 2277 c 0) = if c = (M 1337 2 0) then x2 else (K 2277 c 0)) (r4 : ∀ c, (T 2278 c 0) = if c = (M 1337 2 0) then t else (K 2278 c 0)) (r5 : ∀ c, (T 2279 c 0) = if c = (M 1337 2 0) then 1 else (K 2279 c 0)) (r6 : ∀ c, (T 2280 c 0) = if c = (M 1337 2 0) then -1 else (K 2280 c 0)) (r7 : ∀ b i j, 2271 ≤ b ∧ b ≤ 2275 ∨ 2285 ≤ b ∧ b ≤ 2288 → T b i j = K b i j) (r8 : (T 2270 0 0) = (K 2270 0 0)) : LFT S T := by
  obtain ⟨h_carn, h_cars, h_carz, h_calln, h_calls, h_given, h_givenz, h_opens, h_openl, h_openi, h_opena, h_begun, h_begunz, h_begunr⟩ := h
  have n0 : 0 ≤ (M 1337 2 0) := h_calln.1
  have o0 : 0 ≤ (M 1337 4 0) := h_opens.2.1
  refine ⟨?_, ?_, ?_, ?_, ?_, ?_, ?_, ?_, ?_, ?_, ?_, ?_, ?_, ?_⟩
  · exact R_carn_x (M := M) (K := K) s3 r8 h_carn
  · intro a a0 a1
    rw [s3] at a1
    have q := h_cars a a0 a1
    rw [s8, s8, s8, s8, s8, r7 2271 _ _ (by decide), r7 2272 _ _ (by decide), r7 2273 _ _ (by decide), r7 2274 _ _ (by decide), r7 2275 _ _ (by decide)]
    exact q
  · intro a a0 a1
    rw [s3] at a0
    rw [s8, s8]
    exact h_carz a a0 a1
  · refine ⟨by rw [s1]; omega, by rw [s1]; omega, by rw [r1, s1]⟩
  · intro c c0 c1
    rw [s1] at c1
    rw [r2, r3, r4, r5, s4]
    by_cases e : c = (M 1337 2 0)
    · subst e
      rw [s5, s5, s5]
      simp only [true_and, Int.reduceEq, if_false, if_true, reduceIte]
      exact ⟨f0.1, f0.2, f1.1, f1.2, t0, t1, Or.inr trivial⟩
    · rw [if_neg e, if_neg e, if_neg e, if_neg e, s5, s5, s5]
      simp only [e, false_and, if_false, reduceIte]
      exact h_calls c c0 (by omega)
  · intro c c0 c1
    rw [s1] at c1
    rw [s6, s6, s6, s6, r7 2285 _ _ (by decide), r7 2286 _ _ (by decide), r7 2287 _ _ (by decide), r7 2288 _ _ (by decide)]
    by_cases e : c = (M 1337 2 0)
    · subst e
      have q := h_givenz (M 1337 2 0) (Int.le_refl _) c4
      refine Or.inl ⟨q, ?_, ?_, ?_, ?_⟩ <;> exact if_pos ⟨rfl, by decide, by decide⟩
    · rw [if_neg (fun x => e x.1), if_neg (fun x => e x.1), if_neg (fun x => e x.1), if_neg (fun x => e x.1)]
      exact h_given c c0 (by omega)
  · intro c c0 c1
    rw [s1] at c0
    rw [r7 2285 _ _ (by decide)]
    exact h_givenz c (by omega) c1
  · refine ⟨?_, by rw [s2]; omega, by rw [s2]; omega⟩
    rw [s1, s2, sI_s n0, h_opens.1]
    rw [show (T 2279 (M 1337 2 0) 0) = 1 by rw [r5, if_pos rfl], sI_c (f := fun c => (T 2279 c 0)) (g := fun c => (K 2279 c 0)) (fun k k0 k1 => by show (T 2279 k 0) = _; rw [r5, if_neg (by omega)])]
  · intro k k0 k1
    rw [s2] at k1
    rw [s7, s1]
    by_cases e : k = (M 1337 4 0)
    · rw [if_pos e, r5, if_pos rfl]
      exact ⟨n0, by omega, rfl⟩
    · have q := h_openl k k0 (by omega)
      rw [if_neg e, r5, if_neg (by omega)]
      exact ⟨q.1, by omega, q.2.2⟩
  · intro j k j0 jk k1
    rw [s2] at k1
    rw [s7, s7, if_neg (show ¬ j = (M 1337 4 0) by omega)]
    by_cases e : k = (M 1337 4 0)
    · rw [if_pos e]
      exact (h_openl j j0 (by omega)).2.1
    · rw [if_neg e]
      exact h_openi j k j0 jk (by omega)
  · intro c c0 c1 c2
    rw [s1] at c1
    rw [r5] at c2
    rw [s2]
    by_cases e : c = (M 1337 2 0)
    · exact ⟨(M 1337 4 0), o0, by omega, by rw [s7, if_pos rfl, e]⟩
    · rw [if_neg e] at c2
      obtain ⟨k, k0, k1, k2⟩ := h_opena c c0 (by omega) c2
      exact ⟨k, k0, by omega, by rw [s7, if_neg (by omega)]; exact k2⟩
  · intro a c a0 a1 c0 c1 c2
    rw [s3] at a1
    rw [s1] at c1
    rw [r5] at c2
    rw [r6, s8]
    by_cases e : c = (M 1337 2 0)
    · rw [if_pos e, e]
      have q := h_begunz a a0 a1
      constructor <;> intro x <;> omega
    · rw [if_neg e] at c2 ⊢
      exact h_begun a c a0 a1 c0 (by omega) c2
  · intro a a0 a1
    rw [s3] at a1
    rw [s8, s1]
    rcases h_begunz a a0 a1 with q | ⟨q1, q2, q3⟩
    · exact Or.inl q
    · refine Or.inr ⟨q1, by omega, ?_⟩
      rw [r5, if_neg (by omega)]
      exact q3
  · intro c c0 c1
    rw [s1] at c1
    rw [r6, s3]
    by_cases e : c = (M 1337 2 0)
    · rw [if_pos e]
      have := h_carn.1
      omega
    · rw [if_neg e]
      exact h_begunr c c0 (by omega)
theorem op_call (h_built : R_built M K) (h_time : R_time M K) (h_ltime : R_ltime M K) (h : LFT M K) : oK2 cI (qf_L_call 20000 x1 x2 M) (qf_X18_call 20000 x1 x2 K) (fun M' K' => LFT M' K') := by
  have s_built := h_built
  unfold R_built at s_built
  have s_time := h_time
  unfold R_time at s_time
  have s_ltime := h_ltime
  unfold R_ltime at s_ltime
  have hh := h
  obtain ⟨h_carn, h_cars, h_carz, h_calln, h_calls, h_given, h_givenz, h_opens, h_openl, h_openi, h_opena, h_begun, h_begunz, h_begunr⟩ := hh
  have s_calln := h_calln
  unfold R_calln at s_calln
  have o0 : 0 ≤ (M 1337 4 0) := h_opens.2.1
  have ek : (K 2270 6 0) = (M 1337 2 0) := s_calln.2.2
  obtain ⟨m, em, hm⟩ := many_r (M := K) (by omega) (by omega)
  have hm2 : m = (M 1337 4 0) := hm.trans (opens_eq2 h_calls h_opens h_calln)
  clear hm
  rw [hm2] at em
  have e1 : w32 ((M 1337 2 0) + 1) = (M 1337 2 0) + 1 := w32_id (by omega) (by omega)
  have e2 : w32 ((M 1337 2 0) + 1 - 1) = (M 1337 2 0) := (w32_id (by omega) (by omega)).trans (by omega)
  unfold oK2
  unfold qf_L_call qf_X11_call qf_X11_call_J23 qf_X11_call_J24 qf_X11_call_J63 qf_X11_call_J64 qf_X3_addCall qf_X11_isFloor qf_X18_call qf_X18_call_J24 qf_X18_call_J25 qf_X18_call_J61 qf_X18_call_J62 qf_X13_call qf_X13_isFloor
  repeat' first
    | ((with_reducible refine qW_eq em ?_); (try dsimp only))
    | with_reducible refine qW_within (fun _ => ?_) (fun _ _ => ?_)
    | with_reducible refine qW_isIn (fun _ => ?_) (fun _ _ => ?_)
    | with_reducible refine qW_na (fun _ => ?_) (fun _ => ?_)
    | with_reducible refine qW_ns (fun _ => ?_) (fun _ => ?_)
    | (with_reducible refine qW_goes (fun _ => ?_) (fun _ _ => ?_) (fun _ _ => ?_) <;> (try dsimp only) <;> (try simp only [qw_ap, qfl1_ap, qfl2_ap, qcp1_ap, qcp2_ap, false_and, true_and, and_true, and_false, and_self, if_false, if_true, reduceIte, Nat.reduceEqDiff, Int.reduceEq, Int.reduceNeg]))
    | (with_reducible refine qW_stays (by omega) (fun _ => ?_) (fun _ => ?_) <;> (try dsimp only) <;> (try simp only [qw_ap, qfl1_ap, qfl2_ap, qcp1_ap, qcp2_ap, false_and, true_and, and_true, and_false, and_self, if_false, if_true, reduceIte, Nat.reduceEqDiff, Int.reduceEq, Int.reduceNeg]))
    | (exfalso; omega)
    | with_reducible refine qW_bind ?_
    | (with_reducible refine qW_bnd ?_; try simp only [qw_ap, qfl1_ap, qfl2_ap, qcp1_ap, qcp2_ap, false_and, true_and, and_true, and_false, and_self, if_false, if_true, reduceIte, Nat.reduceEqDiff, Int.reduceEq, Int.reduceNeg])
    | (with_reducible refine qW_some ?_; (try dsimp only); try simp only [qw_ap, qfl1_ap, qfl2_ap, qcp1_ap, qcp2_ap, false_and, true_and, and_true, and_false, and_self, if_false, if_true, reduceIte, Nat.reduceEqDiff, Int.reduceEq, Int.reduceNeg])
    | ((with_reducible refine qW_no ?_); omega)
    | with_reducible refine qW_pos rfl ?_
    | ((with_reducible refine qW_pos ?_ ?_); omega)
    | ((with_reducible refine qW_neg ?_ ?_); (first | omega | decide))
    | with_reducible refine qW_ite (fun _ => ?_) (fun _ => ?_)
    | dsimp only
  all_goals first
    | exact ⟨fun x => absurd x (by decide), LFT_K h⟩
    | skip
  all_goals (
    have e3 : w32 ((M 1337 4 0) + 1) = (M 1337 4 0) + 1 := w32_id (by omega) (by omega)
    simp only [ek, e1, e2, e3]
    refine ⟨fun _ => rfl, LFT_A (call_fin (x1 := x1) (x2 := x2) (t := (M 6 12 0)) h (by omega) (by omega) (by omega) (by omega) s_time.1 (Int.le_refl _) rfl rfl rfl rfl (fun c i => ?_) (fun c i => ?_) (fun k => ?_) (fun _ _ => rfl) rfl (fun c => ?_) (fun c => ?_) (fun c => ?_) (fun c => ?_) (fun c => ?_) (fun b i j hb => ?_) rfl)⟩
    · simp only [qfl2_ap, qw_ap, false_and, true_and, and_true, and_false, and_self, if_false, if_true, reduceIte, Nat.reduceEqDiff, Int.reduceEq]
    · simp only [qfl2_ap, qw_ap, false_and, true_and, and_true, and_false, and_self, if_false, if_true, reduceIte, Nat.reduceEqDiff, Int.reduceEq]
    · simp only [qfl2_ap, qw_ap, false_and, true_and, and_true, and_false, and_self, if_false, if_true, reduceIte, Nat.reduceEqDiff, Int.reduceEq]
    · simp only [qw_ap, false_and, true_and, and_true, and_false, and_self, if_false, if_true, reduceIte, Nat.reduceEqDiff, Int.reduceEq]
    · simp only [qw_ap, false_and, true_and, and_true, and_false, and_self, if_false, if_true, reduceIte, Nat.reduceEqDiff, Int.reduceEq]
    · simp only [qw_ap, s_ltime, false_and, true_and, and_true, and_false, and_self, if_false, if_true, reduceIte, Nat.reduceEqDiff, Int.reduceEq]
    · simp only [qw_ap, false_and, true_and, and_true, and_false, and_self, if_false, if_true, reduceIte, Nat.reduceEqDiff, Int.reduceEq]
    · simp only [qw_ap, false_and, true_and, and_true, and_false, and_self, if_false, if_true, reduceIte, Nat.reduceEqDiff, Int.reduceEq]
    · rw [qw_a (by omega), qw_a (by omega), qw_a (by omega), qw_a (by omega), qw_a (by omega), qw_a (by omega), qw_a (by omega)])
end LF
