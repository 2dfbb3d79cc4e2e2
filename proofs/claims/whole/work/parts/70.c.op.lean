/-! ===== listen ===== -/
set_option maxHeartbeats 400000 in
set_option maxRecDepth 20000 in
theorem op_listen {M K : qm} {x1 x2 x3 : Int} (b3 : x3 = 0 ∨ x3 = 1) (c1 : -2147483648 ≤ x1 ∧ x1 ≤ 2147483647) (c2 : -2147483648 ≤ x2 ∧ x2 ≤ 2147483647) (c3 : -2147483648 ≤ x3 ∧ x3 ≤ 2147483647) (h_built : R_built M K) (h_blisten : R_blisten M K) : oK2 cB (qf_L_listen 20000 x1 x2 x3 M) (qf_X18_listen 20000 x1 x2 x3 K) (fun M' K' => R_blisten M' K') := by
  have s_built := h_built
  unfold R_built at s_built
  by_cases hx : 0 ≤ x1 ∧ x1 < 8 ∧ 0 ≤ x2 ∧ x2 < 256
  · have q0 := (show w32 (w32 (256 * x1) + x2) = 256 * x1 + x2 by rw [w32_id (x := 256 * x1) (by omega) (by omega), w32_id (by omega) (by omega)])
    have q1 := (show w32 (w32 (x1 * 256) + x2) = 256 * x1 + x2 by rw [w32_id (x := x1 * 256) (by omega) (by omega), show x1 * 256 = 256 * x1 by omega, w32_id (by omega) (by omega)])
    have q2 := h_blisten (256 * x1 + x2) (by omega) (by omega)
    unfold oK2
    unfold qf_L_listen qf_L_listen_J18 qf_X11_listen qf_X11_listen_J22 qf_X11_listen_J23 qf_X1_setListening qf_X11_isStation qf_X18_listen qf_X18_listen_J24 qf_X18_listen_J25
    simp only [q0, q1]
    repeat' first
      | with_reducible refine qW_within (fun _ => ?_) (fun _ _ => ?_)
      | with_reducible refine qW_isIn (fun _ => ?_) (fun _ _ => ?_)
      | with_reducible refine qW_na (fun _ => ?_) (fun _ => ?_)
      | with_reducible refine qW_ns (fun _ => ?_) (fun _ => ?_)
      | (with_reducible refine qW_goes (fun _ => ?_) (fun _ _ => ?_) (fun _ _ => ?_) <;> (try dsimp only) <;> (try simp only [qw_ap, qfl1_ap, qfl2_ap, qcp1_ap, qcp2_ap, false_and, true_and, and_true, and_false, and_self, if_false, if_true, reduceIte, Nat.reduceEqDiff, Int.reduceEq, Int.reduceNeg]))
      | (with_reducible refine qW_stays (by omega) (fun _ => ?_) (fun _ => ?_) <;> (try dsimp only) <;> (try simp only [qw_ap, qfl1_ap, qfl2_ap, qcp1_ap, qcp2_ap, false_and, true_and, and_true, and_false, and_self, if_false, if_true, reduceIte, Nat.reduceEqDiff, Int.reduceEq, Int.reduceNeg]))
      | (exfalso; omega)
      | with_reducible refine qW_bind ?_
      | (with_reducible refine qW_bnd ?_; try simp only [qw_ap, qfl1_ap, qfl2_ap, qcp1_ap, qcp2_ap, false_and, true_and, and_true, and_false, and_self, if_false, if_true, reduceIte, Nat.reduceEqDiff, Int.reduceEq, Int.reduceNeg])
      | (with_reducible refine qW_some ?_; (try dsimp only); try simp only [qw_ap, qfl1_ap, qfl2_ap, qcp1_ap, qcp2_ap, false_and, true_and, and_true, and_false, and_self, if_false, if_true, reduceIte, Nat.reduceEqDiff, Int.reduceEq, Int.reduceNeg])
      | ((with_reducible refine qW_no ?_); omega)
      | with_reducible refine qW_pos rfl ?_
      | ((with_reducible refine qW_pos ?_ ?_); omega)
      | ((with_reducible refine qW_neg ?_ ?_); (first | omega | decide))
      | with_reducible refine qW_ite (fun _ => ?_) (fun _ => ?_)
      | dsimp only
    all_goals first
      | exact ⟨fun x => absurd x (by decide), R_blisten_x (M := M) (K := K) (fun _ _ => rfl) (fun _ _ => rfl) h_blisten⟩
      | exact ⟨rfl, fun x => absurd x (by decide), R_blisten_x (M := M) (K := K) (fun _ _ => rfl) (fun _ _ => rfl) h_blisten⟩
      | refine ⟨fun _ => ?_, ?_⟩
      | refine ⟨rfl, fun _ => ?_, ?_⟩
    all_goals first
      | exact R_blisten_x (M := M) (K := K) (fun _ _ => rfl) (fun _ _ => rfl) h_blisten
      | (unfold R_blisten; intro i z0 z1; have q := h_blisten i z0 z1; rcases Classical.em (i = 256 * x1 + x2) with e | e; (subst e; simp (disch := omega) only [qw_ap, false_and, true_and, and_true, and_false, and_self, if_false, if_true, reduceIte, Nat.reduceEqDiff, Int.reduceEq, Int.reduceNeg, if_pos, if_neg, w32_id]; omega); (simp (disch := omega) only [qw_ap, false_and, true_and, and_true, and_false, and_self, if_false, if_true, reduceIte, Nat.reduceEqDiff, Int.reduceEq, Int.reduceNeg, if_pos, if_neg, w32_id]; omega))
      | (unfold cB; split <;> omega)
      | (simp only [cI, cB, cU]; done)
      | (simp only [cI]; omega)
      | (unfold cI; grind)

  · unfold oK2
    unfold qf_L_listen qf_L_listen_J18 qf_X11_listen qf_X11_listen_J22 qf_X11_listen_J23 qf_X1_setListening qf_X11_isStation qf_X18_listen qf_X18_listen_J24 qf_X18_listen_J25
    repeat' first
      | with_reducible refine qW_within (fun _ => ?_) (fun _ _ => ?_)
      | with_reducible refine qW_isIn (fun _ => ?_) (fun _ _ => ?_)
      | with_reducible refine qW_na (fun _ => ?_) (fun _ => ?_)
      | with_reducible refine qW_ns (fun _ => ?_) (fun _ => ?_)
      | (with_reducible refine qW_goes (fun _ => ?_) (fun _ _ => ?_) (fun _ _ => ?_) <;> (try dsimp only) <;> (try simp only [qw_ap, qfl1_ap, qfl2_ap, qcp1_ap, qcp2_ap, false_and, true_and, and_true, and_false, and_self, if_false, if_true, reduceIte, Nat.reduceEqDiff, Int.reduceEq, Int.reduceNeg]))
      | (with_reducible refine qW_stays (by omega) (fun _ => ?_) (fun _ => ?_) <;> (try dsimp only) <;> (try simp only [qw_ap, qfl1_ap, qfl2_ap, qcp1_ap, qcp2_ap, false_and, true_and, and_true, and_false, and_self, if_false, if_true, reduceIte, Nat.reduceEqDiff, Int.reduceEq, Int.reduceNeg]))
      | (exfalso; omega)
      | with_reducible refine qW_bind ?_
      | (with_reducible refine qW_bnd ?_; try simp only [qw_ap, qfl1_ap, qfl2_ap, qcp1_ap, qcp2_ap, false_and, true_and, and_true, and_false, and_self, if_false, if_true, reduceIte, Nat.reduceEqDiff, Int.reduceEq, Int.reduceNeg])
      | (with_reducible refine qW_some ?_; (try dsimp only); try simp only [qw_ap, qfl1_ap, qfl2_ap, qcp1_ap, qcp2_ap, false_and, true_and, and_true, and_false, and_self, if_false, if_true, reduceIte, Nat.reduceEqDiff, Int.reduceEq, Int.reduceNeg])
      | ((with_reducible refine qW_no ?_); omega)
      | with_reducible refine qW_pos rfl ?_
      | ((with_reducible refine qW_pos ?_ ?_); omega)
      | ((with_reducible refine qW_neg ?_ ?_); (first | omega | decide))
      | with_reducible refine qW_ite (fun _ => ?_) (fun _ => ?_)
      | dsimp only
    all_goals first
      | exact ⟨fun x => absurd x (by decide), R_blisten_x (M := M) (K := K) (fun _ _ => rfl) (fun _ _ => rfl) h_blisten⟩
      | exact ⟨rfl, fun x => absurd x (by decide), R_blisten_x (M := M) (K := K) (fun _ _ => rfl) (fun _ _ => rfl) h_blisten⟩
      | refine ⟨fun _ => ?_, ?_⟩
      | refine ⟨rfl, fun _ => ?_, ?_⟩
    all_goals first
      | exact R_blisten_x (M := M) (K := K) (fun _ _ => rfl) (fun _ _ => rfl) h_blisten
      | (unfold R_blisten; intro i z0 z1; have q := h_blisten i z0 z1; rcases Classical.em (i = 256 * x1 + x2) with e | e; (subst e; simp (disch := omega) only [qw_ap, false_and, true_and, and_true, and_false, and_self, if_false, if_true, reduceIte, Nat.reduceEqDiff, Int.reduceEq, Int.reduceNeg, if_pos, if_neg, w32_id]; omega); (simp (disch := omega) only [qw_ap, false_and, true_and, and_true, and_false, and_self, if_false, if_true, reduceIte, Nat.reduceEqDiff, Int.reduceEq, Int.reduceNeg, if_pos, if_neg, w32_id]; omega))
      | (unfold cB; split <;> omega)
      | (simp only [cI, cB, cU]; done)
      | (simp only [cI]; omega)
      | (unfold cI; grind)


/-! ===== free ===== -/
set_option maxHeartbeats 400000 in
set_option maxRecDepth 20000 in
theorem op_free {M K : qm} {x1 x2 x3 : Int} (c1 : -2147483648 ≤ x1 ∧ x1 ≤ 2147483647) (c2 : -2147483648 ≤ x2 ∧ x2 ≤ 2147483647) (c3 : -2147483648 ≤ x3 ∧ x3 ≤ 2147483647) (h_built : R_built M K) (h_carn : R_carn M K) (h_cars : R_cars M K) (h_carz : R_carz M K) (h_begun : R_begun M K) (h_begunz : R_begunz M K) : oK2 cU (qf_L_free 20000 x1 x2 x3 M) (qf_X18_free 20000 x1 x2 x3 K) (fun M' K' => R_cars M' K' ∧ R_carz M' K' ∧ R_begun M' K' ∧ R_begunz M' K') := by
  have s_built := h_built
  unfold R_built at s_built
  have s_carn := h_carn
  unfold R_carn at s_carn
  have w1 : w32 (M 1337 0 0 - 1) = M 1337 0 0 - 1 := w32_id (by omega) (by omega)
  by_cases hx : 0 ≤ x1 ∧ x1 < M 1337 0 0
  · have q0 := h_cars x1 hx.1 hx.2
    unfold oK2
    unfold qf_L_free qf_X11_free qf_X11_isFloor qf_X11_free_J30 qf_X11_free_J31 qf_X3_setFree qf_X11_isCar qf_X18_free qf_X13_isFloor qf_X18_free_J37 qf_X18_free_J38
    repeat' first
      | with_reducible refine qW_within (fun _ => ?_) (fun _ _ => ?_)
      | with_reducible refine qW_isIn (fun _ => ?_) (fun _ _ => ?_)
      | with_reducible refine qW_na (fun _ => ?_) (fun _ => ?_)
      | with_reducible refine qW_ns (fun _ => ?_) (fun _ => ?_)
      | (with_reducible refine qW_goes (fun _ => ?_) (fun _ _ => ?_) (fun _ _ => ?_) <;> (try dsimp only) <;> (try simp only [qw_ap, qfl1_ap, qfl2_ap, qcp1_ap, qcp2_ap, false_and, true_and, and_true, and_false, and_self, if_false, if_true, reduceIte, Nat.reduceEqDiff, Int.reduceEq, Int.reduceNeg]))
      | (with_reducible refine qW_stays (by omega) (fun _ => ?_) (fun _ => ?_) <;> (try dsimp only) <;> (try simp only [qw_ap, qfl1_ap, qfl2_ap, qcp1_ap, qcp2_ap, false_and, true_and, and_true, and_false, and_self, if_false, if_true, reduceIte, Nat.reduceEqDiff, Int.reduceEq, Int.reduceNeg]))
      | (exfalso; omega)
      | with_reducible refine qW_bind ?_
      | (with_reducible refine qW_bnd ?_; try simp only [qw_ap, qfl1_ap, qfl2_ap, qcp1_ap, qcp2_ap, false_and, true_and, and_true, and_false, and_self, if_false, if_true, reduceIte, Nat.reduceEqDiff, Int.reduceEq, Int.reduceNeg])
      | (with_reducible refine qW_some ?_; (try dsimp only); try simp only [qw_ap, qfl1_ap, qfl2_ap, qcp1_ap, qcp2_ap, false_and, true_and, and_true, and_false, and_self, if_false, if_true, reduceIte, Nat.reduceEqDiff, Int.reduceEq, Int.reduceNeg])
      | ((with_reducible refine qW_no ?_); omega)
      | with_reducible refine qW_pos rfl ?_
      | ((with_reducible refine qW_pos ?_ ?_); omega)
      | ((with_reducible refine qW_neg ?_ ?_); (first | omega | decide))
      | with_reducible refine qW_ite (fun _ => ?_) (fun _ => ?_)
      | dsimp only
    all_goals first
      | exact ⟨fun x => absurd x (by decide), R_cars_x (M := M) (K := K) rfl (fun _ _ => rfl) (fun _ _ => rfl) (fun _ _ => rfl) (fun _ _ => rfl) (fun _ _ => rfl) (fun _ _ => rfl) h_cars, R_carz_x (M := M) (K := K) rfl (fun _ _ => rfl) h_carz, R_begun_x (M := M) (K := K) rfl rfl (fun _ _ => rfl) (fun _ _ => rfl) (fun _ _ => rfl) h_begun, R_begunz_x (M := M) (K := K) rfl rfl (fun _ _ => rfl) (fun _ _ => rfl) h_begunz⟩
      | exact ⟨rfl, fun x => absurd x (by decide), R_cars_x (M := M) (K := K) rfl (fun _ _ => rfl) (fun _ _ => rfl) (fun _ _ => rfl) (fun _ _ => rfl) (fun _ _ => rfl) (fun _ _ => rfl) h_cars, R_carz_x (M := M) (K := K) rfl (fun _ _ => rfl) h_carz, R_begun_x (M := M) (K := K) rfl rfl (fun _ _ => rfl) (fun _ _ => rfl) (fun _ _ => rfl) h_begun, R_begunz_x (M := M) (K := K) rfl rfl (fun _ _ => rfl) (fun _ _ => rfl) h_begunz⟩
      | refine ⟨fun _ => ?_, ?_, ?_, ?_, ?_⟩
      | refine ⟨rfl, fun _ => ?_, ?_, ?_, ?_, ?_⟩
    all_goals first
      | exact R_cars_x (M := M) (K := K) rfl (fun _ _ => rfl) (fun _ _ => rfl) (fun _ _ => rfl) (fun _ _ => rfl) (fun _ _ => rfl) (fun _ _ => rfl) h_cars
      | (unfold R_cars; intro c z0 z1; have q := h_cars c z0 z1; rcases Classical.em (c = x1) with e | e; (subst e; simp (disch := omega) only [qw_ap, false_and, true_and, and_true, and_false, and_self, if_false, if_true, reduceIte, Nat.reduceEqDiff, Int.reduceEq, Int.reduceNeg, if_pos, if_neg, w32_id]; omega); (simp (disch := omega) only [qw_ap, false_and, true_and, and_true, and_false, and_self, if_false, if_true, reduceIte, Nat.reduceEqDiff, Int.reduceEq, Int.reduceNeg, if_pos, if_neg, w32_id]; omega))
      | exact R_carz_x (M := M) (K := K) rfl (fun _ _ => rfl) h_carz
      | (unfold R_carz; intro c z0 z1; have q := h_carz c z0 z1; have z2 : (M 1337 0 0) ≤ c := z0; have e : ¬ c = x1 := (by omega); (simp only [qw_ap, e, false_and, true_and, and_true, and_false, and_self, if_false, if_true, reduceIte, Nat.reduceEqDiff, Int.reduceEq]); exact q)
      | exact R_begun_x (M := M) (K := K) rfl rfl (fun _ _ => rfl) (fun _ _ => rfl) (fun _ _ => rfl) h_begun
      | (unfold R_begun; intro a c z0 z1 z2 z3 z4; have q := h_begun a c z0 z1 z2 z3 z4; simp (disch := omega) only [qw_ap, false_and, true_and, and_true, and_false, and_self, if_false, if_true, reduceIte, Nat.reduceEqDiff, Int.reduceEq, Int.reduceNeg, if_pos, if_neg, w32_id]; exact q)
      | exact R_begunz_x (M := M) (K := K) rfl rfl (fun _ _ => rfl) (fun _ _ => rfl) h_begunz
      | (unfold R_begunz; intro a z0 z1; have q := h_begunz a z0 z1; simp (disch := omega) only [qw_ap, false_and, true_and, and_true, and_false, and_self, if_false, if_true, reduceIte, Nat.reduceEqDiff, Int.reduceEq, Int.reduceNeg, if_pos, if_neg, w32_id]; exact q)
      | trivial
      | (simp only [cI, cB, cU]; done)
      | (simp only [cI]; omega)
      | (unfold cI; grind)

  · unfold oK2
    unfold qf_L_free qf_X11_free qf_X11_isFloor qf_X11_free_J30 qf_X11_free_J31 qf_X3_setFree qf_X11_isCar qf_X18_free qf_X13_isFloor qf_X18_free_J37 qf_X18_free_J38
    repeat' first
      | with_reducible refine qW_within (fun _ => ?_) (fun _ _ => ?_)
      | with_reducible refine qW_isIn (fun _ => ?_) (fun _ _ => ?_)
      | with_reducible refine qW_na (fun _ => ?_) (fun _ => ?_)
      | with_reducible refine qW_ns (fun _ => ?_) (fun _ => ?_)
      | (with_reducible refine qW_goes (fun _ => ?_) (fun _ _ => ?_) (fun _ _ => ?_) <;> (try dsimp only) <;> (try simp only [qw_ap, qfl1_ap, qfl2_ap, qcp1_ap, qcp2_ap, false_and, true_and, and_true, and_false, and_self, if_false, if_true, reduceIte, Nat.reduceEqDiff, Int.reduceEq, Int.reduceNeg]))
      | (with_reducible refine qW_stays (by omega) (fun _ => ?_) (fun _ => ?_) <;> (try dsimp only) <;> (try simp only [qw_ap, qfl1_ap, qfl2_ap, qcp1_ap, qcp2_ap, false_and, true_and, and_true, and_false, and_self, if_false, if_true, reduceIte, Nat.reduceEqDiff, Int.reduceEq, Int.reduceNeg]))
      | (exfalso; omega)
      | with_reducible refine qW_bind ?_
      | (with_reducible refine qW_bnd ?_; try simp only [qw_ap, qfl1_ap, qfl2_ap, qcp1_ap, qcp2_ap, false_and, true_and, and_true, and_false, and_self, if_false, if_true, reduceIte, Nat.reduceEqDiff, Int.reduceEq, Int.reduceNeg])
      | (with_reducible refine qW_some ?_; (try dsimp only); try simp only [qw_ap, qfl1_ap, qfl2_ap, qcp1_ap, qcp2_ap, false_and, true_and, and_true, and_false, and_self, if_false, if_true, reduceIte, Nat.reduceEqDiff, Int.reduceEq, Int.reduceNeg])
      | ((with_reducible refine qW_no ?_); omega)
      | with_reducible refine qW_pos rfl ?_
      | ((with_reducible refine qW_pos ?_ ?_); omega)
      | ((with_reducible refine qW_neg ?_ ?_); (first | omega | decide))
      | with_reducible refine qW_ite (fun _ => ?_) (fun _ => ?_)
      | dsimp only
    all_goals first
      | exact ⟨fun x => absurd x (by decide), R_cars_x (M := M) (K := K) rfl (fun _ _ => rfl) (fun _ _ => rfl) (fun _ _ => rfl) (fun _ _ => rfl) (fun _ _ => rfl) (fun _ _ => rfl) h_cars, R_carz_x (M := M) (K := K) rfl (fun _ _ => rfl) h_carz, R_begun_x (M := M) (K := K) rfl rfl (fun _ _ => rfl) (fun _ _ => rfl) (fun _ _ => rfl) h_begun, R_begunz_x (M := M) (K := K) rfl rfl (fun _ _ => rfl) (fun _ _ => rfl) h_begunz⟩
      | exact ⟨rfl, fun x => absurd x (by decide), R_cars_x (M := M) (K := K) rfl (fun _ _ => rfl) (fun _ _ => rfl) (fun _ _ => rfl) (fun _ _ => rfl) (fun _ _ => rfl) (fun _ _ => rfl) h_cars, R_carz_x (M := M) (K := K) rfl (fun _ _ => rfl) h_carz, R_begun_x (M := M) (K := K) rfl rfl (fun _ _ => rfl) (fun _ _ => rfl) (fun _ _ => rfl) h_begun, R_begunz_x (M := M) (K := K) rfl rfl (fun _ _ => rfl) (fun _ _ => rfl) h_begunz⟩
      | refine ⟨fun _ => ?_, ?_, ?_, ?_, ?_⟩
      | refine ⟨rfl, fun _ => ?_, ?_, ?_, ?_, ?_⟩
    all_goals first
      | exact R_cars_x (M := M) (K := K) rfl (fun _ _ => rfl) (fun _ _ => rfl) (fun _ _ => rfl) (fun _ _ => rfl) (fun _ _ => rfl) (fun _ _ => rfl) h_cars
      | (unfold R_cars; intro c z0 z1; have q := h_cars c z0 z1; rcases Classical.em (c = x1) with e | e; (subst e; simp (disch := omega) only [qw_ap, false_and, true_and, and_true, and_false, and_self, if_false, if_true, reduceIte, Nat.reduceEqDiff, Int.reduceEq, Int.reduceNeg, if_pos, if_neg, w32_id]; omega); (simp (disch := omega) only [qw_ap, false_and, true_and, and_true, and_false, and_self, if_false, if_true, reduceIte, Nat.reduceEqDiff, Int.reduceEq, Int.reduceNeg, if_pos, if_neg, w32_id]; omega))
      | exact R_carz_x (M := M) (K := K) rfl (fun _ _ => rfl) h_carz
      | (unfold R_carz; intro c z0 z1; have q := h_carz c z0 z1; have z2 : (M 1337 0 0) ≤ c := z0; have e : ¬ c = x1 := (by omega); (simp only [qw_ap, e, false_and, true_and, and_true, and_false, and_self, if_false, if_true, reduceIte, Nat.reduceEqDiff, Int.reduceEq]); exact q)
      | exact R_begun_x (M := M) (K := K) rfl rfl (fun _ _ => rfl) (fun _ _ => rfl) (fun _ _ => rfl) h_begun
      | (unfold R_begun; intro a c z0 z1 z2 z3 z4; have q := h_begun a c z0 z1 z2 z3 z4; simp (disch := omega) only [qw_ap, false_and, true_and, and_true, and_false, and_self, if_false, if_true, reduceIte, Nat.reduceEqDiff, Int.reduceEq, Int.reduceNeg, if_pos, if_neg, w32_id]; exact q)
      | exact R_begunz_x (M := M) (K := K) rfl rfl (fun _ _ => rfl) (fun _ _ => rfl) h_begunz
      | (unfold R_begunz; intro a z0 z1; have q := h_begunz a z0 z1; simp (disch := omega) only [qw_ap, false_and, true_and, and_true, and_false, and_self, if_false, if_true, reduceIte, Nat.reduceEqDiff, Int.reduceEq, Int.reduceNeg, if_pos, if_neg, w32_id]; exact q)
      | trivial
      | (simp only [cI, cB, cU]; done)
      | (simp only [cI]; omega)
      | (unfold cI; grind)


/-! ===== span ===== -/
set_option maxHeartbeats 400000 in
set_option maxRecDepth 20000 in
theorem op_span {M K : qm} {x1 x2 x3 : Int} (c1 : -2147483648 ≤ x1 ∧ x1 ≤ 2147483647) (c2 : -2147483648 ≤ x2 ∧ x2 ≤ 2147483647) (c3 : -2147483648 ≤ x3 ∧ x3 ≤ 2147483647) (h_built : R_built M K) (h_carn : R_carn M K) (h_cars : R_cars M K) (h_carz : R_carz M K) (h_begun : R_begun M K) (h_begunz : R_begunz M K) : oK2 cU (qf_L_span 20000 x1 x2 x3 M) (qf_X18_span 20000 x1 x2 x3 K) (fun M' K' => R_cars M' K' ∧ R_carz M' K' ∧ R_begun M' K' ∧ R_begunz M' K') := by
  have s_built := h_built
  unfold R_built at s_built
  have s_carn := h_carn
  unfold R_carn at s_carn
  have w1 : w32 (M 1337 0 0 - 1) = M 1337 0 0 - 1 := w32_id (by omega) (by omega)
  by_cases hx : 0 ≤ x1 ∧ x1 < M 1337 0 0
  · have q0 := h_cars x1 hx.1 hx.2
    unfold oK2
    unfold qf_L_span qf_X11_span qf_X11_isFloor qf_X11_span_J31 qf_X11_span_J32 qf_X3_setSpan qf_X11_isCar qf_X18_span qf_X13_isFloor qf_X18_span_J38 qf_X18_span_J39
    repeat' first
      | with_reducible refine qW_within (fun _ => ?_) (fun _ _ => ?_)
      | with_reducible refine qW_isIn (fun _ => ?_) (fun _ _ => ?_)
      | with_reducible refine qW_na (fun _ => ?_) (fun _ => ?_)
      | with_reducible refine qW_ns (fun _ => ?_) (fun _ => ?_)
      | (with_reducible refine qW_goes (fun _ => ?_) (fun _ _ => ?_) (fun _ _ => ?_) <;> (try dsimp only) <;> (try simp only [qw_ap, qfl1_ap, qfl2_ap, qcp1_ap, qcp2_ap, false_and, true_and, and_true, and_false, and_self, if_false, if_true, reduceIte, Nat.reduceEqDiff, Int.reduceEq, Int.reduceNeg]))
      | (with_reducible refine qW_stays (by omega) (fun _ => ?_) (fun _ => ?_) <;> (try dsimp only) <;> (try simp only [qw_ap, qfl1_ap, qfl2_ap, qcp1_ap, qcp2_ap, false_and, true_and, and_true, and_false, and_self, if_false, if_true, reduceIte, Nat.reduceEqDiff, Int.reduceEq, Int.reduceNeg]))
      | (exfalso; omega)
      | with_reducible refine qW_bind ?_
      | (with_reducible refine qW_bnd ?_; try simp only [qw_ap, qfl1_ap, qfl2_ap, qcp1_ap, qcp2_ap, false_and, true_and, and_true, and_false, and_self, if_false, if_true, reduceIte, Nat.reduceEqDiff, Int.reduceEq, Int.reduceNeg])
      | (with_reducible refine qW_some ?_; (try dsimp only); try simp only [qw_ap, qfl1_ap, qfl2_ap, qcp1_ap, qcp2_ap, false_and, true_and, and_true, and_false, and_self, if_false, if_true, reduceIte, Nat.reduceEqDiff, Int.reduceEq, Int.reduceNeg])
      | ((with_reducible refine qW_no ?_); omega)
      | with_reducible refine qW_pos rfl ?_
      | ((with_reducible refine qW_pos ?_ ?_); omega)
      | ((with_reducible refine qW_neg ?_ ?_); (first | omega | decide))
      | with_reducible refine qW_ite (fun _ => ?_) (fun _ => ?_)
      | dsimp only
    all_goals first
      | exact ⟨fun x => absurd x (by decide), R_cars_x (M := M) (K := K) rfl (fun _ _ => rfl) (fun _ _ => rfl) (fun _ _ => rfl) (fun _ _ => rfl) (fun _ _ => rfl) (fun _ _ => rfl) h_cars, R_carz_x (M := M) (K := K) rfl (fun _ _ => rfl) h_carz, R_begun_x (M := M) (K := K) rfl rfl (fun _ _ => rfl) (fun _ _ => rfl) (fun _ _ => rfl) h_begun, R_begunz_x (M := M) (K := K) rfl rfl (fun _ _ => rfl) (fun _ _ => rfl) h_begunz⟩
      | exact ⟨rfl, fun x => absurd x (by decide), R_cars_x (M := M) (K := K) rfl (fun _ _ => rfl) (fun _ _ => rfl) (fun _ _ => rfl) (fun _ _ => rfl) (fun _ _ => rfl) (fun _ _ => rfl) h_cars, R_carz_x (M := M) (K := K) rfl (fun _ _ => rfl) h_carz, R_begun_x (M := M) (K := K) rfl rfl (fun _ _ => rfl) (fun _ _ => rfl) (fun _ _ => rfl) h_begun, R_begunz_x (M := M) (K := K) rfl rfl (fun _ _ => rfl) (fun _ _ => rfl) h_begunz⟩
      | refine ⟨fun _ => ?_, ?_, ?_, ?_, ?_⟩
      | refine ⟨rfl, fun _ => ?_, ?_, ?_, ?_, ?_⟩
    all_goals first
      | exact R_cars_x (M := M) (K := K) rfl (fun _ _ => rfl) (fun _ _ => rfl) (fun _ _ => rfl) (fun _ _ => rfl) (fun _ _ => rfl) (fun _ _ => rfl) h_cars
      | (unfold R_cars; intro c z0 z1; have q := h_cars c z0 z1; rcases Classical.em (c = x1) with e | e; (subst e; simp (disch := omega) only [qw_ap, false_and, true_and, and_true, and_false, and_self, if_false, if_true, reduceIte, Nat.reduceEqDiff, Int.reduceEq, Int.reduceNeg, if_pos, if_neg, w32_id]; omega); (simp (disch := omega) only [qw_ap, false_and, true_and, and_true, and_false, and_self, if_false, if_true, reduceIte, Nat.reduceEqDiff, Int.reduceEq, Int.reduceNeg, if_pos, if_neg, w32_id]; omega))
      | exact R_carz_x (M := M) (K := K) rfl (fun _ _ => rfl) h_carz
      | (unfold R_carz; intro c z0 z1; have q := h_carz c z0 z1; have z2 : (M 1337 0 0) ≤ c := z0; have e : ¬ c = x1 := (by omega); (simp only [qw_ap, e, false_and, true_and, and_true, and_false, and_self, if_false, if_true, reduceIte, Nat.reduceEqDiff, Int.reduceEq]); exact q)
      | exact R_begun_x (M := M) (K := K) rfl rfl (fun _ _ => rfl) (fun _ _ => rfl) (fun _ _ => rfl) h_begun
      | (unfold R_begun; intro a c z0 z1 z2 z3 z4; have q := h_begun a c z0 z1 z2 z3 z4; simp (disch := omega) only [qw_ap, false_and, true_and, and_true, and_false, and_self, if_false, if_true, reduceIte, Nat.reduceEqDiff, Int.reduceEq, Int.reduceNeg, if_pos, if_neg, w32_id]; exact q)
      | exact R_begunz_x (M := M) (K := K) rfl rfl (fun _ _ => rfl) (fun _ _ => rfl) h_begunz
      | (unfold R_begunz; intro a z0 z1; have q := h_begunz a z0 z1; simp (disch := omega) only [qw_ap, false_and, true_and, and_true, and_false, and_self, if_false, if_true, reduceIte, Nat.reduceEqDiff, Int.reduceEq, Int.reduceNeg, if_pos, if_neg, w32_id]; exact q)
      | trivial
      | (simp only [cI, cB, cU]; done)
      | (simp only [cI]; omega)
      | (unfold cI; grind)

  · unfold oK2
    unfold qf_L_span qf_X11_span qf_X11_isFloor qf_X11_span_J31 qf_X11_span_J32 qf_X3_setSpan qf_X11_isCar qf_X18_span qf_X13_isFloor qf_X18_span_J38 qf_X18_span_J39
    repeat' first
      | with_reducible refine qW_within (fun _ => ?_) (fun _ _ => ?_)
      | with_reducible refine qW_isIn (fun _ => ?_) (fun _ _ => ?_)
      | with_reducible refine qW_na (fun _ => ?_) (fun _ => ?_)
      | with_reducible refine qW_ns (fun _ => ?_) (fun _ => ?_)
      | (with_reducible refine qW_goes (fun _ => ?_) (fun _ _ => ?_) (fun _ _ => ?_) <;> (try dsimp only) <;> (try simp only [qw_ap, qfl1_ap, qfl2_ap, qcp1_ap, qcp2_ap, false_and, true_and, and_true, and_false, and_self, if_false, if_true, reduceIte, Nat.reduceEqDiff, Int.reduceEq, Int.reduceNeg]))
      | (with_reducible refine qW_stays (by omega) (fun _ => ?_) (fun _ => ?_) <;> (try dsimp only) <;> (try simp only [qw_ap, qfl1_ap, qfl2_ap, qcp1_ap, qcp2_ap, false_and, true_and, and_true, and_false, and_self, if_false, if_true, reduceIte, Nat.reduceEqDiff, Int.reduceEq, Int.reduceNeg]))
      | (exfalso; omega)
      | with_reducible refine qW_bind ?_
      | (with_reducible refine qW_bnd ?_; try simp only [qw_ap, qfl1_ap, qfl2_ap, qcp1_ap, qcp2_ap, false_and, true_and, and_true, and_false, and_self, if_false, if_true, reduceIte, Nat.reduceEqDiff, Int.reduceEq, Int.reduceNeg])
      | (with_reducible refine qW_some ?_; (try dsimp only); try simp only [qw_ap, qfl1_ap, qfl2_ap, qcp1_ap, qcp2_ap, false_and, true_and, and_true, and_false, and_self, if_false, if_true, reduceIte, Nat.reduceEqDiff, Int.reduceEq, Int.reduceNeg])
      | ((with_reducible refine qW_no ?_); omega)
      | with_reducible refine qW_pos rfl ?_
      | ((with_reducible refine qW_pos ?_ ?_); omega)
      | ((with_reducible refine qW_neg ?_ ?_); (first | omega | decide))
      | with_reducible refine qW_ite (fun _ => ?_) (fun _ => ?_)
      | dsimp only
    all_goals first
      | exact ⟨fun x => absurd x (by decide), R_cars_x (M := M) (K := K) rfl (fun _ _ => rfl) (fun _ _ => rfl) (fun _ _ => rfl) (fun _ _ => rfl) (fun _ _ => rfl) (fun _ _ => rfl) h_cars, R_carz_x (M := M) (K := K) rfl (fun _ _ => rfl) h_carz, R_begun_x (M := M) (K := K) rfl rfl (fun _ _ => rfl) (fun _ _ => rfl) (fun _ _ => rfl) h_begun, R_begunz_x (M := M) (K := K) rfl rfl (fun _ _ => rfl) (fun _ _ => rfl) h_begunz⟩
      | exact ⟨rfl, fun x => absurd x (by decide), R_cars_x (M := M) (K := K) rfl (fun _ _ => rfl) (fun _ _ => rfl) (fun _ _ => rfl) (fun _ _ => rfl) (fun _ _ => rfl) (fun _ _ => rfl) h_cars, R_carz_x (M := M) (K := K) rfl (fun _ _ => rfl) h_carz, R_begun_x (M := M) (K := K) rfl rfl (fun _ _ => rfl) (fun _ _ => rfl) (fun _ _ => rfl) h_begun, R_begunz_x (M := M) (K := K) rfl rfl (fun _ _ => rfl) (fun _ _ => rfl) h_begunz⟩
      | refine ⟨fun _ => ?_, ?_, ?_, ?_, ?_⟩
      | refine ⟨rfl, fun _ => ?_, ?_, ?_, ?_, ?_⟩
    all_goals first
      | exact R_cars_x (M := M) (K := K) rfl (fun _ _ => rfl) (fun _ _ => rfl) (fun _ _ => rfl) (fun _ _ => rfl) (fun _ _ => rfl) (fun _ _ => rfl) h_cars
      | (unfold R_cars; intro c z0 z1; have q := h_cars c z0 z1; rcases Classical.em (c = x1) with e | e; (subst e; simp (disch := omega) only [qw_ap, false_and, true_and, and_true, and_false, and_self, if_false, if_true, reduceIte, Nat.reduceEqDiff, Int.reduceEq, Int.reduceNeg, if_pos, if_neg, w32_id]; omega); (simp (disch := omega) only [qw_ap, false_and, true_and, and_true, and_false, and_self, if_false, if_true, reduceIte, Nat.reduceEqDiff, Int.reduceEq, Int.reduceNeg, if_pos, if_neg, w32_id]; omega))
      | exact R_carz_x (M := M) (K := K) rfl (fun _ _ => rfl) h_carz
      | (unfold R_carz; intro c z0 z1; have q := h_carz c z0 z1; have z2 : (M 1337 0 0) ≤ c := z0; have e : ¬ c = x1 := (by omega); (simp only [qw_ap, e, false_and, true_and, and_true, and_false, and_self, if_false, if_true, reduceIte, Nat.reduceEqDiff, Int.reduceEq]); exact q)
      | exact R_begun_x (M := M) (K := K) rfl rfl (fun _ _ => rfl) (fun _ _ => rfl) (fun _ _ => rfl) h_begun
      | (unfold R_begun; intro a c z0 z1 z2 z3 z4; have q := h_begun a c z0 z1 z2 z3 z4; simp (disch := omega) only [qw_ap, false_and, true_and, and_true, and_false, and_self, if_false, if_true, reduceIte, Nat.reduceEqDiff, Int.reduceEq, Int.reduceNeg, if_pos, if_neg, w32_id]; exact q)
      | exact R_begunz_x (M := M) (K := K) rfl rfl (fun _ _ => rfl) (fun _ _ => rfl) h_begunz
      | (unfold R_begunz; intro a z0 z1; have q := h_begunz a z0 z1; simp (disch := omega) only [qw_ap, false_and, true_and, and_true, and_false, and_self, if_false, if_true, reduceIte, Nat.reduceEqDiff, Int.reduceEq, Int.reduceNeg, if_pos, if_neg, w32_id]; exact q)
      | trivial
      | (simp only [cI, cB, cU]; done)
      | (simp only [cI]; omega)
      | (unfold cI; grind)


/-! ===== trim ===== -/
set_option maxHeartbeats 400000 in
set_option maxRecDepth 20000 in
theorem op_trim {M K : qm} {x1 : Int} (c1 : -2147483648 ≤ x1 ∧ x1 ≤ 2147483647) (h_built : R_built M K) (h_textn : R_textn M K) (h_textc : R_textc M K) : oK2 cI (qf_L_trim 20000 x1 M) (qf_X18_trim 20000 x1 K) (fun M' K' => R_textn M' K' ∧ R_textc M' K') := by
  have s_built := h_built
  unfold R_built at s_built
  have s_textn := h_textn
  unfold R_textn at s_textn
  unfold oK2
  unfold qf_L_trim qf_X11_trim qf_X11_trim_J19 qf_X11_trim_J20 qf_X18_trim qf_X18_trim_J20 qf_X18_trim_J21
  repeat' first
    | with_reducible refine qW_within (fun _ => ?_) (fun _ _ => ?_)
    | with_reducible refine qW_isIn (fun _ => ?_) (fun _ _ => ?_)
    | with_reducible refine qW_na (fun _ => ?_) (fun _ => ?_)
    | with_reducible refine qW_ns (fun _ => ?_) (fun _ => ?_)
    | (with_reducible refine qW_goes (fun _ => ?_) (fun _ _ => ?_) (fun _ _ => ?_) <;> (try dsimp only) <;> (try simp only [qw_ap, qfl1_ap, qfl2_ap, qcp1_ap, qcp2_ap, false_and, true_and, and_true, and_false, and_self, if_false, if_true, reduceIte, Nat.reduceEqDiff, Int.reduceEq, Int.reduceNeg]))
    | (with_reducible refine qW_stays (by omega) (fun _ => ?_) (fun _ => ?_) <;> (try dsimp only) <;> (try simp only [qw_ap, qfl1_ap, qfl2_ap, qcp1_ap, qcp2_ap, false_and, true_and, and_true, and_false, and_self, if_false, if_true, reduceIte, Nat.reduceEqDiff, Int.reduceEq, Int.reduceNeg]))
    | (exfalso; omega)
    | with_reducible refine qW_bind ?_
    | (with_reducible refine qW_bnd ?_; try simp only [qw_ap, qfl1_ap, qfl2_ap, qcp1_ap, qcp2_ap, false_and, true_and, and_true, and_false, and_self, if_false, if_true, reduceIte, Nat.reduceEqDiff, Int.reduceEq, Int.reduceNeg])
    | (with_reducible refine qW_some ?_; (try dsimp only); try simp only [qw_ap, qfl1_ap, qfl2_ap, qcp1_ap, qcp2_ap, false_and, true_and, and_true, and_false, and_self, if_false, if_true, reduceIte, Nat.reduceEqDiff, Int.reduceEq, Int.reduceNeg])
    | ((with_reducible refine qW_no ?_); omega)
    | with_reducible refine qW_pos rfl ?_
    | ((with_reducible refine qW_pos ?_ ?_); omega)
    | ((with_reducible refine qW_neg ?_ ?_); (first | omega | decide))
    | with_reducible refine qW_ite (fun _ => ?_) (fun _ => ?_)
    | dsimp only
  all_goals first
    | exact ⟨fun x => absurd x (by decide), R_textn_x (M := M) (K := K) rfl rfl h_textn, R_textc_x (M := M) (K := K) rfl (fun _ _ => rfl) (fun _ _ => rfl) h_textc⟩
    | exact ⟨rfl, fun x => absurd x (by decide), R_textn_x (M := M) (K := K) rfl rfl h_textn, R_textc_x (M := M) (K := K) rfl (fun _ _ => rfl) (fun _ _ => rfl) h_textc⟩
    | refine ⟨fun _ => ?_, ?_, ?_⟩
    | refine ⟨rfl, fun _ => ?_, ?_, ?_⟩
  all_goals first
    | exact R_textn_x (M := M) (K := K) rfl rfl h_textn
    | (unfold R_textn at *; simp (disch := omega) only [qw_ap, false_and, true_and, and_true, and_false, and_self, if_false, if_true, reduceIte, Nat.reduceEqDiff, Int.reduceEq, Int.reduceNeg, if_pos, if_neg, w32_id]; omega)
    | exact R_textc_x (M := M) (K := K) rfl (fun _ _ => rfl) (fun _ _ => rfl) h_textc
    | (unfold R_textc; intro i z0 z1; have q := h_textc i z0 (Int.lt_of_lt_of_le z1 (by simp (disch := omega) only [qw_ap, false_and, true_and, and_true, and_false, and_self, if_false, if_true, reduceIte, Nat.reduceEqDiff, Int.reduceEq, Int.reduceNeg, if_pos, if_neg, w32_id]; omega)); simp (disch := omega) only [qw_ap, false_and, true_and, and_true, and_false, and_self, if_false, if_true, reduceIte, Nat.reduceEqDiff, Int.reduceEq, Int.reduceNeg, if_pos, if_neg, w32_id]; exact q)
    | (simp only [cI, cB, cU]; done)
    | (simp only [cI]; omega)
    | (unfold cI; grind)

/-! ===== cutText ===== -/
set_option maxHeartbeats 400000 in
set_option maxRecDepth 20000 in
theorem op_cutText {M K : qm} {x1 : Int} (c1 : -2147483648 ≤ x1 ∧ x1 ≤ 2147483647) (h_built : R_built M K) (h_mtextn : R_mtextn M K) (h_mtext : R_mtext M K) : oK2 cI (qf_L_cutText 20000 x1 M) (qf_X18_cutText 20000 x1 K) (fun M' K' => R_mtextn M' K' ∧ R_mtext M' K') := by
  have s_built := h_built
  unfold R_built at s_built
  have s_mtextn := h_mtextn
  unfold R_mtextn at s_mtextn
  unfold oK2
  unfold qf_L_cutText qf_X11_cutText qf_X11_cutText_J19 qf_X11_cutText_J20 qf_X18_cutText qf_X18_cutText_J20 qf_X18_cutText_J21
  repeat' first
    | with_reducible refine qW_within (fun _ => ?_) (fun _ _ => ?_)
    | with_reducible refine qW_isIn (fun _ => ?_) (fun _ _ => ?_)
    | with_reducible refine qW_na (fun _ => ?_) (fun _ => ?_)
    | with_reducible refine qW_ns (fun _ => ?_) (fun _ => ?_)
    | (with_reducible refine qW_goes (fun _ => ?_) (fun _ _ => ?_) (fun _ _ => ?_) <;> (try dsimp only) <;> (try simp only [qw_ap, qfl1_ap, qfl2_ap, qcp1_ap, qcp2_ap, false_and, true_and, and_true, and_false, and_self, if_false, if_true, reduceIte, Nat.reduceEqDiff, Int.reduceEq, Int.reduceNeg]))
    | (with_reducible refine qW_stays (by omega) (fun _ => ?_) (fun _ => ?_) <;> (try dsimp only) <;> (try simp only [qw_ap, qfl1_ap, qfl2_ap, qcp1_ap, qcp2_ap, false_and, true_and, and_true, and_false, and_self, if_false, if_true, reduceIte, Nat.reduceEqDiff, Int.reduceEq, Int.reduceNeg]))
    | (exfalso; omega)
    | with_reducible refine qW_bind ?_
    | (with_reducible refine qW_bnd ?_; try simp only [qw_ap, qfl1_ap, qfl2_ap, qcp1_ap, qcp2_ap, false_and, true_and, and_true, and_false, and_self, if_false, if_true, reduceIte, Nat.reduceEqDiff, Int.reduceEq, Int.reduceNeg])
    | (with_reducible refine qW_some ?_; (try dsimp only); try simp only [qw_ap, qfl1_ap, qfl2_ap, qcp1_ap, qcp2_ap, false_and, true_and, and_true, and_false, and_self, if_false, if_true, reduceIte, Nat.reduceEqDiff, Int.reduceEq, Int.reduceNeg])
    | ((with_reducible refine qW_no ?_); omega)
    | with_reducible refine qW_pos rfl ?_
    | ((with_reducible refine qW_pos ?_ ?_); omega)
    | ((with_reducible refine qW_neg ?_ ?_); (first | omega | decide))
    | with_reducible refine qW_ite (fun _ => ?_) (fun _ => ?_)
    | dsimp only
  all_goals first
    | exact ⟨fun x => absurd x (by decide), R_mtextn_x (M := M) (K := K) rfl rfl rfl h_mtextn, R_mtext_x (M := M) (K := K) rfl (fun _ _ => rfl) (fun _ _ => rfl) h_mtext⟩
    | exact ⟨rfl, fun x => absurd x (by decide), R_mtextn_x (M := M) (K := K) rfl rfl rfl h_mtextn, R_mtext_x (M := M) (K := K) rfl (fun _ _ => rfl) (fun _ _ => rfl) h_mtext⟩
    | refine ⟨fun _ => ?_, ?_, ?_⟩
    | refine ⟨rfl, fun _ => ?_, ?_, ?_⟩
  all_goals first
    | exact R_mtextn_x (M := M) (K := K) rfl rfl rfl h_mtextn
    | (unfold R_mtextn at *; simp (disch := omega) only [qw_ap, false_and, true_and, and_true, and_false, and_self, if_false, if_true, reduceIte, Nat.reduceEqDiff, Int.reduceEq, Int.reduceNeg, if_pos, if_neg, w32_id]; omega)
    | exact R_mtext_x (M := M) (K := K) rfl (fun _ _ => rfl) (fun _ _ => rfl) h_mtext
    | (unfold R_mtext; intro i z0 z1; have q := h_mtext i z0 (Int.lt_of_lt_of_le z1 (by simp (disch := omega) only [qw_ap, false_and, true_and, and_true, and_false, and_self, if_false, if_true, reduceIte, Nat.reduceEqDiff, Int.reduceEq, Int.reduceNeg, if_pos, if_neg, w32_id]; omega)); simp (disch := omega) only [qw_ap, false_and, true_and, and_true, and_false, and_self, if_false, if_true, reduceIte, Nat.reduceEqDiff, Int.reduceEq, Int.reduceNeg, if_pos, if_neg, w32_id]; exact q)
    | (simp only [cI, cB, cU]; done)
    | (simp only [cI]; omega)
    | (unfold cI; grind)

/-! ===== unit ===== -/
set_option maxHeartbeats 400000 in
set_option maxRecDepth 20000 in
theorem op_unit {M K : qm} {x1 : Int} (c1 : -2147483648 ≤ x1 ∧ x1 ≤ 2147483647) (h_built : R_built M K) (h_mtextn : R_mtextn M K) (h_mtext : R_mtext M K) : oK2 cI (qf_L_unit 20000 x1 M) (qf_X18_unit 20000 x1 K) (fun M' K' => R_mtextn M' K' ∧ R_mtext M' K') := by
  have s_built := h_built
  unfold R_built at s_built
  have s_mtextn := h_mtextn
  unfold R_mtextn at s_mtextn
  unfold oK2
  unfold qf_L_unit qf_X11_unit qf_X11_unit_J34 qf_X11_unit_J35 qf_X5_append qf_X18_unit qf_X18_unit_J15 qf_X18_unit_J16 qf_X18_unit_J40 qf_X18_unit_J41 qf_X14_unit
  repeat' first
    | with_reducible refine qW_within (fun _ => ?_) (fun _ _ => ?_)
    | with_reducible refine qW_isIn (fun _ => ?_) (fun _ _ => ?_)
    | with_reducible refine qW_na (fun _ => ?_) (fun _ => ?_)
    | with_reducible refine qW_ns (fun _ => ?_) (fun _ => ?_)
    | (with_reducible refine qW_goes (fun _ => ?_) (fun _ _ => ?_) (fun _ _ => ?_) <;> (try dsimp only) <;> (try simp only [qw_ap, qfl1_ap, qfl2_ap, qcp1_ap, qcp2_ap, false_and, true_and, and_true, and_false, and_self, if_false, if_true, reduceIte, Nat.reduceEqDiff, Int.reduceEq, Int.reduceNeg]))
    | (with_reducible refine qW_stays (by omega) (fun _ => ?_) (fun _ => ?_) <;> (try dsimp only) <;> (try simp only [qw_ap, qfl1_ap, qfl2_ap, qcp1_ap, qcp2_ap, false_and, true_and, and_true, and_false, and_self, if_false, if_true, reduceIte, Nat.reduceEqDiff, Int.reduceEq, Int.reduceNeg]))
    | (exfalso; omega)
    | with_reducible refine qW_bind ?_
    | (with_reducible refine qW_bnd ?_; try simp only [qw_ap, qfl1_ap, qfl2_ap, qcp1_ap, qcp2_ap, false_and, true_and, and_true, and_false, and_self, if_false, if_true, reduceIte, Nat.reduceEqDiff, Int.reduceEq, Int.reduceNeg])
    | (with_reducible refine qW_some ?_; (try dsimp only); try simp only [qw_ap, qfl1_ap, qfl2_ap, qcp1_ap, qcp2_ap, false_and, true_and, and_true, and_false, and_self, if_false, if_true, reduceIte, Nat.reduceEqDiff, Int.reduceEq, Int.reduceNeg])
    | ((with_reducible refine qW_no ?_); omega)
    | with_reducible refine qW_pos rfl ?_
    | ((with_reducible refine qW_pos ?_ ?_); omega)
    | ((with_reducible refine qW_neg ?_ ?_); (first | omega | decide))
    | with_reducible refine qW_ite (fun _ => ?_) (fun _ => ?_)
    | dsimp only
  all_goals first
    | exact ⟨fun x => absurd x (by decide), R_mtextn_x (M := M) (K := K) rfl rfl rfl h_mtextn, R_mtext_x (M := M) (K := K) rfl (fun _ _ => rfl) (fun _ _ => rfl) h_mtext⟩
    | exact ⟨rfl, fun x => absurd x (by decide), R_mtextn_x (M := M) (K := K) rfl rfl rfl h_mtextn, R_mtext_x (M := M) (K := K) rfl (fun _ _ => rfl) (fun _ _ => rfl) h_mtext⟩
    | refine ⟨fun _ => ?_, ?_, ?_⟩
    | refine ⟨rfl, fun _ => ?_, ?_, ?_⟩
  all_goals first
    | exact R_mtextn_x (M := M) (K := K) rfl rfl rfl h_mtextn
    | (unfold R_mtextn at *; simp (disch := omega) only [qw_ap, false_and, true_and, and_true, and_false, and_self, if_false, if_true, reduceIte, Nat.reduceEqDiff, Int.reduceEq, Int.reduceNeg, if_pos, if_neg, w32_id]; omega)
    | exact R_mtext_x (M := M) (K := K) rfl (fun _ _ => rfl) (fun _ _ => rfl) h_mtext
    | (unfold R_mtext; intro i z0 z1; rcases Classical.em (i = (M 908 1 0)) with e | e; (subst e; simp (disch := omega) only [qw_ap, false_and, true_and, and_true, and_false, and_self, if_false, if_true, reduceIte, Nat.reduceEqDiff, Int.reduceEq, Int.reduceNeg, if_pos, if_neg, w32_id]; omega); (have q := h_mtext i z0 (by revert z1; simp (disch := omega) only [qw_ap, false_and, true_and, and_true, and_false, and_self, if_false, if_true, reduceIte, Nat.reduceEqDiff, Int.reduceEq, Int.reduceNeg, if_pos, if_neg, w32_id]; omega); simp (disch := omega) only [qw_ap, false_and, true_and, and_true, and_false, and_self, if_false, if_true, reduceIte, Nat.reduceEqDiff, Int.reduceEq, Int.reduceNeg, if_pos, if_neg, w32_id]; omega))
    | (simp only [cI, cB, cU]; done)
    | (simp only [cI]; omega)
    | (unfold cI; grind)

