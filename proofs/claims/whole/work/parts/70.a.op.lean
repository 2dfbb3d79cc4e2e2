/-! ===== where ===== -/
set_option maxHeartbeats 400000 in
set_option maxRecDepth 20000 in
theorem op_where {M K : qm} {x1 x2 : Int} (c1 : -2147483648 ≤ x1 ∧ x1 ≤ 2147483647) (c2 : -2147483648 ≤ x2 ∧ x2 ≤ 2147483647) (h_built : R_built M K) (h_personn : R_personn M K) (h_persons : R_persons M K) : oK2 cI (qf_L_where 20000 x1 x2 M) (qf_X18_where 20000 x1 x2 K) (fun M' K' => True) := by
  have s_built := h_built
  unfold R_built at s_built
  have s_personn := h_personn
  unfold R_personn at s_personn
  have w1 : w32 (M 756 7 0 - 1) = M 756 7 0 - 1 := w32_id (by omega) (by omega)
  by_cases hx : 0 ≤ x1 ∧ x1 < M 756 7 0
  · unfold oK2
    unfold qf_L_where qf_X11_where qf_X11_where_J21 qf_X11_where_J22 qf_X10_personFact qf_X11_isPerson qf_X18_where qf_X18_where_J25 qf_X18_where_J26
    repeat' first
      | with_reducible refine qW_within (fun _ => ?_) (fun _ _ => ?_)
      | with_reducible refine qW_isIn (fun _ => ?_) (fun _ _ => ?_)
      | with_reducible refine qW_na (fun _ => ?_) (fun _ => ?_)
      | with_reducible refine qW_ns (fun _ => ?_) (fun _ => ?_)
      | (with_reducible refine qW_goes (fun _ => ?_) (fun _ _ => ?_) (fun _ _ => ?_) <;> (try dsimp only) <;> (try simp only [qw_ap, qfl1_ap, qfl2_ap, qcp1_ap, qcp2_ap, false_and, true_and, and_true, and_false, and_self, if_false, if_true, reduceIte, Nat.reduceEqDiff, Int.reduceEq, Int.reduceNeg]))
      | (with_reducible refine qW_stays (by omega) (fun _ => ?_) (fun _ => ?_) <;> (try dsimp only) <;> (try simp only [qw_ap, qfl1_ap, qfl2_ap, qcp1_ap, qcp2_ap, false_and, true_and, and_true, and_false, and_self, if_false, if_true, reduceIte, Nat.reduceEqDiff, Int.reduceEq, Int.reduceNeg]))
      | (exfalso; omega)
      | with_reducible refine qW_bind ?_
      | (with_reducible refine qW_bnd ?_; try simp only [qw_ap, qfl1_ap, qfl2_ap, qcp1_ap, qcp2_ap, false_and, true_and, and_true, and_false, and_self, if_false, if_true, reduceIte, Nat.reduceEqDiff, Int.reduceEq, Int.reduceNeg])
      | (with_reducible refine qW_some ?_; (try dsimp only); try simp only [qw_ap, qfl1_ap, qfl2_ap, qcp1_ap, qcp2_ap, false_and, true_and, and_true, and_false, and_self, if_false, if_true, reduceIte, Nat.reduceEqDiff, Int.reduceEq, Int.reduceNeg])
      | ((with_reducible refine qW_no ?_); omega)
      | with_reducible refine qW_pos rfl ?_
      | ((with_reducible refine qW_pos ?_ ?_); omega)
      | ((with_reducible refine qW_neg ?_ ?_); (first | omega | decide))
      | with_reducible refine qW_ite (fun _ => ?_) (fun _ => ?_)
      | dsimp only
    all_goals first
      | exact fun x => absurd x (by decide)
      | exact ⟨rfl, fun x => absurd x (by decide)⟩
      | (intro _)
      | (refine ⟨rfl, fun _ => ?_⟩)
    all_goals first
      | (have ql0 := h_persons x1 hx.1 hx.2; (unfold cI; first | omega | (rw [show x2 = 0 by omega]; omega) | (rw [show x2 = 1 by omega]; omega) | (rw [show x2 = 2 by omega]; omega) | (rw [show x2 = 3 by omega]; omega) | (rw [show x2 = 4 by omega]; omega) | (rw [show x2 = 5 by omega]; omega)))
      | (simp only [cI, cB, cU]; done)
      | (simp only [cI]; omega)
      | (unfold cI; grind)

  · unfold oK2
    unfold qf_L_where qf_X11_where qf_X11_where_J21 qf_X11_where_J22 qf_X10_personFact qf_X11_isPerson qf_X18_where qf_X18_where_J25 qf_X18_where_J26
    repeat' first
      | with_reducible refine qW_within (fun _ => ?_) (fun _ _ => ?_)
      | with_reducible refine qW_isIn (fun _ => ?_) (fun _ _ => ?_)
      | with_reducible refine qW_na (fun _ => ?_) (fun _ => ?_)
      | with_reducible refine qW_ns (fun _ => ?_) (fun _ => ?_)
      | (with_reducible refine qW_goes (fun _ => ?_) (fun _ _ => ?_) (fun _ _ => ?_) <;> (try dsimp only) <;> (try simp only [qw_ap, qfl1_ap, qfl2_ap, qcp1_ap, qcp2_ap, false_and, true_and, and_true, and_false, and_self, if_false, if_true, reduceIte, Nat.reduceEqDiff, Int.reduceEq, Int.reduceNeg]))
      | (with_reducible refine qW_stays (by omega) (fun _ => ?_) (fun _ => ?_) <;> (try dsimp only) <;> (try simp only [qw_ap, qfl1_ap, qfl2_ap, qcp1_ap, qcp2_ap, false_and, true_and, and_true, and_false, and_self, if_false, if_true, reduceIte, Nat.reduceEqDiff, Int.reduceEq, Int.reduceNeg]))
      | (exfalso; omega)
      | with_reducible refine qW_bind ?_
      | (with_reducible refine qW_bnd ?_; try simp only [qw_ap, qfl1_ap, qfl2_ap, qcp1_ap, qcp2_ap, false_and, true_and, and_true, and_false, and_self, if_false, if_true, reduceIte, Nat.reduceEqDiff, Int.reduceEq, Int.reduceNeg])
      | (with_reducible refine qW_some ?_; (try dsimp only); try simp only [qw_ap, qfl1_ap, qfl2_ap, qcp1_ap, qcp2_ap, false_and, true_and, and_true, and_false, and_self, if_false, if_true, reduceIte, Nat.reduceEqDiff, Int.reduceEq, Int.reduceNeg])
      | ((with_reducible refine qW_no ?_); omega)
      | with_reducible refine qW_pos rfl ?_
      | ((with_reducible refine qW_pos ?_ ?_); omega)
      | ((with_reducible refine qW_neg ?_ ?_); (first | omega | decide))
      | with_reducible refine qW_ite (fun _ => ?_) (fun _ => ?_)
      | dsimp only
    all_goals first
      | exact fun x => absurd x (by decide)
      | exact ⟨rfl, fun x => absurd x (by decide)⟩
      | (intro _)
      | (refine ⟨rfl, fun _ => ?_⟩)
    all_goals first
      | (have ql0 := h_persons x1 hx.1 hx.2; (unfold cI; first | omega | (rw [show x2 = 0 by omega]; omega) | (rw [show x2 = 1 by omega]; omega) | (rw [show x2 = 2 by omega]; omega) | (rw [show x2 = 3 by omega]; omega) | (rw [show x2 = 4 by omega]; omega) | (rw [show x2 = 5 by omega]; omega)))
      | (simp only [cI, cB, cU]; done)
      | (simp only [cI]; omega)
      | (unfold cI; grind)


/-! ===== act ===== -/
set_option maxHeartbeats 400000 in
set_option maxRecDepth 20000 in
theorem op_act {M K : qm} {x1 x2 : Int} (c1 : -2147483648 ≤ x1 ∧ x1 ≤ 2147483647) (c2 : -2147483648 ≤ x2 ∧ x2 ≤ 2147483647) (h_built : R_built M K) (h_macts : R_macts M K) (h_mstate : R_mstate M K) (h_msince : R_msince M K) : oK2 cI (qf_L_act 20000 x1 x2 M) (qf_X18_act 20000 x1 x2 K) (fun M' K' => True) := by
  have s_built := h_built
  unfold R_built at s_built
  by_cases hx : 0 ≤ x1 ∧ x1 < 20
  · have q0 := (show (K 2219 x1 0) = (M 1197 x1 0) by have q := h_macts x1 hx.1 hx.2; omega)
    unfold oK2
    unfold qf_L_act qf_X11_act qf_X11_act_J24 qf_X11_act_J25 qf_X4_actFact qf_X4_isAct qf_X18_act qf_X18_act_J35 qf_X18_act_J36 qf_X14_act
    repeat' first
      | with_reducible refine qW_within (fun _ => ?_) (fun _ _ => ?_)
      | with_reducible refine qW_isIn (fun _ => ?_) (fun _ _ => ?_)
      | with_reducible refine qW_na (fun _ => ?_) (fun _ => ?_)
      | with_reducible refine qW_ns (fun _ => ?_) (fun _ => ?_)
      | (with_reducible refine qW_goes (fun _ => ?_) (fun _ _ => ?_) (fun _ _ => ?_) <;> (try dsimp only) <;> (try simp only [qw_ap, qfl1_ap, qfl2_ap, qcp1_ap, qcp2_ap, false_and, true_and, and_true, and_false, and_self, if_false, if_true, reduceIte, Nat.reduceEqDiff, Int.reduceEq, Int.reduceNeg]))
      | (with_reducible refine qW_stays (by omega) (fun _ => ?_) (fun _ => ?_) <;> (try dsimp only) <;> (try simp only [qw_ap, qfl1_ap, qfl2_ap, qcp1_ap, qcp2_ap, false_and, true_and, and_true, and_false, and_self, if_false, if_true, reduceIte, Nat.reduceEqDiff, Int.reduceEq, Int.reduceNeg]))
      | (exfalso; omega)
      | with_reducible refine qW_bind ?_
      | (with_reducible refine qW_bnd ?_; try simp only [qw_ap, qfl1_ap, qfl2_ap, qcp1_ap, qcp2_ap, false_and, true_and, and_true, and_false, and_self, if_false, if_true, reduceIte, Nat.reduceEqDiff, Int.reduceEq, Int.reduceNeg])
      | (with_reducible refine qW_some ?_; (try dsimp only); try simp only [qw_ap, qfl1_ap, qfl2_ap, qcp1_ap, qcp2_ap, false_and, true_and, and_true, and_false, and_self, if_false, if_true, reduceIte, Nat.reduceEqDiff, Int.reduceEq, Int.reduceNeg])
      | ((with_reducible refine qW_no ?_); omega)
      | with_reducible refine qW_pos rfl ?_
      | ((with_reducible refine qW_pos ?_ ?_); omega)
      | ((with_reducible refine qW_neg ?_ ?_); (first | omega | decide))
      | with_reducible refine qW_ite (fun _ => ?_) (fun _ => ?_)
      | dsimp only
    all_goals first
      | exact fun x => absurd x (by decide)
      | exact ⟨rfl, fun x => absurd x (by decide)⟩
      | (intro _)
      | (refine ⟨rfl, fun _ => ?_⟩)
    all_goals first
      | (have ql0 := h_macts x1 hx.1 hx.2; have ql1 := h_mstate x1 hx.1 hx.2; have ql2 := h_msince x1 hx.1 hx.2; unfold cI; first | omega | (rcases Classical.em ((M 1270 x1 0) = 1) with g | g; (rw [if_pos g] at ql1; omega); (rw [if_neg g] at ql1; omega)))
      | (simp only [cI, cB, cU]; done)
      | (simp only [cI]; omega)
      | (unfold cI; grind)

  · unfold oK2
    unfold qf_L_act qf_X11_act qf_X11_act_J24 qf_X11_act_J25 qf_X4_actFact qf_X4_isAct qf_X18_act qf_X18_act_J35 qf_X18_act_J36 qf_X14_act
    repeat' first
      | with_reducible refine qW_within (fun _ => ?_) (fun _ _ => ?_)
      | with_reducible refine qW_isIn (fun _ => ?_) (fun _ _ => ?_)
      | with_reducible refine qW_na (fun _ => ?_) (fun _ => ?_)
      | with_reducible refine qW_ns (fun _ => ?_) (fun _ => ?_)
      | (with_reducible refine qW_goes (fun _ => ?_) (fun _ _ => ?_) (fun _ _ => ?_) <;> (try dsimp only) <;> (try simp only [qw_ap, qfl1_ap, qfl2_ap, qcp1_ap, qcp2_ap, false_and, true_and, and_true, and_false, and_self, if_false, if_true, reduceIte, Nat.reduceEqDiff, Int.reduceEq, Int.reduceNeg]))
      | (with_reducible refine qW_stays (by omega) (fun _ => ?_) (fun _ => ?_) <;> (try dsimp only) <;> (try simp only [qw_ap, qfl1_ap, qfl2_ap, qcp1_ap, qcp2_ap, false_and, true_and, and_true, and_false, and_self, if_false, if_true, reduceIte, Nat.reduceEqDiff, Int.reduceEq, Int.reduceNeg]))
      | (exfalso; omega)
      | with_reducible refine qW_bind ?_
      | (with_reducible refine qW_bnd ?_; try simp only [qw_ap, qfl1_ap, qfl2_ap, qcp1_ap, qcp2_ap, false_and, true_and, and_true, and_false, and_self, if_false, if_true, reduceIte, Nat.reduceEqDiff, Int.reduceEq, Int.reduceNeg])
      | (with_reducible refine qW_some ?_; (try dsimp only); try simp only [qw_ap, qfl1_ap, qfl2_ap, qcp1_ap, qcp2_ap, false_and, true_and, and_true, and_false, and_self, if_false, if_true, reduceIte, Nat.reduceEqDiff, Int.reduceEq, Int.reduceNeg])
      | ((with_reducible refine qW_no ?_); omega)
      | with_reducible refine qW_pos rfl ?_
      | ((with_reducible refine qW_pos ?_ ?_); omega)
      | ((with_reducible refine qW_neg ?_ ?_); (first | omega | decide))
      | with_reducible refine qW_ite (fun _ => ?_) (fun _ => ?_)
      | dsimp only
    all_goals first
      | exact fun x => absurd x (by decide)
      | exact ⟨rfl, fun x => absurd x (by decide)⟩
      | (intro _)
      | (refine ⟨rfl, fun _ => ?_⟩)
    all_goals first
      | (have ql0 := h_macts x1 hx.1 hx.2; have ql1 := h_mstate x1 hx.1 hx.2; have ql2 := h_msince x1 hx.1 hx.2; unfold cI; first | omega | (rcases Classical.em ((M 1270 x1 0) = 1) with g | g; (rw [if_pos g] at ql1; omega); (rw [if_neg g] at ql1; omega)))
      | (simp only [cI, cB, cU]; done)
      | (simp only [cI]; omega)
      | (unfold cI; grind)


/-! ===== given ===== -/
set_option maxHeartbeats 400000 in
set_option maxRecDepth 20000 in
theorem op_given {M K : qm} {x1 x2 : Int} (c1 : -2147483648 ≤ x1 ∧ x1 ≤ 2147483647) (c2 : -2147483648 ≤ x2 ∧ x2 ≤ 2147483647) (h_built : R_built M K) (h_calln : R_calln M K) (h_given : R_given M K) : oK2 cI (qf_L_given 20000 x1 x2 M) (qf_X18_given 20000 x1 x2 K) (fun M' K' => True) := by
  have s_built := h_built
  unfold R_built at s_built
  have s_calln := h_calln
  unfold R_calln at s_calln
  have w1 : w32 (M 1337 2 0 - 1) = M 1337 2 0 - 1 := w32_id (by omega) (by omega)
  by_cases hx : 0 ≤ x1 ∧ x1 < M 1337 2 0
  · unfold oK2
    unfold qf_L_given qf_X11_given qf_X11_given_J30 qf_X11_given_J31 qf_X18_given qf_X18_given_J27 qf_X18_given_J28 qf_X13_given
    repeat' first
      | with_reducible refine qW_within (fun _ => ?_) (fun _ _ => ?_)
      | with_reducible refine qW_isIn (fun _ => ?_) (fun _ _ => ?_)
      | with_reducible refine qW_na (fun _ => ?_) (fun _ => ?_)
      | with_reducible refine qW_ns (fun _ => ?_) (fun _ => ?_)
      | (with_reducible refine qW_goes (fun _ => ?_) (fun _ _ => ?_) (fun _ _ => ?_) <;> (try dsimp only) <;> (try simp only [qw_ap, qfl1_ap, qfl2_ap, qcp1_ap, qcp2_ap, false_and, true_and, and_true, and_false, and_self, if_false, if_true, reduceIte, Nat.reduceEqDiff, Int.reduceEq, Int.reduceNeg]))
      | (with_reducible refine qW_stays (by omega) (fun _ => ?_) (fun _ => ?_) <;> (try dsimp only) <;> (try simp only [qw_ap, qfl1_ap, qfl2_ap, qcp1_ap, qcp2_ap, false_and, true_and, and_true, and_false, and_self, if_false, if_true, reduceIte, Nat.reduceEqDiff, Int.reduceEq, Int.reduceNeg]))
      | (exfalso; omega)
      | with_reducible refine qW_bind ?_
      | (with_reducible refine qW_bnd ?_; try simp only [qw_ap, qfl1_ap, qfl2_ap, qcp1_ap, qcp2_ap, false_and, true_and, and_true, and_false, and_self, if_false, if_true, reduceIte, Nat.reduceEqDiff, Int.reduceEq, Int.reduceNeg])
      | (with_reducible refine qW_some ?_; (try dsimp only); try simp only [qw_ap, qfl1_ap, qfl2_ap, qcp1_ap, qcp2_ap, false_and, true_and, and_true, and_false, and_self, if_false, if_true, reduceIte, Nat.reduceEqDiff, Int.reduceEq, Int.reduceNeg])
      | ((with_reducible refine qW_no ?_); omega)
      | with_reducible refine qW_pos rfl ?_
      | ((with_reducible refine qW_pos ?_ ?_); omega)
      | ((with_reducible refine qW_neg ?_ ?_); (first | omega | decide))
      | with_reducible refine qW_ite (fun _ => ?_) (fun _ => ?_)
      | dsimp only
    all_goals first
      | exact fun x => absurd x (by decide)
      | exact ⟨rfl, fun x => absurd x (by decide)⟩
      | (intro _)
      | (refine ⟨rfl, fun _ => ?_⟩)
    all_goals first
      | (have ql0 := h_given x1 hx.1 hx.2; unfold cI; rcases (show x2 = 0 ∨ x2 = 1 ∨ x2 = 2 ∨ x2 = 3 by omega) with e | e | e | e <;> first | omega | (rw [e]; omega))
      | (simp only [cI, cB, cU]; done)
      | (simp only [cI]; omega)
      | (unfold cI; grind)

  · unfold oK2
    unfold qf_L_given qf_X11_given qf_X11_given_J30 qf_X11_given_J31 qf_X18_given qf_X18_given_J27 qf_X18_given_J28 qf_X13_given
    repeat' first
      | with_reducible refine qW_within (fun _ => ?_) (fun _ _ => ?_)
      | with_reducible refine qW_isIn (fun _ => ?_) (fun _ _ => ?_)
      | with_reducible refine qW_na (fun _ => ?_) (fun _ => ?_)
      | with_reducible refine qW_ns (fun _ => ?_) (fun _ => ?_)
      | (with_reducible refine qW_goes (fun _ => ?_) (fun _ _ => ?_) (fun _ _ => ?_) <;> (try dsimp only) <;> (try simp only [qw_ap, qfl1_ap, qfl2_ap, qcp1_ap, qcp2_ap, false_and, true_and, and_true, and_false, and_self, if_false, if_true, reduceIte, Nat.reduceEqDiff, Int.reduceEq, Int.reduceNeg]))
      | (with_reducible refine qW_stays (by omega) (fun _ => ?_) (fun _ => ?_) <;> (try dsimp only) <;> (try simp only [qw_ap, qfl1_ap, qfl2_ap, qcp1_ap, qcp2_ap, false_and, true_and, and_true, and_false, and_self, if_false, if_true, reduceIte, Nat.reduceEqDiff, Int.reduceEq, Int.reduceNeg]))
      | (exfalso; omega)
      | with_reducible refine qW_bind ?_
      | (with_reducible refine qW_bnd ?_; try simp only [qw_ap, qfl1_ap, qfl2_ap, qcp1_ap, qcp2_ap, false_and, true_and, and_true, and_false, and_self, if_false, if_true, reduceIte, Nat.reduceEqDiff, Int.reduceEq, Int.reduceNeg])
      | (with_reducible refine qW_some ?_; (try dsimp only); try simp only [qw_ap, qfl1_ap, qfl2_ap, qcp1_ap, qcp2_ap, false_and, true_and, and_true, and_false, and_self, if_false, if_true, reduceIte, Nat.reduceEqDiff, Int.reduceEq, Int.reduceNeg])
      | ((with_reducible refine qW_no ?_); omega)
      | with_reducible refine qW_pos rfl ?_
      | ((with_reducible refine qW_pos ?_ ?_); omega)
      | ((with_reducible refine qW_neg ?_ ?_); (first | omega | decide))
      | with_reducible refine qW_ite (fun _ => ?_) (fun _ => ?_)
      | dsimp only
    all_goals first
      | exact fun x => absurd x (by decide)
      | exact ⟨rfl, fun x => absurd x (by decide)⟩
      | (intro _)
      | (refine ⟨rfl, fun _ => ?_⟩)
    all_goals first
      | (have ql0 := h_given x1 hx.1 hx.2; unfold cI; rcases (show x2 = 0 ∨ x2 = 1 ∨ x2 = 2 ∨ x2 = 3 by omega) with e | e | e | e <;> first | omega | (rw [e]; omega))
      | (simp only [cI, cB, cU]; done)
      | (simp only [cI]; omega)
      | (unfold cI; grind)


/-! ===== against ===== -/
set_option maxHeartbeats 400000 in
set_option maxRecDepth 20000 in
theorem op_against {M K : qm} {x1 x2 : Int} (c1 : -2147483648 ≤ x1 ∧ x1 ≤ 2147483647) (c2 : -2147483648 ≤ x2 ∧ x2 ≤ 2147483647) (h_built : R_built M K) (h_againstn : R_againstn M K) (h_against : R_against M K) : oK2 cI (qf_L_against 20000 x1 x2 M) (qf_X18_against 20000 x1 x2 K) (fun M' K' => True) := by
  have s_built := h_built
  unfold R_built at s_built
  have s_againstn := h_againstn
  unfold R_againstn at s_againstn
  have w1 : w32 (min (M 824 15 0) 100 - 1) = min (M 824 15 0) 100 - 1 := w32_id (by omega) (by omega)
  by_cases hx : 0 ≤ x1 ∧ x1 < 100 ∧ x1 < M 824 15 0
  · have q0 := (show 1 ≤ x2 → x2 ≤ 4 → w32 (w32 (w32 (4 * x1) + x2) - 1) = 4 * x1 + x2 - 1 by intro a b; rw [w32_id (x := 4 * x1) (by omega) (by omega), w32_id (x := 4 * x1 + x2) (by omega) (by omega), w32_id (by omega) (by omega)])
    unfold oK2
    unfold qf_L_against qf_X11_against qf_X0_keptAgainst qf_X11_against_J30 qf_X11_against_J34 qf_X11_against_J35 qf_X0_againstFact qf_X18_against qf_X18_against_J31 qf_X18_against_J35 qf_X18_against_J36
    repeat' first
      | with_reducible refine qW_within (fun _ => ?_) (fun _ _ => ?_)
      | with_reducible refine qW_isIn (fun _ => ?_) (fun _ _ => ?_)
      | with_reducible refine qW_na (fun _ => ?_) (fun _ => ?_)
      | with_reducible refine qW_ns (fun _ => ?_) (fun _ => ?_)
      | (with_reducible refine qW_goes (fun _ => ?_) (fun _ _ => ?_) (fun _ _ => ?_) <;> (try dsimp only) <;> (try simp only [qw_ap, qfl1_ap, qfl2_ap, qcp1_ap, qcp2_ap, false_and, true_and, and_true, and_false, and_self, if_false, if_true, reduceIte, Nat.reduceEqDiff, Int.reduceEq, Int.reduceNeg]))
      | (with_reducible refine qW_stays (by omega) (fun _ => ?_) (fun _ => ?_) <;> (try dsimp only) <;> (try simp only [qw_ap, qfl1_ap, qfl2_ap, qcp1_ap, qcp2_ap, false_and, true_and, and_true, and_false, and_self, if_false, if_true, reduceIte, Nat.reduceEqDiff, Int.reduceEq, Int.reduceNeg]))
      | (exfalso; omega)
      | with_reducible refine qW_bind ?_
      | (with_reducible refine qW_bnd ?_; try simp only [qw_ap, qfl1_ap, qfl2_ap, qcp1_ap, qcp2_ap, false_and, true_and, and_true, and_false, and_self, if_false, if_true, reduceIte, Nat.reduceEqDiff, Int.reduceEq, Int.reduceNeg])
      | (with_reducible refine qW_some ?_; (try dsimp only); try simp only [qw_ap, qfl1_ap, qfl2_ap, qcp1_ap, qcp2_ap, false_and, true_and, and_true, and_false, and_self, if_false, if_true, reduceIte, Nat.reduceEqDiff, Int.reduceEq, Int.reduceNeg])
      | ((with_reducible refine qW_no ?_); omega)
      | with_reducible refine qW_pos rfl ?_
      | ((with_reducible refine qW_pos ?_ ?_); omega)
      | ((with_reducible refine qW_neg ?_ ?_); (first | omega | decide))
      | with_reducible refine qW_ite (fun _ => ?_) (fun _ => ?_)
      | dsimp only
    all_goals first
      | exact fun x => absurd x (by decide)
      | exact ⟨rfl, fun x => absurd x (by decide)⟩
      | (intro _)
      | (refine ⟨rfl, fun _ => ?_⟩)
    all_goals first
      | (have ql0 := h_against x1 hx.1 hx.2.1 hx.2.2; unfold cI; first | omega | (rw [q0 (by omega) (by omega)]; first | (rw [show x2 = 1 by omega, show 4 * x1 + 1 - 1 = 4 * x1 by omega]; omega) | (rw [show x2 = 2 by omega, show 4 * x1 + 2 - 1 = 4 * x1 + 1 by omega]; omega) | (rw [show x2 = 3 by omega, show 4 * x1 + 3 - 1 = 4 * x1 + 2 by omega]; omega) | (rw [show x2 = 4 by omega, show 4 * x1 + 4 - 1 = 4 * x1 + 3 by omega]; omega)))
      | (simp only [cI, cB, cU]; done)
      | (simp only [cI]; omega)
      | (unfold cI; grind)

  · unfold oK2
    unfold qf_L_against qf_X11_against qf_X0_keptAgainst qf_X11_against_J30 qf_X11_against_J34 qf_X11_against_J35 qf_X0_againstFact qf_X18_against qf_X18_against_J31 qf_X18_against_J35 qf_X18_against_J36
    repeat' first
      | with_reducible refine qW_within (fun _ => ?_) (fun _ _ => ?_)
      | with_reducible refine qW_isIn (fun _ => ?_) (fun _ _ => ?_)
      | with_reducible refine qW_na (fun _ => ?_) (fun _ => ?_)
      | with_reducible refine qW_ns (fun _ => ?_) (fun _ => ?_)
      | (with_reducible refine qW_goes (fun _ => ?_) (fun _ _ => ?_) (fun _ _ => ?_) <;> (try dsimp only) <;> (try simp only [qw_ap, qfl1_ap, qfl2_ap, qcp1_ap, qcp2_ap, false_and, true_and, and_true, and_false, and_self, if_false, if_true, reduceIte, Nat.reduceEqDiff, Int.reduceEq, Int.reduceNeg]))
      | (with_reducible refine qW_stays (by omega) (fun _ => ?_) (fun _ => ?_) <;> (try dsimp only) <;> (try simp only [qw_ap, qfl1_ap, qfl2_ap, qcp1_ap, qcp2_ap, false_and, true_and, and_true, and_false, and_self, if_false, if_true, reduceIte, Nat.reduceEqDiff, Int.reduceEq, Int.reduceNeg]))
      | (exfalso; omega)
      | with_reducible refine qW_bind ?_
      | (with_reducible refine qW_bnd ?_; try simp only [qw_ap, qfl1_ap, qfl2_ap, qcp1_ap, qcp2_ap, false_and, true_and, and_true, and_false, and_self, if_false, if_true, reduceIte, Nat.reduceEqDiff, Int.reduceEq, Int.reduceNeg])
      | (with_reducible refine qW_some ?_; (try dsimp only); try simp only [qw_ap, qfl1_ap, qfl2_ap, qcp1_ap, qcp2_ap, false_and, true_and, and_true, and_false, and_self, if_false, if_true, reduceIte, Nat.reduceEqDiff, Int.reduceEq, Int.reduceNeg])
      | ((with_reducible refine qW_no ?_); omega)
      | with_reducible refine qW_pos rfl ?_
      | ((with_reducible refine qW_pos ?_ ?_); omega)
      | ((with_reducible refine qW_neg ?_ ?_); (first | omega | decide))
      | with_reducible refine qW_ite (fun _ => ?_) (fun _ => ?_)
      | dsimp only
    all_goals first
      | exact fun x => absurd x (by decide)
      | exact ⟨rfl, fun x => absurd x (by decide)⟩
      | (intro _)
      | (refine ⟨rfl, fun _ => ?_⟩)
    all_goals first
      | (have ql0 := h_against x1 hx.1 hx.2.1 hx.2.2; unfold cI; first | omega | (rw [q0 (by omega) (by omega)]; first | (rw [show x2 = 1 by omega, show 4 * x1 + 1 - 1 = 4 * x1 by omega]; omega) | (rw [show x2 = 2 by omega, show 4 * x1 + 2 - 1 = 4 * x1 + 1 by omega]; omega) | (rw [show x2 = 3 by omega, show 4 * x1 + 3 - 1 = 4 * x1 + 2 by omega]; omega) | (rw [show x2 = 4 by omega, show 4 * x1 + 4 - 1 = 4 * x1 + 3 by omega]; omega)))
      | (simp only [cI, cB, cU]; done)
      | (simp only [cI]; omega)
      | (unfold cI; grind)


/-! ===== byteAt ===== -/
set_option maxHeartbeats 400000 in
set_option maxRecDepth 20000 in
theorem op_byteAt {M K : qm} {x1 : Int} (c1 : -2147483648 ≤ x1 ∧ x1 ≤ 2147483647) (h_built : R_built M K) (h_blatest : R_blatest M K) : oK2 cI (qf_L_byteAt 20000 x1 M) (qf_X18_byteAt 20000 x1 K) (fun M' K' => True) := by
  have s_built := h_built
  unfold R_built at s_built
  have bl1 := h_blatest.1
  have bl2 := h_blatest.2.1
  have bl3 := h_blatest.2.2.1
  have bl4 := h_blatest.2.2.2.1
  have w1 : w32 (M 1139 15 0 - 1) = M 1139 15 0 - 1 := w32_id (by omega) (by omega)
  by_cases hx : 0 ≤ x1 ∧ x1 < M 1139 15 0
  · unfold oK2
    unfold qf_L_byteAt qf_X11_byteAt qf_X18_byteAt qf_X18_byteAt_J21 qf_X18_byteAt_J22
    repeat' first
      | with_reducible refine qW_within (fun _ => ?_) (fun _ _ => ?_)
      | with_reducible refine qW_isIn (fun _ => ?_) (fun _ _ => ?_)
      | with_reducible refine qW_na (fun _ => ?_) (fun _ => ?_)
      | with_reducible refine qW_ns (fun _ => ?_) (fun _ => ?_)
      | (with_reducible refine qW_goes (fun _ => ?_) (fun _ _ => ?_) (fun _ _ => ?_) <;> (try dsimp only) <;> (try simp only [qw_ap, qfl1_ap, qfl2_ap, qcp1_ap, qcp2_ap, false_and, true_and, and_true, and_false, and_self, if_false, if_true, reduceIte, Nat.reduceEqDiff, Int.reduceEq, Int.reduceNeg]))
      | (with_reducible refine qW_stays (by omega) (fun _ => ?_) (fun _ => ?_) <;> (try dsimp only) <;> (try simp only [qw_ap, qfl1_ap, qfl2_ap, qcp1_ap, qcp2_ap, false_and, true_and, and_true, and_false, and_self, if_false, if_true, reduceIte, Nat.reduceEqDiff, Int.reduceEq, Int.reduceNeg]))
      | (exfalso; omega)
      | with_reducible refine qW_bind ?_
      | (with_reducible refine qW_bnd ?_; try simp only [qw_ap, qfl1_ap, qfl2_ap, qcp1_ap, qcp2_ap, false_and, true_and, and_true, and_false, and_self, if_false, if_true, reduceIte, Nat.reduceEqDiff, Int.reduceEq, Int.reduceNeg])
      | (with_reducible refine qW_some ?_; (try dsimp only); try simp only [qw_ap, qfl1_ap, qfl2_ap, qcp1_ap, qcp2_ap, false_and, true_and, and_true, and_false, and_self, if_false, if_true, reduceIte, Nat.reduceEqDiff, Int.reduceEq, Int.reduceNeg])
      | ((with_reducible refine qW_no ?_); omega)
      | with_reducible refine qW_pos rfl ?_
      | ((with_reducible refine qW_pos ?_ ?_); omega)
      | ((with_reducible refine qW_neg ?_ ?_); (first | omega | decide))
      | with_reducible refine qW_ite (fun _ => ?_) (fun _ => ?_)
      | dsimp only
    all_goals first
      | exact fun x => absurd x (by decide)
      | exact ⟨rfl, fun x => absurd x (by decide)⟩
      | (intro _)
      | (refine ⟨rfl, fun _ => ?_⟩)
    all_goals first
      | (have ql0 := h_blatest.2.2.2.2 x1 hx.1 hx.2; unfold cI; omega)
      | (simp only [cI, cB, cU]; done)
      | (simp only [cI]; omega)
      | (unfold cI; grind)

  · unfold oK2
    unfold qf_L_byteAt qf_X11_byteAt qf_X18_byteAt qf_X18_byteAt_J21 qf_X18_byteAt_J22
    repeat' first
      | with_reducible refine qW_within (fun _ => ?_) (fun _ _ => ?_)
      | with_reducible refine qW_isIn (fun _ => ?_) (fun _ _ => ?_)
      | with_reducible refine qW_na (fun _ => ?_) (fun _ => ?_)
      | with_reducible refine qW_ns (fun _ => ?_) (fun _ => ?_)
      | (with_reducible refine qW_goes (fun _ => ?_) (fun _ _ => ?_) (fun _ _ => ?_) <;> (try dsimp only) <;> (try simp only [qw_ap, qfl1_ap, qfl2_ap, qcp1_ap, qcp2_ap, false_and, true_and, and_true, and_false, and_self, if_false, if_true, reduceIte, Nat.reduceEqDiff, Int.reduceEq, Int.reduceNeg]))
      | (with_reducible refine qW_stays (by omega) (fun _ => ?_) (fun _ => ?_) <;> (try dsimp only) <;> (try simp only [qw_ap, qfl1_ap, qfl2_ap, qcp1_ap, qcp2_ap, false_and, true_and, and_true, and_false, and_self, if_false, if_true, reduceIte, Nat.reduceEqDiff, Int.reduceEq, Int.reduceNeg]))
      | (exfalso; omega)
      | with_reducible refine qW_bind ?_
      | (with_reducible refine qW_bnd ?_; try simp only [qw_ap, qfl1_ap, qfl2_ap, qcp1_ap, qcp2_ap, false_and, true_and, and_true, and_false, and_self, if_false, if_true, reduceIte, Nat.reduceEqDiff, Int.reduceEq, Int.reduceNeg])
      | (with_reducible refine qW_some ?_; (try dsimp only); try simp only [qw_ap, qfl1_ap, qfl2_ap, qcp1_ap, qcp2_ap, false_and, true_and, and_true, and_false, and_self, if_false, if_true, reduceIte, Nat.reduceEqDiff, Int.reduceEq, Int.reduceNeg])
      | ((with_reducible refine qW_no ?_); omega)
      | with_reducible refine qW_pos rfl ?_
      | ((with_reducible refine qW_pos ?_ ?_); omega)
      | ((with_reducible refine qW_neg ?_ ?_); (first | omega | decide))
      | with_reducible refine qW_ite (fun _ => ?_) (fun _ => ?_)
      | dsimp only
    all_goals first
      | exact fun x => absurd x (by decide)
      | exact ⟨rfl, fun x => absurd x (by decide)⟩
      | (intro _)
      | (refine ⟨rfl, fun _ => ?_⟩)
    all_goals first
      | (have ql0 := h_blatest.2.2.2.2 x1 hx.1 hx.2; unfold cI; omega)
      | (simp only [cI, cB, cU]; done)
      | (simp only [cI]; omega)
      | (unfold cI; grind)


/-! ===== rule ===== -/
set_option maxHeartbeats 400000 in
set_option maxRecDepth 20000 in
theorem op_rule {M K : qm} {x1 x2 : Int} (c1 : -2147483648 ≤ x1 ∧ x1 ≤ 2147483647) (c2 : -2147483648 ≤ x2 ∧ x2 ≤ 2147483647) (h_built : R_built M K) (h_rulen : R_rulen M K) (h_answers : R_answers M K) : oK2 cI (qf_L_rule 20000 x1 x2 M) (qf_X18_rule 20000 x1 x2 K) (fun M' K' => True) := by
  have s_built := h_built
  unfold R_built at s_built
  have s_rulen := h_rulen
  unfold R_rulen at s_rulen
  have w1 : w32 ((M 735 0 0) - 1) = (M 735 0 0) - 1 := w32_id (by omega) (by omega)
  by_cases hx : 0 ≤ x1 ∧ x1 < (M 735 0 0) ∧ (M 735 1 0) = 1
  · unfold oK2
    unfold qf_L_rule qf_X11_rule qf_X11_rule_J31 qf_X11_rule_J32 qf_X7_answerOf qf_X18_rule qf_X18_rule_J28 qf_X18_rule_J29 qf_X18_rule_J44 qf_X15_told
    repeat' first
      | with_reducible refine qW_within (fun _ => ?_) (fun _ _ => ?_)
      | with_reducible refine qW_isIn (fun _ => ?_) (fun _ _ => ?_)
      | with_reducible refine qW_na (fun _ => ?_) (fun _ => ?_)
      | with_reducible refine qW_ns (fun _ => ?_) (fun _ => ?_)
      | (with_reducible refine qW_goes (fun _ => ?_) (fun _ _ => ?_) (fun _ _ => ?_) <;> (try dsimp only) <;> (try simp only [qw_ap, qfl1_ap, qfl2_ap, qcp1_ap, qcp2_ap, false_and, true_and, and_true, and_false, and_self, if_false, if_true, reduceIte, Nat.reduceEqDiff, Int.reduceEq, Int.reduceNeg]))
      | (with_reducible refine qW_stays (by omega) (fun _ => ?_) (fun _ => ?_) <;> (try dsimp only) <;> (try simp only [qw_ap, qfl1_ap, qfl2_ap, qcp1_ap, qcp2_ap, false_and, true_and, and_true, and_false, and_self, if_false, if_true, reduceIte, Nat.reduceEqDiff, Int.reduceEq, Int.reduceNeg]))
      | (exfalso; omega)
      | with_reducible refine qW_bind ?_
      | (with_reducible refine qW_bnd ?_; try simp only [qw_ap, qfl1_ap, qfl2_ap, qcp1_ap, qcp2_ap, false_and, true_and, and_true, and_false, and_self, if_false, if_true, reduceIte, Nat.reduceEqDiff, Int.reduceEq, Int.reduceNeg])
      | (with_reducible refine qW_some ?_; (try dsimp only); try simp only [qw_ap, qfl1_ap, qfl2_ap, qcp1_ap, qcp2_ap, false_and, true_and, and_true, and_false, and_self, if_false, if_true, reduceIte, Nat.reduceEqDiff, Int.reduceEq, Int.reduceNeg])
      | ((with_reducible refine qW_no ?_); omega)
      | with_reducible refine qW_pos rfl ?_
      | ((with_reducible refine qW_pos ?_ ?_); omega)
      | ((with_reducible refine qW_neg ?_ ?_); (first | omega | decide))
      | with_reducible refine qW_ite (fun _ => ?_) (fun _ => ?_)
      | dsimp only
    all_goals first
      | exact fun x => absurd x (by decide)
      | exact ⟨rfl, fun x => absurd x (by decide)⟩
      | (intro _)
      | (refine ⟨rfl, fun _ => ?_⟩)
    all_goals first
      | (have ql0 := h_answers hx.2.2 x1 hx.1 hx.2.1; (unfold cI; first | omega | (rw [show x2 = 0 by omega]; omega) | (rw [show x2 = 1 by omega]; omega) | (rw [show x2 = 2 by omega]; omega) | (rw [show x2 = 3 by omega]; omega) | (rw [show x2 = 4 by omega]; omega) | (rw [show x2 = 5 by omega]; omega) | (rw [show x2 = 6 by omega]; omega)))
      | (simp only [cI, cB, cU]; done)
      | (simp only [cI]; omega)
      | (unfold cI; grind)

  · unfold oK2
    unfold qf_L_rule qf_X11_rule qf_X11_rule_J31 qf_X11_rule_J32 qf_X7_answerOf qf_X18_rule qf_X18_rule_J28 qf_X18_rule_J29 qf_X18_rule_J44 qf_X15_told
    repeat' first
      | with_reducible refine qW_within (fun _ => ?_) (fun _ _ => ?_)
      | with_reducible refine qW_isIn (fun _ => ?_) (fun _ _ => ?_)
      | with_reducible refine qW_na (fun _ => ?_) (fun _ => ?_)
      | with_reducible refine qW_ns (fun _ => ?_) (fun _ => ?_)
      | (with_reducible refine qW_goes (fun _ => ?_) (fun _ _ => ?_) (fun _ _ => ?_) <;> (try dsimp only) <;> (try simp only [qw_ap, qfl1_ap, qfl2_ap, qcp1_ap, qcp2_ap, false_and, true_and, and_true, and_false, and_self, if_false, if_true, reduceIte, Nat.reduceEqDiff, Int.reduceEq, Int.reduceNeg]))
      | (with_reducible refine qW_stays (by omega) (fun _ => ?_) (fun _ => ?_) <;> (try dsimp only) <;> (try simp only [qw_ap, qfl1_ap, qfl2_ap, qcp1_ap, qcp2_ap, false_and, true_and, and_true, and_false, and_self, if_false, if_true, reduceIte, Nat.reduceEqDiff, Int.reduceEq, Int.reduceNeg]))
      | (exfalso; omega)
      | with_reducible refine qW_bind ?_
      | (with_reducible refine qW_bnd ?_; try simp only [qw_ap, qfl1_ap, qfl2_ap, qcp1_ap, qcp2_ap, false_and, true_and, and_true, and_false, and_self, if_false, if_true, reduceIte, Nat.reduceEqDiff, Int.reduceEq, Int.reduceNeg])
      | (with_reducible refine qW_some ?_; (try dsimp only); try simp only [qw_ap, qfl1_ap, qfl2_ap, qcp1_ap, qcp2_ap, false_and, true_and, and_true, and_false, and_self, if_false, if_true, reduceIte, Nat.reduceEqDiff, Int.reduceEq, Int.reduceNeg])
      | ((with_reducible refine qW_no ?_); omega)
      | with_reducible refine qW_pos rfl ?_
      | ((with_reducible refine qW_pos ?_ ?_); omega)
      | ((with_reducible refine qW_neg ?_ ?_); (first | omega | decide))
      | with_reducible refine qW_ite (fun _ => ?_) (fun _ => ?_)
      | dsimp only
    all_goals first
      | exact fun x => absurd x (by decide)
      | exact ⟨rfl, fun x => absurd x (by decide)⟩
      | (intro _)
      | (refine ⟨rfl, fun _ => ?_⟩)
    all_goals first
      | (have ql0 := h_answers hx.2.2 x1 hx.1 hx.2.1; (unfold cI; first | omega | (rw [show x2 = 0 by omega]; omega) | (rw [show x2 = 1 by omega]; omega) | (rw [show x2 = 2 by omega]; omega) | (rw [show x2 = 3 by omega]; omega) | (rw [show x2 = 4 by omega]; omega) | (rw [show x2 = 5 by omega]; omega) | (rw [show x2 = 6 by omega]; omega)))
      | (simp only [cI, cB, cU]; done)
      | (simp only [cI]; omega)
      | (unfold cI; grind)


