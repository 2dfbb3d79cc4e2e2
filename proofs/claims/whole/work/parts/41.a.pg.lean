set_option maxHeartbeats 400000 in
set_option maxRecDepth 20000 in
theorem op_safe {M : qm} {x1 x2 : Int} (c1 : -2147483648 ≤ x1 ∧ x1 ≤ 2147483647) (c2 : -2147483648 ≤ x2 ∧ x2 ≤ 2147483647) (h_built : R_built M M) (h_blocks : R_blocks M M) (h_safe : R_safe M M) : oK cI (qf_L_safe 20000 x1 x2 M) (qf_X18_safe 20000 x1 x2) (fun M' => R_safe M' M') := by
  have s_built := h_built
  unfold R_built at s_built
  have s_blocks := h_blocks
  unfold R_blocks at s_blocks
  have w1 : w32 (M 1003 0 0 - 1) = M 1003 0 0 - 1 := w32_id (by omega) (by omega)
  by_cases hx : 0 ≤ x1 ∧ x1 < 40
  · have q0 := h_safe x1 hx.1 hx.2
    unfold oK
    unfold qf_L_safe qf_X11_safe qf_X11_isBlock qf_X18_safe
    repeat' first
      | (refine qW_no ?_; omega)
      | (with_reducible refine qW_bnd ?_; try simp only [qw_ap, qfl1_ap, qfl2_ap, qcp1_ap, qcp2_ap, false_and, true_and, and_true, and_false, and_self, if_false, if_true, reduceIte, Nat.reduceEqDiff])
      | with_reducible refine qW_within (fun _ => ?_) (fun _ _ => ?_)
      | with_reducible refine qW_isIn (fun _ => ?_) (fun _ _ => ?_)
      | with_reducible refine qW_na (fun _ => ?_) (fun _ => ?_)
      | with_reducible refine qW_ns (fun _ => ?_) (fun _ => ?_)
      | (with_reducible refine qW_goes (fun _ => ?_) (fun _ _ => ?_) (fun _ _ => ?_) <;> (try dsimp only) <;> (try simp only [qw_ap, qfl1_ap, qfl2_ap, qcp1_ap, qcp2_ap, false_and, true_and, and_true, and_false, and_self, if_false, if_true, reduceIte, Nat.reduceEqDiff]))
      | (with_reducible refine qW_stays (by omega) (fun _ => ?_) (fun _ => ?_) <;> (try dsimp only) <;> (try simp only [qw_ap, qfl1_ap, qfl2_ap, qcp1_ap, qcp2_ap, false_and, true_and, and_true, and_false, and_self, if_false, if_true, reduceIte, Nat.reduceEqDiff]))
      | (exfalso; omega)
      | with_reducible refine qW_bind ?_
      | (with_reducible refine qW_some ?_; (try dsimp only); try simp only [qw_ap, qfl1_ap, qfl2_ap, qcp1_ap, qcp2_ap, false_and, true_and, and_true, and_false, and_self, if_false, if_true, reduceIte, Nat.reduceEqDiff])
      | with_reducible refine qW_pos rfl ?_
      | (refine qW_pos (by omega) ?_)
      | (refine qW_neg (by first | omega | decide) ?_)
      | with_reducible refine qW_ite (fun _ => ?_) (fun _ => ?_)
      | dsimp only
    all_goals (repeat' with_reducible refine And.intro ?_ ?_)
    all_goals first
      | rfl
      | exact R_safe_x (fun _ _ => rfl) (fun _ _ => rfl) h_safe
      | (unfold R_safe; unfold R_safe at h_safe; grind [qw_ap])
      | (simp [qw_ap, cI, cB, cU]; done)
      | (intro _; simp (disch := omega) [qw_ap, cI, cB, cU, w32_id]; omega)
      | (intro _; simp only [cI, cB, cU]; grind [qw_ap, w32])

  · unfold oK
    unfold qf_L_safe qf_X11_safe qf_X11_isBlock qf_X18_safe
    repeat' first
      | (refine qW_no ?_; omega)
      | (with_reducible refine qW_bnd ?_; try simp only [qw_ap, qfl1_ap, qfl2_ap, qcp1_ap, qcp2_ap, false_and, true_and, and_true, and_false, and_self, if_false, if_true, reduceIte, Nat.reduceEqDiff])
      | with_reducible refine qW_within (fun _ => ?_) (fun _ _ => ?_)
      | with_reducible refine qW_isIn (fun _ => ?_) (fun _ _ => ?_)
      | with_reducible refine qW_na (fun _ => ?_) (fun _ => ?_)
      | with_reducible refine qW_ns (fun _ => ?_) (fun _ => ?_)
      | (with_reducible refine qW_goes (fun _ => ?_) (fun _ _ => ?_) (fun _ _ => ?_) <;> (try dsimp only) <;> (try simp only [qw_ap, qfl1_ap, qfl2_ap, qcp1_ap, qcp2_ap, false_and, true_and, and_true, and_false, and_self, if_false, if_true, reduceIte, Nat.reduceEqDiff]))
      | (with_reducible refine qW_stays (by omega) (fun _ => ?_) (fun _ => ?_) <;> (try dsimp only) <;> (try simp only [qw_ap, qfl1_ap, qfl2_ap, qcp1_ap, qcp2_ap, false_and, true_and, and_true, and_false, and_self, if_false, if_true, reduceIte, Nat.reduceEqDiff]))
      | (exfalso; omega)
      | with_reducible refine qW_bind ?_
      | (with_reducible refine qW_some ?_; (try dsimp only); try simp only [qw_ap, qfl1_ap, qfl2_ap, qcp1_ap, qcp2_ap, false_and, true_and, and_true, and_false, and_self, if_false, if_true, reduceIte, Nat.reduceEqDiff])
      | with_reducible refine qW_pos rfl ?_
      | (refine qW_pos (by omega) ?_)
      | (refine qW_neg (by first | omega | decide) ?_)
      | with_reducible refine qW_ite (fun _ => ?_) (fun _ => ?_)
      | dsimp only
    all_goals (repeat' with_reducible refine And.intro ?_ ?_)
    all_goals first
      | rfl
      | exact R_safe_x (fun _ _ => rfl) (fun _ _ => rfl) h_safe
      | (unfold R_safe; unfold R_safe at h_safe; grind [qw_ap])
      | (simp [qw_ap, cI, cB, cU]; done)
      | (intro _; simp (disch := omega) [qw_ap, cI, cB, cU, w32_id]; omega)
      | (intro _; simp only [cI, cB, cU]; grind [qw_ap, w32])


set_option maxHeartbeats 400000 in
set_option maxRecDepth 20000 in
theorem op_pointAt {M : qm} {x1 : Int} (c1 : -2147483648 ≤ x1 ∧ x1 ≤ 2147483647) (h_built : R_built M M) (h_points : R_points M M) : oK cI (qf_L_pointAt 20000 x1 M) (qf_X18_pointAt 20000 x1) (fun M' => True) := by
  have s_built := h_built
  unfold R_built at s_built
  by_cases hx : 0 ≤ x1 ∧ x1 < 10
  · have q0 := h_points x1 hx.1 hx.2
    unfold oK
    unfold qf_L_pointAt qf_X11_pointAt qf_X18_pointAt
    repeat' first
      | (refine qW_no ?_; omega)
      | (with_reducible refine qW_bnd ?_; try simp only [qw_ap, qfl1_ap, qfl2_ap, qcp1_ap, qcp2_ap, false_and, true_and, and_true, and_false, and_self, if_false, if_true, reduceIte, Nat.reduceEqDiff])
      | with_reducible refine qW_within (fun _ => ?_) (fun _ _ => ?_)
      | with_reducible refine qW_isIn (fun _ => ?_) (fun _ _ => ?_)
      | with_reducible refine qW_na (fun _ => ?_) (fun _ => ?_)
      | with_reducible refine qW_ns (fun _ => ?_) (fun _ => ?_)
      | (with_reducible refine qW_goes (fun _ => ?_) (fun _ _ => ?_) (fun _ _ => ?_) <;> (try dsimp only) <;> (try simp only [qw_ap, qfl1_ap, qfl2_ap, qcp1_ap, qcp2_ap, false_and, true_and, and_true, and_false, and_self, if_false, if_true, reduceIte, Nat.reduceEqDiff]))
      | (with_reducible refine qW_stays (by omega) (fun _ => ?_) (fun _ => ?_) <;> (try dsimp only) <;> (try simp only [qw_ap, qfl1_ap, qfl2_ap, qcp1_ap, qcp2_ap, false_and, true_and, and_true, and_false, and_self, if_false, if_true, reduceIte, Nat.reduceEqDiff]))
      | (exfalso; omega)
      | with_reducible refine qW_bind ?_
      | (with_reducible refine qW_some ?_; (try dsimp only); try simp only [qw_ap, qfl1_ap, qfl2_ap, qcp1_ap, qcp2_ap, false_and, true_and, and_true, and_false, and_self, if_false, if_true, reduceIte, Nat.reduceEqDiff])
      | with_reducible refine qW_pos rfl ?_
      | (refine qW_pos (by omega) ?_)
      | (refine qW_neg (by first | omega | decide) ?_)
      | with_reducible refine qW_ite (fun _ => ?_) (fun _ => ?_)
      | dsimp only
    all_goals (repeat' with_reducible refine And.intro ?_ ?_)
    all_goals first
      | rfl
      | (simp [qw_ap, cI, cB, cU]; done)
      | (intro _; simp (disch := omega) [qw_ap, cI, cB, cU, w32_id]; omega)
      | (intro _; simp only [cI, cB, cU]; grind [qw_ap, w32])

  · unfold oK
    unfold qf_L_pointAt qf_X11_pointAt qf_X18_pointAt
    repeat' first
      | (refine qW_no ?_; omega)
      | (with_reducible refine qW_bnd ?_; try simp only [qw_ap, qfl1_ap, qfl2_ap, qcp1_ap, qcp2_ap, false_and, true_and, and_true, and_false, and_self, if_false, if_true, reduceIte, Nat.reduceEqDiff])
      | with_reducible refine qW_within (fun _ => ?_) (fun _ _ => ?_)
      | with_reducible refine qW_isIn (fun _ => ?_) (fun _ _ => ?_)
      | with_reducible refine qW_na (fun _ => ?_) (fun _ => ?_)
      | with_reducible refine qW_ns (fun _ => ?_) (fun _ => ?_)
      | (with_reducible refine qW_goes (fun _ => ?_) (fun _ _ => ?_) (fun _ _ => ?_) <;> (try dsimp only) <;> (try simp only [qw_ap, qfl1_ap, qfl2_ap, qcp1_ap, qcp2_ap, false_and, true_and, and_true, and_false, and_self, if_false, if_true, reduceIte, Nat.reduceEqDiff]))
      | (with_reducible refine qW_stays (by omega) (fun _ => ?_) (fun _ => ?_) <;> (try dsimp only) <;> (try simp only [qw_ap, qfl1_ap, qfl2_ap, qcp1_ap, qcp2_ap, false_and, true_and, and_true, and_false, and_self, if_false, if_true, reduceIte, Nat.reduceEqDiff]))
      | (exfalso; omega)
      | with_reducible refine qW_bind ?_
      | (with_reducible refine qW_some ?_; (try dsimp only); try simp only [qw_ap, qfl1_ap, qfl2_ap, qcp1_ap, qcp2_ap, false_and, true_and, and_true, and_false, and_self, if_false, if_true, reduceIte, Nat.reduceEqDiff])
      | with_reducible refine qW_pos rfl ?_
      | (refine qW_pos (by omega) ?_)
      | (refine qW_neg (by first | omega | decide) ?_)
      | with_reducible refine qW_ite (fun _ => ?_) (fun _ => ?_)
      | dsimp only
    all_goals (repeat' with_reducible refine And.intro ?_ ?_)
    all_goals first
      | rfl
      | (simp [qw_ap, cI, cB, cU]; done)
      | (intro _; simp (disch := omega) [qw_ap, cI, cB, cU, w32_id]; omega)
      | (intro _; simp only [cI, cB, cU]; grind [qw_ap, w32])


set_option maxHeartbeats 400000 in
set_option maxRecDepth 20000 in
theorem op_failed {M : qm} {x1 : Int} (c1 : -2147483648 ≤ x1 ∧ x1 ≤ 2147483647) (h_built : R_built M M) (h_failed : R_failed M M) : oK cI (qf_L_failed 20000 x1 M) (qf_X18_failed 20000 x1) (fun M' => True) := by
  have s_built := h_built
  unfold R_built at s_built
  by_cases hx : 0 ≤ x1 ∧ x1 < 4
  · have q0 := h_failed x1 hx.1 hx.2
    unfold oK
    unfold qf_L_failed qf_X11_failed qf_X18_failed
    repeat' first
      | (refine qW_no ?_; omega)
      | (with_reducible refine qW_bnd ?_; try simp only [qw_ap, qfl1_ap, qfl2_ap, qcp1_ap, qcp2_ap, false_and, true_and, and_true, and_false, and_self, if_false, if_true, reduceIte, Nat.reduceEqDiff])
      | with_reducible refine qW_within (fun _ => ?_) (fun _ _ => ?_)
      | with_reducible refine qW_isIn (fun _ => ?_) (fun _ _ => ?_)
      | with_reducible refine qW_na (fun _ => ?_) (fun _ => ?_)
      | with_reducible refine qW_ns (fun _ => ?_) (fun _ => ?_)
      | (with_reducible refine qW_goes (fun _ => ?_) (fun _ _ => ?_) (fun _ _ => ?_) <;> (try dsimp only) <;> (try simp only [qw_ap, qfl1_ap, qfl2_ap, qcp1_ap, qcp2_ap, false_and, true_and, and_true, and_false, and_self, if_false, if_true, reduceIte, Nat.reduceEqDiff]))
      | (with_reducible refine qW_stays (by omega) (fun _ => ?_) (fun _ => ?_) <;> (try dsimp only) <;> (try simp only [qw_ap, qfl1_ap, qfl2_ap, qcp1_ap, qcp2_ap, false_and, true_and, and_true, and_false, and_self, if_false, if_true, reduceIte, Nat.reduceEqDiff]))
      | (exfalso; omega)
      | with_reducible refine qW_bind ?_
      | (with_reducible refine qW_some ?_; (try dsimp only); try simp only [qw_ap, qfl1_ap, qfl2_ap, qcp1_ap, qcp2_ap, false_and, true_and, and_true, and_false, and_self, if_false, if_true, reduceIte, Nat.reduceEqDiff])
      | with_reducible refine qW_pos rfl ?_
      | (refine qW_pos (by omega) ?_)
      | (refine qW_neg (by first | omega | decide) ?_)
      | with_reducible refine qW_ite (fun _ => ?_) (fun _ => ?_)
      | dsimp only
    all_goals (repeat' with_reducible refine And.intro ?_ ?_)
    all_goals first
      | rfl
      | (simp [qw_ap, cI, cB, cU]; done)
      | (intro _; simp (disch := omega) [qw_ap, cI, cB, cU, w32_id]; omega)
      | (intro _; simp only [cI, cB, cU]; grind [qw_ap, w32])

  · unfold oK
    unfold qf_L_failed qf_X11_failed qf_X18_failed
    repeat' first
      | (refine qW_no ?_; omega)
      | (with_reducible refine qW_bnd ?_; try simp only [qw_ap, qfl1_ap, qfl2_ap, qcp1_ap, qcp2_ap, false_and, true_and, and_true, and_false, and_self, if_false, if_true, reduceIte, Nat.reduceEqDiff])
      | with_reducible refine qW_within (fun _ => ?_) (fun _ _ => ?_)
      | with_reducible refine qW_isIn (fun _ => ?_) (fun _ _ => ?_)
      | with_reducible refine qW_na (fun _ => ?_) (fun _ => ?_)
      | with_reducible refine qW_ns (fun _ => ?_) (fun _ => ?_)
      | (with_reducible refine qW_goes (fun _ => ?_) (fun _ _ => ?_) (fun _ _ => ?_) <;> (try dsimp only) <;> (try simp only [qw_ap, qfl1_ap, qfl2_ap, qcp1_ap, qcp2_ap, false_and, true_and, and_true, and_false, and_self, if_false, if_true, reduceIte, Nat.reduceEqDiff]))
      | (with_reducible refine qW_stays (by omega) (fun _ => ?_) (fun _ => ?_) <;> (try dsimp only) <;> (try simp only [qw_ap, qfl1_ap, qfl2_ap, qcp1_ap, qcp2_ap, false_and, true_and, and_true, and_false, and_self, if_false, if_true, reduceIte, Nat.reduceEqDiff]))
      | (exfalso; omega)
      | with_reducible refine qW_bind ?_
      | (with_reducible refine qW_some ?_; (try dsimp only); try simp only [qw_ap, qfl1_ap, qfl2_ap, qcp1_ap, qcp2_ap, false_and, true_and, and_true, and_false, and_self, if_false, if_true, reduceIte, Nat.reduceEqDiff])
      | with_reducible refine qW_pos rfl ?_
      | (refine qW_pos (by omega) ?_)
      | (refine qW_neg (by first | omega | decide) ?_)
      | with_reducible refine qW_ite (fun _ => ?_) (fun _ => ?_)
      | dsimp only
    all_goals (repeat' with_reducible refine And.intro ?_ ?_)
    all_goals first
      | rfl
      | (simp [qw_ap, cI, cB, cU]; done)
      | (intro _; simp (disch := omega) [qw_ap, cI, cB, cU, w32_id]; omega)
      | (intro _; simp only [cI, cB, cU]; grind [qw_ap, w32])


set_option maxHeartbeats 400000 in
set_option maxRecDepth 20000 in
theorem op_point {M : qm} {x1 x2 : Int} (c1 : -2147483648 ≤ x1 ∧ x1 ≤ 2147483647) (c2 : -2147483648 ≤ x2 ∧ x2 ≤ 2147483647) (h_built : R_built M M) (h_points : R_points M M) : oK cI (qf_L_point 20000 x1 x2 M) (qf_X18_point 20000 x1 x2) (fun M' => R_points M' M') := by
  have s_built := h_built
  unfold R_built at s_built
  by_cases hx : 0 ≤ x1 ∧ x1 < 10
  · have q0 := h_points x1 hx.1 hx.2
    unfold oK
    unfold qf_L_point qf_X11_point qf_X18_point qf_X18_point_J16 qf_X18_point_J17
    repeat' first
      | (refine qW_no ?_; omega)
      | (with_reducible refine qW_bnd ?_; try simp only [qw_ap, qfl1_ap, qfl2_ap, qcp1_ap, qcp2_ap, false_and, true_and, and_true, and_false, and_self, if_false, if_true, reduceIte, Nat.reduceEqDiff])
      | with_reducible refine qW_within (fun _ => ?_) (fun _ _ => ?_)
      | with_reducible refine qW_isIn (fun _ => ?_) (fun _ _ => ?_)
      | with_reducible refine qW_na (fun _ => ?_) (fun _ => ?_)
      | with_reducible refine qW_ns (fun _ => ?_) (fun _ => ?_)
      | (with_reducible refine qW_goes (fun _ => ?_) (fun _ _ => ?_) (fun _ _ => ?_) <;> (try dsimp only) <;> (try simp only [qw_ap, qfl1_ap, qfl2_ap, qcp1_ap, qcp2_ap, false_and, true_and, and_true, and_false, and_self, if_false, if_true, reduceIte, Nat.reduceEqDiff]))
      | (with_reducible refine qW_stays (by omega) (fun _ => ?_) (fun _ => ?_) <;> (try dsimp only) <;> (try simp only [qw_ap, qfl1_ap, qfl2_ap, qcp1_ap, qcp2_ap, false_and, true_and, and_true, and_false, and_self, if_false, if_true, reduceIte, Nat.reduceEqDiff]))
      | (exfalso; omega)
      | with_reducible refine qW_bind ?_
      | (with_reducible refine qW_some ?_; (try dsimp only); try simp only [qw_ap, qfl1_ap, qfl2_ap, qcp1_ap, qcp2_ap, false_and, true_and, and_true, and_false, and_self, if_false, if_true, reduceIte, Nat.reduceEqDiff])
      | with_reducible refine qW_pos rfl ?_
      | (refine qW_pos (by omega) ?_)
      | (refine qW_neg (by first | omega | decide) ?_)
      | with_reducible refine qW_ite (fun _ => ?_) (fun _ => ?_)
      | dsimp only
    all_goals (repeat' with_reducible refine And.intro ?_ ?_)
    all_goals first
      | rfl
      | exact R_points_x (fun _ _ => rfl) (fun _ _ => rfl) h_points
      | (unfold R_points; unfold R_points at h_points; grind [qw_ap])
      | (simp [qw_ap, cI, cB, cU]; done)
      | (intro _; simp (disch := omega) [qw_ap, cI, cB, cU, w32_id]; omega)
      | (intro _; simp only [cI, cB, cU]; grind [qw_ap, w32])

  · unfold oK
    unfold qf_L_point qf_X11_point qf_X18_point qf_X18_point_J16 qf_X18_point_J17
    repeat' first
      | (refine qW_no ?_; omega)
      | (with_reducible refine qW_bnd ?_; try simp only [qw_ap, qfl1_ap, qfl2_ap, qcp1_ap, qcp2_ap, false_and, true_and, and_true, and_false, and_self, if_false, if_true, reduceIte, Nat.reduceEqDiff])
      | with_reducible refine qW_within (fun _ => ?_) (fun _ _ => ?_)
      | with_reducible refine qW_isIn (fun _ => ?_) (fun _ _ => ?_)
      | with_reducible refine qW_na (fun _ => ?_) (fun _ => ?_)
      | with_reducible refine qW_ns (fun _ => ?_) (fun _ => ?_)
      | (with_reducible refine qW_goes (fun _ => ?_) (fun _ _ => ?_) (fun _ _ => ?_) <;> (try dsimp only) <;> (try simp only [qw_ap, qfl1_ap, qfl2_ap, qcp1_ap, qcp2_ap, false_and, true_and, and_true, and_false, and_self, if_false, if_true, reduceIte, Nat.reduceEqDiff]))
      | (with_reducible refine qW_stays (by omega) (fun _ => ?_) (fun _ => ?_) <;> (try dsimp only) <;> (try simp only [qw_ap, qfl1_ap, qfl2_ap, qcp1_ap, qcp2_ap, false_and, true_and, and_true, and_false, and_self, if_false, if_true, reduceIte, Nat.reduceEqDiff]))
      | (exfalso; omega)
      | with_reducible refine qW_bind ?_
      | (with_reducible refine qW_some ?_; (try dsimp only); try simp only [qw_ap, qfl1_ap, qfl2_ap, qcp1_ap, qcp2_ap, false_and, true_and, and_true, and_false, and_self, if_false, if_true, reduceIte, Nat.reduceEqDiff])
      | with_reducible refine qW_pos rfl ?_
      | (refine qW_pos (by omega) ?_)
      | (refine qW_neg (by first | omega | decide) ?_)
      | with_reducible refine qW_ite (fun _ => ?_) (fun _ => ?_)
      | dsimp only
    all_goals (repeat' with_reducible refine And.intro ?_ ?_)
    all_goals first
      | rfl
      | exact R_points_x (fun _ _ => rfl) (fun _ _ => rfl) h_points
      | (unfold R_points; unfold R_points at h_points; grind [qw_ap])
      | (simp [qw_ap, cI, cB, cU]; done)
      | (intro _; simp (disch := omega) [qw_ap, cI, cB, cU, w32_id]; omega)
      | (intro _; simp only [cI, cB, cU]; grind [qw_ap, w32])


set_option maxHeartbeats 400000 in
set_option maxRecDepth 20000 in
theorem op_numbers {M : qm} {x1 x2 x3 : Int} (c1 : -2147483648 ≤ x1 ∧ x1 ≤ 2147483647) (c2 : -2147483648 ≤ x2 ∧ x2 ≤ 2147483647) (c3 : -2147483648 ≤ x3 ∧ x3 ≤ 2147483647) (h_built : R_built M M) (h_blocks : R_blocks M M) (h_pq : R_pq M M) : oK cU (qf_L_numbers 20000 x1 x2 x3 M) (qf_X18_numbers 20000 x1 x2 x3) (fun M' => R_pq M' M') := by
  have s_built := h_built
  unfold R_built at s_built
  have s_blocks := h_blocks
  unfold R_blocks at s_blocks
  have w1 : w32 (M 1003 0 0 - 1) = M 1003 0 0 - 1 := w32_id (by omega) (by omega)
  unfold oK
  unfold qf_L_numbers qf_X11_numbers qf_X11_isBlock qf_X18_numbers
  repeat' first
    | (refine qW_no ?_; omega)
    | (with_reducible refine qW_bnd ?_; try simp only [qw_ap, qfl1_ap, qfl2_ap, qcp1_ap, qcp2_ap, false_and, true_and, and_true, and_false, and_self, if_false, if_true, reduceIte, Nat.reduceEqDiff])
    | with_reducible refine qW_within (fun _ => ?_) (fun _ _ => ?_)
    | with_reducible refine qW_isIn (fun _ => ?_) (fun _ _ => ?_)
    | with_reducible refine qW_na (fun _ => ?_) (fun _ => ?_)
    | with_reducible refine qW_ns (fun _ => ?_) (fun _ => ?_)
    | (with_reducible refine qW_goes (fun _ => ?_) (fun _ _ => ?_) (fun _ _ => ?_) <;> (try dsimp only) <;> (try simp only [qw_ap, qfl1_ap, qfl2_ap, qcp1_ap, qcp2_ap, false_and, true_and, and_true, and_false, and_self, if_false, if_true, reduceIte, Nat.reduceEqDiff]))
    | (with_reducible refine qW_stays (by omega) (fun _ => ?_) (fun _ => ?_) <;> (try dsimp only) <;> (try simp only [qw_ap, qfl1_ap, qfl2_ap, qcp1_ap, qcp2_ap, false_and, true_and, and_true, and_false, and_self, if_false, if_true, reduceIte, Nat.reduceEqDiff]))
    | (exfalso; omega)
    | with_reducible refine qW_bind ?_
    | (with_reducible refine qW_some ?_; (try dsimp only); try simp only [qw_ap, qfl1_ap, qfl2_ap, qcp1_ap, qcp2_ap, false_and, true_and, and_true, and_false, and_self, if_false, if_true, reduceIte, Nat.reduceEqDiff])
    | with_reducible refine qW_pos rfl ?_
    | (refine qW_pos (by omega) ?_)
    | (refine qW_neg (by first | omega | decide) ?_)
    | with_reducible refine qW_ite (fun _ => ?_) (fun _ => ?_)
    | dsimp only
  all_goals (repeat' with_reducible refine And.intro ?_ ?_)
  all_goals first
    | rfl
    | exact R_pq_x (fun _ _ => rfl) (fun _ _ => rfl) (fun _ _ => rfl) (fun _ _ => rfl) h_pq
    | (unfold R_pq; unfold R_pq at h_pq; grind [qw_ap])
    | (simp [qw_ap, cI, cB, cU]; done)
    | (intro _; simp (disch := omega) [qw_ap, cI, cB, cU, w32_id]; omega)
    | (intro _; simp only [cI, cB, cU]; grind [qw_ap, w32])

set_option maxHeartbeats 400000 in
set_option maxRecDepth 20000 in
theorem op_hand {M : qm} {x1 x2 x3 : Int} (b2 : x2 = 0 ∨ x2 = 1) (c1 : -2147483648 ≤ x1 ∧ x1 ≤ 2147483647) (c2 : -2147483648 ≤ x2 ∧ x2 ≤ 2147483647) (c3 : -2147483648 ≤ x3 ∧ x3 ≤ 2147483647) (h_built : R_built M M) (h_blocks : R_blocks M M) (h_hand : R_hand M M) : oK cB (qf_L_hand 20000 x1 x2 x3 M) (qf_X18_hand 20000 x1 x2 x3) (fun M' => R_hand M' M') := by
  have s_built := h_built
  unfold R_built at s_built
  have s_blocks := h_blocks
  unfold R_blocks at s_blocks
  have w1 : w32 (M 1003 0 0 - 1) = M 1003 0 0 - 1 := w32_id (by omega) (by omega)
  by_cases hx : 0 ≤ x1 ∧ x1 < 40
  · have q0 := h_hand x1 hx.1 hx.2
    unfold oK
    unfold qf_L_hand qf_L_hand_J18 qf_X11_hand qf_X11_isBlock qf_X18_hand
    repeat' first
      | (refine qW_no ?_; omega)
      | (with_reducible refine qW_bnd ?_; try simp only [qw_ap, qfl1_ap, qfl2_ap, qcp1_ap, qcp2_ap, false_and, true_and, and_true, and_false, and_self, if_false, if_true, reduceIte, Nat.reduceEqDiff])
      | with_reducible refine qW_within (fun _ => ?_) (fun _ _ => ?_)
      | with_reducible refine qW_isIn (fun _ => ?_) (fun _ _ => ?_)
      | with_reducible refine qW_na (fun _ => ?_) (fun _ => ?_)
      | with_reducible refine qW_ns (fun _ => ?_) (fun _ => ?_)
      | (with_reducible refine qW_goes (fun _ => ?_) (fun _ _ => ?_) (fun _ _ => ?_) <;> (try dsimp only) <;> (try simp only [qw_ap, qfl1_ap, qfl2_ap, qcp1_ap, qcp2_ap, false_and, true_and, and_true, and_false, and_self, if_false, if_true, reduceIte, Nat.reduceEqDiff]))
      | (with_reducible refine qW_stays (by omega) (fun _ => ?_) (fun _ => ?_) <;> (try dsimp only) <;> (try simp only [qw_ap, qfl1_ap, qfl2_ap, qcp1_ap, qcp2_ap, false_and, true_and, and_true, and_false, and_self, if_false, if_true, reduceIte, Nat.reduceEqDiff]))
      | (exfalso; omega)
      | with_reducible refine qW_bind ?_
      | (with_reducible refine qW_some ?_; (try dsimp only); try simp only [qw_ap, qfl1_ap, qfl2_ap, qcp1_ap, qcp2_ap, false_and, true_and, and_true, and_false, and_self, if_false, if_true, reduceIte, Nat.reduceEqDiff])
      | with_reducible refine qW_pos rfl ?_
      | (refine qW_pos (by omega) ?_)
      | (refine qW_neg (by first | omega | decide) ?_)
      | with_reducible refine qW_ite (fun _ => ?_) (fun _ => ?_)
      | dsimp only
    all_goals (repeat' with_reducible refine And.intro ?_ ?_)
    all_goals first
      | rfl
      | exact R_hand_x (fun _ _ => rfl) (fun _ _ => rfl) (fun _ _ => rfl) (fun _ _ => rfl) h_hand
      | (unfold R_hand; unfold R_hand at h_hand; grind [qw_ap])
      | (simp [qw_ap, cI, cB, cU]; done)
      | (intro _; simp (disch := omega) [qw_ap, cI, cB, cU, w32_id]; omega)
      | (intro _; simp only [cI, cB, cU]; grind [qw_ap, w32])

  · unfold oK
    unfold qf_L_hand qf_L_hand_J18 qf_X11_hand qf_X11_isBlock qf_X18_hand
    repeat' first
      | (refine qW_no ?_; omega)
      | (with_reducible refine qW_bnd ?_; try simp only [qw_ap, qfl1_ap, qfl2_ap, qcp1_ap, qcp2_ap, false_and, true_and, and_true, and_false, and_self, if_false, if_true, reduceIte, Nat.reduceEqDiff])
      | with_reducible refine qW_within (fun _ => ?_) (fun _ _ => ?_)
      | with_reducible refine qW_isIn (fun _ => ?_) (fun _ _ => ?_)
      | with_reducible refine qW_na (fun _ => ?_) (fun _ => ?_)
      | with_reducible refine qW_ns (fun _ => ?_) (fun _ => ?_)
      | (with_reducible refine qW_goes (fun _ => ?_) (fun _ _ => ?_) (fun _ _ => ?_) <;> (try dsimp only) <;> (try simp only [qw_ap, qfl1_ap, qfl2_ap, qcp1_ap, qcp2_ap, false_and, true_and, and_true, and_false, and_self, if_false, if_true, reduceIte, Nat.reduceEqDiff]))
      | (with_reducible refine qW_stays (by omega) (fun _ => ?_) (fun _ => ?_) <;> (try dsimp only) <;> (try simp only [qw_ap, qfl1_ap, qfl2_ap, qcp1_ap, qcp2_ap, false_and, true_and, and_true, and_false, and_self, if_false, if_true, reduceIte, Nat.reduceEqDiff]))
      | (exfalso; omega)
      | with_reducible refine qW_bind ?_
      | (with_reducible refine qW_some ?_; (try dsimp only); try simp only [qw_ap, qfl1_ap, qfl2_ap, qcp1_ap, qcp2_ap, false_and, true_and, and_true, and_false, and_self, if_false, if_true, reduceIte, Nat.reduceEqDiff])
      | with_reducible refine qW_pos rfl ?_
      | (refine qW_pos (by omega) ?_)
      | (refine qW_neg (by first | omega | decide) ?_)
      | with_reducible refine qW_ite (fun _ => ?_) (fun _ => ?_)
      | dsimp only
    all_goals (repeat' with_reducible refine And.intro ?_ ?_)
    all_goals first
      | rfl
      | exact R_hand_x (fun _ _ => rfl) (fun _ _ => rfl) (fun _ _ => rfl) (fun _ _ => rfl) h_hand
      | (unfold R_hand; unfold R_hand at h_hand; grind [qw_ap])
      | (simp [qw_ap, cI, cB, cU]; done)
      | (intro _; simp (disch := omega) [qw_ap, cI, cB, cU, w32_id]; omega)
      | (intro _; simp only [cI, cB, cU]; grind [qw_ap, w32])


set_option maxHeartbeats 400000 in
set_option maxRecDepth 20000 in
theorem op_bind {M : qm} {x1 x2 : Int} (c1 : -2147483648 ≤ x1 ∧ x1 ≤ 2147483647) (c2 : -2147483648 ≤ x2 ∧ x2 ≤ 2147483647) (h_built : R_built M M) (h_blocks : R_blocks M M) (h_bound : R_bound M M) : oK cI (qf_L_bind 20000 x1 x2 M) (qf_X18_bind 20000 x1 x2) (fun M' => R_bound M' M') := by
  have s_built := h_built
  unfold R_built at s_built
  have s_blocks := h_blocks
  unfold R_blocks at s_blocks
  have w1 : w32 (M 1003 0 0 - 1) = M 1003 0 0 - 1 := w32_id (by omega) (by omega)
  by_cases hx : 0 ≤ x1 ∧ x1 < M 1003 0 0
  · have q0 := h_bound x1 hx.1 hx.2
    have q1 := (w32_id (x := x2 + 1))
    unfold oK
    unfold qf_L_bind qf_X11_bind qf_X11_bind_J22 qf_X11_bind_J23 qf_X11_isBlock qf_X18_bind qf_X18_bind_J30 qf_X18_bind_J31
    repeat' first
      | (refine qW_no ?_; omega)
      | (with_reducible refine qW_bnd ?_; try simp only [qw_ap, qfl1_ap, qfl2_ap, qcp1_ap, qcp2_ap, false_and, true_and, and_true, and_false, and_self, if_false, if_true, reduceIte, Nat.reduceEqDiff])
      | with_reducible refine qW_within (fun _ => ?_) (fun _ _ => ?_)
      | with_reducible refine qW_isIn (fun _ => ?_) (fun _ _ => ?_)
      | with_reducible refine qW_na (fun _ => ?_) (fun _ => ?_)
      | with_reducible refine qW_ns (fun _ => ?_) (fun _ => ?_)
      | (with_reducible refine qW_goes (fun _ => ?_) (fun _ _ => ?_) (fun _ _ => ?_) <;> (try dsimp only) <;> (try simp only [qw_ap, qfl1_ap, qfl2_ap, qcp1_ap, qcp2_ap, false_and, true_and, and_true, and_false, and_self, if_false, if_true, reduceIte, Nat.reduceEqDiff]))
      | (with_reducible refine qW_stays (by omega) (fun _ => ?_) (fun _ => ?_) <;> (try dsimp only) <;> (try simp only [qw_ap, qfl1_ap, qfl2_ap, qcp1_ap, qcp2_ap, false_and, true_and, and_true, and_false, and_self, if_false, if_true, reduceIte, Nat.reduceEqDiff]))
      | (exfalso; omega)
      | with_reducible refine qW_bind ?_
      | (with_reducible refine qW_some ?_; (try dsimp only); try simp only [qw_ap, qfl1_ap, qfl2_ap, qcp1_ap, qcp2_ap, false_and, true_and, and_true, and_false, and_self, if_false, if_true, reduceIte, Nat.reduceEqDiff])
      | with_reducible refine qW_pos rfl ?_
      | (refine qW_pos (by omega) ?_)
      | (refine qW_neg (by first | omega | decide) ?_)
      | with_reducible refine qW_ite (fun _ => ?_) (fun _ => ?_)
      | dsimp only
    all_goals (repeat' with_reducible refine And.intro ?_ ?_)
    all_goals first
      | rfl
      | exact R_bound_x rfl (fun _ _ => rfl) (fun _ _ => rfl) h_bound
      | (unfold R_bound; unfold R_bound at h_bound; grind [qw_ap])
      | (simp [qw_ap, cI, cB, cU]; done)
      | (intro _; simp (disch := omega) [qw_ap, cI, cB, cU, w32_id]; omega)
      | (intro _; simp only [cI, cB, cU]; grind [qw_ap, w32])

  · unfold oK
    unfold qf_L_bind qf_X11_bind qf_X11_bind_J22 qf_X11_bind_J23 qf_X11_isBlock qf_X18_bind qf_X18_bind_J30 qf_X18_bind_J31
    repeat' first
      | (refine qW_no ?_; omega)
      | (with_reducible refine qW_bnd ?_; try simp only [qw_ap, qfl1_ap, qfl2_ap, qcp1_ap, qcp2_ap, false_and, true_and, and_true, and_false, and_self, if_false, if_true, reduceIte, Nat.reduceEqDiff])
      | with_reducible refine qW_within (fun _ => ?_) (fun _ _ => ?_)
      | with_reducible refine qW_isIn (fun _ => ?_) (fun _ _ => ?_)
      | with_reducible refine qW_na (fun _ => ?_) (fun _ => ?_)
      | with_reducible refine qW_ns (fun _ => ?_) (fun _ => ?_)
      | (with_reducible refine qW_goes (fun _ => ?_) (fun _ _ => ?_) (fun _ _ => ?_) <;> (try dsimp only) <;> (try simp only [qw_ap, qfl1_ap, qfl2_ap, qcp1_ap, qcp2_ap, false_and, true_and, and_true, and_false, and_self, if_false, if_true, reduceIte, Nat.reduceEqDiff]))
      | (with_reducible refine qW_stays (by omega) (fun _ => ?_) (fun _ => ?_) <;> (try dsimp only) <;> (try simp only [qw_ap, qfl1_ap, qfl2_ap, qcp1_ap, qcp2_ap, false_and, true_and, and_true, and_false, and_self, if_false, if_true, reduceIte, Nat.reduceEqDiff]))
      | (exfalso; omega)
      | with_reducible refine qW_bind ?_
      | (with_reducible refine qW_some ?_; (try dsimp only); try simp only [qw_ap, qfl1_ap, qfl2_ap, qcp1_ap, qcp2_ap, false_and, true_and, and_true, and_false, and_self, if_false, if_true, reduceIte, Nat.reduceEqDiff])
      | with_reducible refine qW_pos rfl ?_
      | (refine qW_pos (by omega) ?_)
      | (refine qW_neg (by first | omega | decide) ?_)
      | with_reducible refine qW_ite (fun _ => ?_) (fun _ => ?_)
      | dsimp only
    all_goals (repeat' with_reducible refine And.intro ?_ ?_)
    all_goals first
      | rfl
      | exact R_bound_x rfl (fun _ _ => rfl) (fun _ _ => rfl) h_bound
      | (unfold R_bound; unfold R_bound at h_bound; grind [qw_ap])
      | (simp [qw_ap, cI, cB, cU]; done)
      | (intro _; simp (disch := omega) [qw_ap, cI, cB, cU, w32_id]; omega)
      | (intro _; simp only [cI, cB, cU]; grind [qw_ap, w32])


set_option maxHeartbeats 400000 in
set_option maxRecDepth 20000 in
theorem op_wire {M : qm} {x1 x2 x3 : Int} (c1 : -2147483648 ≤ x1 ∧ x1 ≤ 2147483647) (c2 : -2147483648 ≤ x2 ∧ x2 ≤ 2147483647) (c3 : -2147483648 ≤ x3 ∧ x3 ≤ 2147483647) (h_built : R_built M M) (h_blocks : R_blocks M M) (h_wire : R_wire M M) : oK cI (qf_L_wire 20000 x1 x2 x3 M) (qf_X18_wire 20000 x1 x2 x3) (fun M' => R_wire M' M') := by
  have s_built := h_built
  unfold R_built at s_built
  have s_blocks := h_blocks
  unfold R_blocks at s_blocks
  have w1 : w32 (M 1003 0 0 - 1) = M 1003 0 0 - 1 := w32_id (by omega) (by omega)
  by_cases hx : 0 ≤ x1 ∧ x1 < M 1003 0 0 ∧ 0 ≤ x2 ∧ x2 < 3
  · have q0 := h_wire x1 x2 hx.1 hx.2.1 hx.2.2.1 hx.2.2.2
    have q1 := (w32_id (x := 3 * x1) (by omega) (by omega))
    have q2 := (w32_id (x := 3 * x1 + x2) (by omega) (by omega))
    unfold oK
    unfold qf_L_wire qf_X11_wire qf_X11_wire_J30 qf_X11_wire_J34 qf_X11_wire_J35 qf_X9_setInput qf_X11_isBlock qf_X18_wire qf_X18_wire_J42 qf_X18_wire_J46 qf_X18_wire_J47
    repeat' first
      | (refine qW_no ?_; omega)
      | (with_reducible refine qW_bnd ?_; try simp only [qw_ap, qfl1_ap, qfl2_ap, qcp1_ap, qcp2_ap, false_and, true_and, and_true, and_false, and_self, if_false, if_true, reduceIte, Nat.reduceEqDiff])
      | with_reducible refine qW_within (fun _ => ?_) (fun _ _ => ?_)
      | with_reducible refine qW_isIn (fun _ => ?_) (fun _ _ => ?_)
      | with_reducible refine qW_na (fun _ => ?_) (fun _ => ?_)
      | with_reducible refine qW_ns (fun _ => ?_) (fun _ => ?_)
      | (with_reducible refine qW_goes (fun _ => ?_) (fun _ _ => ?_) (fun _ _ => ?_) <;> (try dsimp only) <;> (try simp only [qw_ap, qfl1_ap, qfl2_ap, qcp1_ap, qcp2_ap, false_and, true_and, and_true, and_false, and_self, if_false, if_true, reduceIte, Nat.reduceEqDiff]))
      | (with_reducible refine qW_stays (by omega) (fun _ => ?_) (fun _ => ?_) <;> (try dsimp only) <;> (try simp only [qw_ap, qfl1_ap, qfl2_ap, qcp1_ap, qcp2_ap, false_and, true_and, and_true, and_false, and_self, if_false, if_true, reduceIte, Nat.reduceEqDiff]))
      | (exfalso; omega)
      | with_reducible refine qW_bind ?_
      | (with_reducible refine qW_some ?_; (try dsimp only); try simp only [qw_ap, qfl1_ap, qfl2_ap, qcp1_ap, qcp2_ap, false_and, true_and, and_true, and_false, and_self, if_false, if_true, reduceIte, Nat.reduceEqDiff])
      | with_reducible refine qW_pos rfl ?_
      | (refine qW_pos (by omega) ?_)
      | (refine qW_neg (by first | omega | decide) ?_)
      | with_reducible refine qW_ite (fun _ => ?_) (fun _ => ?_)
      | dsimp only
    all_goals (repeat' with_reducible refine And.intro ?_ ?_)
    all_goals first
      | rfl
      | exact R_wire_x rfl (fun _ _ => rfl) (fun _ _ => rfl) h_wire
      | (unfold R_wire; unfold R_wire at h_wire; grind [qw_ap])
      | (simp [qw_ap, cI, cB, cU]; done)
      | (intro _; simp (disch := omega) [qw_ap, cI, cB, cU, w32_id]; omega)
      | (intro _; simp only [cI, cB, cU]; grind [qw_ap, w32])

  · unfold oK
    unfold qf_L_wire qf_X11_wire qf_X11_wire_J30 qf_X11_wire_J34 qf_X11_wire_J35 qf_X9_setInput qf_X11_isBlock qf_X18_wire qf_X18_wire_J42 qf_X18_wire_J46 qf_X18_wire_J47
    repeat' first
      | (refine qW_no ?_; omega)
      | (with_reducible refine qW_bnd ?_; try simp only [qw_ap, qfl1_ap, qfl2_ap, qcp1_ap, qcp2_ap, false_and, true_and, and_true, and_false, and_self, if_false, if_true, reduceIte, Nat.reduceEqDiff])
      | with_reducible refine qW_within (fun _ => ?_) (fun _ _ => ?_)
      | with_reducible refine qW_isIn (fun _ => ?_) (fun _ _ => ?_)
      | with_reducible refine qW_na (fun _ => ?_) (fun _ => ?_)
      | with_reducible refine qW_ns (fun _ => ?_) (fun _ => ?_)
      | (with_reducible refine qW_goes (fun _ => ?_) (fun _ _ => ?_) (fun _ _ => ?_) <;> (try dsimp only) <;> (try simp only [qw_ap, qfl1_ap, qfl2_ap, qcp1_ap, qcp2_ap, false_and, true_and, and_true, and_false, and_self, if_false, if_true, reduceIte, Nat.reduceEqDiff]))
      | (with_reducible refine qW_stays (by omega) (fun _ => ?_) (fun _ => ?_) <;> (try dsimp only) <;> (try simp only [qw_ap, qfl1_ap, qfl2_ap, qcp1_ap, qcp2_ap, false_and, true_and, and_true, and_false, and_self, if_false, if_true, reduceIte, Nat.reduceEqDiff]))
      | (exfalso; omega)
      | with_reducible refine qW_bind ?_
      | (with_reducible refine qW_some ?_; (try dsimp only); try simp only [qw_ap, qfl1_ap, qfl2_ap, qcp1_ap, qcp2_ap, false_and, true_and, and_true, and_false, and_self, if_false, if_true, reduceIte, Nat.reduceEqDiff])
      | with_reducible refine qW_pos rfl ?_
      | (refine qW_pos (by omega) ?_)
      | (refine qW_neg (by first | omega | decide) ?_)
      | with_reducible refine qW_ite (fun _ => ?_) (fun _ => ?_)
      | dsimp only
    all_goals (repeat' with_reducible refine And.intro ?_ ?_)
    all_goals first
      | rfl
      | exact R_wire_x rfl (fun _ _ => rfl) (fun _ _ => rfl) h_wire
      | (unfold R_wire; unfold R_wire at h_wire; grind [qw_ap])
      | (simp [qw_ap, cI, cB, cU]; done)
      | (intro _; simp (disch := omega) [qw_ap, cI, cB, cU, w32_id]; omega)
      | (intro _; simp only [cI, cB, cU]; grind [qw_ap, w32])


set_option maxHeartbeats 400000 in
set_option maxRecDepth 20000 in
theorem op_row {M : qm} {x1 x2 x3 : Int} (c1 : -2147483648 ≤ x1 ∧ x1 ≤ 2147483647) (c2 : -2147483648 ≤ x2 ∧ x2 ≤ 2147483647) (c3 : -2147483648 ≤ x3 ∧ x3 ≤ 2147483647) (h_built : R_built M M) (h_blocks : R_blocks M M) (h_kinds : R_kinds M M) (h_row : R_row M M) : oK cI (qf_L_row 20000 x1 x2 x3 M) (qf_X18_row 20000 x1 x2 x3) (fun M' => R_row M' M') := by
  have s_built := h_built
  unfold R_built at s_built
  have s_blocks := h_blocks
  unfold R_blocks at s_blocks
  have w1 : w32 (M 1003 0 0 - 1) = M 1003 0 0 - 1 := w32_id (by omega) (by omega)
  by_cases hx : 0 ≤ x1 ∧ x1 < M 1003 0 0 ∧ 0 ≤ x2 ∧ x2 < 8
  · have q0 := h_row x1 x2 hx.1 (by omega) hx.2.2.1 hx.2.2.2
    have q1 := h_kinds x1 hx.1 (by omega)
    have q2 := (w32_id (x := 8 * x1) (by omega) (by omega))
    have q3 := (w32_id (x := 8 * x1 + x2) (by omega) (by omega))
    unfold oK
    unfold qf_L_row qf_X11_row qf_X11_row_J22 qf_X11_row_J23 qf_X11_row_J51 qf_X11_row_J52 qf_X11_isBlock qf_X18_row qf_X18_row_J27 qf_X18_row_J28 qf_X18_row_J59 qf_X18_row_J63 qf_X18_row_J64
    repeat' first
      | (refine qW_no ?_; omega)
      | (with_reducible refine qW_bnd ?_; try simp only [qw_ap, qfl1_ap, qfl2_ap, qcp1_ap, qcp2_ap, false_and, true_and, and_true, and_false, and_self, if_false, if_true, reduceIte, Nat.reduceEqDiff])
      | with_reducible refine qW_within (fun _ => ?_) (fun _ _ => ?_)
      | with_reducible refine qW_isIn (fun _ => ?_) (fun _ _ => ?_)
      | with_reducible refine qW_na (fun _ => ?_) (fun _ => ?_)
      | with_reducible refine qW_ns (fun _ => ?_) (fun _ => ?_)
      | (with_reducible refine qW_goes (fun _ => ?_) (fun _ _ => ?_) (fun _ _ => ?_) <;> (try dsimp only) <;> (try simp only [qw_ap, qfl1_ap, qfl2_ap, qcp1_ap, qcp2_ap, false_and, true_and, and_true, and_false, and_self, if_false, if_true, reduceIte, Nat.reduceEqDiff]))
      | (with_reducible refine qW_stays (by omega) (fun _ => ?_) (fun _ => ?_) <;> (try dsimp only) <;> (try simp only [qw_ap, qfl1_ap, qfl2_ap, qcp1_ap, qcp2_ap, false_and, true_and, and_true, and_false, and_self, if_false, if_true, reduceIte, Nat.reduceEqDiff]))
      | (exfalso; omega)
      | with_reducible refine qW_bind ?_
      | (with_reducible refine qW_some ?_; (try dsimp only); try simp only [qw_ap, qfl1_ap, qfl2_ap, qcp1_ap, qcp2_ap, false_and, true_and, and_true, and_false, and_self, if_false, if_true, reduceIte, Nat.reduceEqDiff])
      | with_reducible refine qW_pos rfl ?_
      | (refine qW_pos (by omega) ?_)
      | (refine qW_neg (by first | omega | decide) ?_)
      | with_reducible refine qW_ite (fun _ => ?_) (fun _ => ?_)
      | dsimp only
    all_goals (repeat' with_reducible refine And.intro ?_ ?_)
    all_goals first
      | rfl
      | exact R_row_x (fun _ _ => rfl) (fun _ _ => rfl) h_row
      | (unfold R_row; unfold R_row at h_row; grind [qw_ap])
      | (simp [qw_ap, cI, cB, cU]; done)
      | (intro _; simp (disch := omega) [qw_ap, cI, cB, cU, w32_id]; omega)
      | (intro _; simp only [cI, cB, cU]; grind [qw_ap, w32])

  · unfold oK
    unfold qf_L_row qf_X11_row qf_X11_row_J22 qf_X11_row_J23 qf_X11_row_J51 qf_X11_row_J52 qf_X11_isBlock qf_X18_row qf_X18_row_J27 qf_X18_row_J28 qf_X18_row_J59 qf_X18_row_J63 qf_X18_row_J64
    repeat' first
      | (refine qW_no ?_; omega)
      | (with_reducible refine qW_bnd ?_; try simp only [qw_ap, qfl1_ap, qfl2_ap, qcp1_ap, qcp2_ap, false_and, true_and, and_true, and_false, and_self, if_false, if_true, reduceIte, Nat.reduceEqDiff])
      | with_reducible refine qW_within (fun _ => ?_) (fun _ _ => ?_)
      | with_reducible refine qW_isIn (fun _ => ?_) (fun _ _ => ?_)
      | with_reducible refine qW_na (fun _ => ?_) (fun _ => ?_)
      | with_reducible refine qW_ns (fun _ => ?_) (fun _ => ?_)
      | (with_reducible refine qW_goes (fun _ => ?_) (fun _ _ => ?_) (fun _ _ => ?_) <;> (try dsimp only) <;> (try simp only [qw_ap, qfl1_ap, qfl2_ap, qcp1_ap, qcp2_ap, false_and, true_and, and_true, and_false, and_self, if_false, if_true, reduceIte, Nat.reduceEqDiff]))
      | (with_reducible refine qW_stays (by omega) (fun _ => ?_) (fun _ => ?_) <;> (try dsimp only) <;> (try simp only [qw_ap, qfl1_ap, qfl2_ap, qcp1_ap, qcp2_ap, false_and, true_and, and_true, and_false, and_self, if_false, if_true, reduceIte, Nat.reduceEqDiff]))
      | (exfalso; omega)
      | with_reducible refine qW_bind ?_
      | (with_reducible refine qW_some ?_; (try dsimp only); try simp only [qw_ap, qfl1_ap, qfl2_ap, qcp1_ap, qcp2_ap, false_and, true_and, and_true, and_false, and_self, if_false, if_true, reduceIte, Nat.reduceEqDiff])
      | with_reducible refine qW_pos rfl ?_
      | (refine qW_pos (by omega) ?_)
      | (refine qW_neg (by first | omega | decide) ?_)
      | with_reducible refine qW_ite (fun _ => ?_) (fun _ => ?_)
      | dsimp only
    all_goals (repeat' with_reducible refine And.intro ?_ ?_)
    all_goals first
      | rfl
      | exact R_row_x (fun _ _ => rfl) (fun _ _ => rfl) h_row
      | (unfold R_row; unfold R_row at h_row; grind [qw_ap])
      | (simp [qw_ap, cI, cB, cU]; done)
      | (intro _; simp (disch := omega) [qw_ap, cI, cB, cU, w32_id]; omega)
      | (intro _; simp only [cI, cB, cU]; grind [qw_ap, w32])


set_option maxHeartbeats 400000 in
set_option maxRecDepth 20000 in
theorem op_address {M : qm} {x1 x2 : Int} (c1 : -2147483648 ≤ x1 ∧ x1 ≤ 2147483647) (c2 : -2147483648 ≤ x2 ∧ x2 ≤ 2147483647) (h_built : R_built M M) (h_baddr : R_baddr M M) (h_bbusy : R_bbusy M M) (h_bqueued : R_bqueued M M) (h_bsaying : R_bsaying M M) (h_bcounts : R_bcounts M M) : oK cI (qf_L_address 20000 x1 x2 M) (qf_X18_address 20000 x1 x2) (fun M' => R_baddr M' M' ∧ R_bbusy M' M' ∧ R_bqueued M' M' ∧ R_bsaying M' M' ∧ R_bcounts M' M') := by
  have s_built := h_built
  unfold R_built at s_built
  by_cases hx : 0 ≤ x1 ∧ x1 < 8
  · have q0 := h_baddr x1 hx.1 hx.2
    unfold oK
    unfold qf_L_address qf_X11_address qf_X11_address_J22 qf_X11_address_J23 qf_X1_setAddress qf_X11_isStation qf_X18_address qf_X18_address_J24 qf_X18_address_J25
    repeat' first
      | (refine qW_no ?_; omega)
      | (with_reducible refine qW_bnd ?_; try simp only [qw_ap, qfl1_ap, qfl2_ap, qcp1_ap, qcp2_ap, false_and, true_and, and_true, and_false, and_self, if_false, if_true, reduceIte, Nat.reduceEqDiff])
      | with_reducible refine qW_within (fun _ => ?_) (fun _ _ => ?_)
      | with_reducible refine qW_isIn (fun _ => ?_) (fun _ _ => ?_)
      | with_reducible refine qW_na (fun _ => ?_) (fun _ => ?_)
      | with_reducible refine qW_ns (fun _ => ?_) (fun _ => ?_)
      | (with_reducible refine qW_goes (fun _ => ?_) (fun _ _ => ?_) (fun _ _ => ?_) <;> (try dsimp only) <;> (try simp only [qw_ap, qfl1_ap, qfl2_ap, qcp1_ap, qcp2_ap, false_and, true_and, and_true, and_false, and_self, if_false, if_true, reduceIte, Nat.reduceEqDiff]))
      | (with_reducible refine qW_stays (by omega) (fun _ => ?_) (fun _ => ?_) <;> (try dsimp only) <;> (try simp only [qw_ap, qfl1_ap, qfl2_ap, qcp1_ap, qcp2_ap, false_and, true_and, and_true, and_false, and_self, if_false, if_true, reduceIte, Nat.reduceEqDiff]))
      | (exfalso; omega)
      | with_reducible refine qW_bind ?_
      | (with_reducible refine qW_some ?_; (try dsimp only); try simp only [qw_ap, qfl1_ap, qfl2_ap, qcp1_ap, qcp2_ap, false_and, true_and, and_true, and_false, and_self, if_false, if_true, reduceIte, Nat.reduceEqDiff])
      | with_reducible refine qW_pos rfl ?_
      | (refine qW_pos (by omega) ?_)
      | (refine qW_neg (by first | omega | decide) ?_)
      | with_reducible refine qW_ite (fun _ => ?_) (fun _ => ?_)
      | dsimp only
    all_goals (repeat' with_reducible refine And.intro ?_ ?_)
    all_goals first
      | rfl
      | exact R_baddr_x (fun _ _ => rfl) (fun _ _ => rfl) h_baddr
      | exact R_bbusy_x (fun _ _ => rfl) (fun _ _ => rfl) h_bbusy
      | exact R_bqueued_x (fun _ _ => rfl) (fun _ _ => rfl) h_bqueued
      | exact R_bsaying_x (fun _ _ => rfl) (fun _ _ => rfl) (fun _ _ => rfl) h_bsaying
      | exact R_bcounts_x (fun _ _ => rfl) (fun _ _ => rfl) (fun _ _ => rfl) (fun _ _ => rfl) h_bcounts
      | (unfold R_baddr; unfold R_baddr at h_baddr; grind [qw_ap])
      | (unfold R_bbusy; unfold R_bbusy at h_bbusy; grind [qw_ap])
      | (unfold R_bqueued; unfold R_bqueued at h_bqueued; grind [qw_ap])
      | (unfold R_bsaying; unfold R_bsaying at h_bsaying; grind [qw_ap])
      | (unfold R_bcounts; unfold R_bcounts at h_bcounts; grind [qw_ap])
      | (simp [qw_ap, cI, cB, cU]; done)
      | (intro _; simp (disch := omega) [qw_ap, cI, cB, cU, w32_id]; omega)
      | (intro _; simp only [cI, cB, cU]; grind [qw_ap, w32])

  · unfold oK
    unfold qf_L_address qf_X11_address qf_X11_address_J22 qf_X11_address_J23 qf_X1_setAddress qf_X11_isStation qf_X18_address qf_X18_address_J24 qf_X18_address_J25
    repeat' first
      | (refine qW_no ?_; omega)
      | (with_reducible refine qW_bnd ?_; try simp only [qw_ap, qfl1_ap, qfl2_ap, qcp1_ap, qcp2_ap, false_and, true_and, and_true, and_false, and_self, if_false, if_true, reduceIte, Nat.reduceEqDiff])
      | with_reducible refine qW_within (fun _ => ?_) (fun _ _ => ?_)
      | with_reducible refine qW_isIn (fun _ => ?_) (fun _ _ => ?_)
      | with_reducible refine qW_na (fun _ => ?_) (fun _ => ?_)
      | with_reducible refine qW_ns (fun _ => ?_) (fun _ => ?_)
      | (with_reducible refine qW_goes (fun _ => ?_) (fun _ _ => ?_) (fun _ _ => ?_) <;> (try dsimp only) <;> (try simp only [qw_ap, qfl1_ap, qfl2_ap, qcp1_ap, qcp2_ap, false_and, true_and, and_true, and_false, and_self, if_false, if_true, reduceIte, Nat.reduceEqDiff]))
      | (with_reducible refine qW_stays (by omega) (fun _ => ?_) (fun _ => ?_) <;> (try dsimp only) <;> (try simp only [qw_ap, qfl1_ap, qfl2_ap, qcp1_ap, qcp2_ap, false_and, true_and, and_true, and_false, and_self, if_false, if_true, reduceIte, Nat.reduceEqDiff]))
      | (exfalso; omega)
      | with_reducible refine qW_bind ?_
      | (with_reducible refine qW_some ?_; (try dsimp only); try simp only [qw_ap, qfl1_ap, qfl2_ap, qcp1_ap, qcp2_ap, false_and, true_and, and_true, and_false, and_self, if_false, if_true, reduceIte, Nat.reduceEqDiff])
      | with_reducible refine qW_pos rfl ?_
      | (refine qW_pos (by omega) ?_)
      | (refine qW_neg (by first | omega | decide) ?_)
      | with_reducible refine qW_ite (fun _ => ?_) (fun _ => ?_)
      | dsimp only
    all_goals (repeat' with_reducible refine And.intro ?_ ?_)
    all_goals first
      | rfl
      | exact R_baddr_x (fun _ _ => rfl) (fun _ _ => rfl) h_baddr
      | exact R_bbusy_x (fun _ _ => rfl) (fun _ _ => rfl) h_bbusy
      | exact R_bqueued_x (fun _ _ => rfl) (fun _ _ => rfl) h_bqueued
      | exact R_bsaying_x (fun _ _ => rfl) (fun _ _ => rfl) (fun _ _ => rfl) h_bsaying
      | exact R_bcounts_x (fun _ _ => rfl) (fun _ _ => rfl) (fun _ _ => rfl) (fun _ _ => rfl) h_bcounts
      | (unfold R_baddr; unfold R_baddr at h_baddr; grind [qw_ap])
      | (unfold R_bbusy; unfold R_bbusy at h_bbusy; grind [qw_ap])
      | (unfold R_bqueued; unfold R_bqueued at h_bqueued; grind [qw_ap])
      | (unfold R_bsaying; unfold R_bsaying at h_bsaying; grind [qw_ap])
      | (unfold R_bcounts; unfold R_bcounts at h_bcounts; grind [qw_ap])
      | (simp [qw_ap, cI, cB, cU]; done)
      | (intro _; simp (disch := omega) [qw_ap, cI, cB, cU, w32_id]; omega)
      | (intro _; simp only [cI, cB, cU]; grind [qw_ap, w32])


set_option maxHeartbeats 400000 in
set_option maxRecDepth 20000 in
theorem op_busy {M : qm} {x1 x2 : Int} (b2 : x2 = 0 ∨ x2 = 1) (c1 : -2147483648 ≤ x1 ∧ x1 ≤ 2147483647) (c2 : -2147483648 ≤ x2 ∧ x2 ≤ 2147483647) (h_built : R_built M M) (h_baddr : R_baddr M M) (h_bbusy : R_bbusy M M) (h_bqueued : R_bqueued M M) (h_bsaying : R_bsaying M M) (h_bcounts : R_bcounts M M) : oK cB (qf_L_busy 20000 x1 x2 M) (qf_X18_busy 20000 x1 x2) (fun M' => R_baddr M' M' ∧ R_bbusy M' M' ∧ R_bqueued M' M' ∧ R_bsaying M' M' ∧ R_bcounts M' M') := by
  have s_built := h_built
  unfold R_built at s_built
  by_cases hx : 0 ≤ x1 ∧ x1 < 8
  · have q0 := h_bbusy x1 hx.1 hx.2
    unfold oK
    unfold qf_L_busy qf_L_busy_J16 qf_X11_busy qf_X1_setBusy qf_X1_setBusy_J17 qf_X11_isStation qf_X18_busy
    repeat' first
      | (refine qW_no ?_; omega)
      | (with_reducible refine qW_bnd ?_; try simp only [qw_ap, qfl1_ap, qfl2_ap, qcp1_ap, qcp2_ap, false_and, true_and, and_true, and_false, and_self, if_false, if_true, reduceIte, Nat.reduceEqDiff])
      | with_reducible refine qW_within (fun _ => ?_) (fun _ _ => ?_)
      | with_reducible refine qW_isIn (fun _ => ?_) (fun _ _ => ?_)
      | with_reducible refine qW_na (fun _ => ?_) (fun _ => ?_)
      | with_reducible refine qW_ns (fun _ => ?_) (fun _ => ?_)
      | (with_reducible refine qW_goes (fun _ => ?_) (fun _ _ => ?_) (fun _ _ => ?_) <;> (try dsimp only) <;> (try simp only [qw_ap, qfl1_ap, qfl2_ap, qcp1_ap, qcp2_ap, false_and, true_and, and_true, and_false, and_self, if_false, if_true, reduceIte, Nat.reduceEqDiff]))
      | (with_reducible refine qW_stays (by omega) (fun _ => ?_) (fun _ => ?_) <;> (try dsimp only) <;> (try simp only [qw_ap, qfl1_ap, qfl2_ap, qcp1_ap, qcp2_ap, false_and, true_and, and_true, and_false, and_self, if_false, if_true, reduceIte, Nat.reduceEqDiff]))
      | (exfalso; omega)
      | with_reducible refine qW_bind ?_
      | (with_reducible refine qW_some ?_; (try dsimp only); try simp only [qw_ap, qfl1_ap, qfl2_ap, qcp1_ap, qcp2_ap, false_and, true_and, and_true, and_false, and_self, if_false, if_true, reduceIte, Nat.reduceEqDiff])
      | with_reducible refine qW_pos rfl ?_
      | (refine qW_pos (by omega) ?_)
      | (refine qW_neg (by first | omega | decide) ?_)
      | with_reducible refine qW_ite (fun _ => ?_) (fun _ => ?_)
      | dsimp only
    all_goals (repeat' with_reducible refine And.intro ?_ ?_)
    all_goals first
      | rfl
      | exact R_baddr_x (fun _ _ => rfl) (fun _ _ => rfl) h_baddr
      | exact R_bbusy_x (fun _ _ => rfl) (fun _ _ => rfl) h_bbusy
      | exact R_bqueued_x (fun _ _ => rfl) (fun _ _ => rfl) h_bqueued
      | exact R_bsaying_x (fun _ _ => rfl) (fun _ _ => rfl) (fun _ _ => rfl) h_bsaying
      | exact R_bcounts_x (fun _ _ => rfl) (fun _ _ => rfl) (fun _ _ => rfl) (fun _ _ => rfl) h_bcounts
      | (unfold R_baddr; unfold R_baddr at h_baddr; grind [qw_ap])
      | (unfold R_bbusy; unfold R_bbusy at h_bbusy; grind [qw_ap])
      | (unfold R_bqueued; unfold R_bqueued at h_bqueued; grind [qw_ap])
      | (unfold R_bsaying; unfold R_bsaying at h_bsaying; grind [qw_ap])
      | (unfold R_bcounts; unfold R_bcounts at h_bcounts; grind [qw_ap])
      | (simp [qw_ap, cI, cB, cU]; done)
      | (intro _; simp (disch := omega) [qw_ap, cI, cB, cU, w32_id]; omega)
      | (intro _; simp only [cI, cB, cU]; grind [qw_ap, w32])

  · unfold oK
    unfold qf_L_busy qf_L_busy_J16 qf_X11_busy qf_X1_setBusy qf_X1_setBusy_J17 qf_X11_isStation qf_X18_busy
    repeat' first
      | (refine qW_no ?_; omega)
      | (with_reducible refine qW_bnd ?_; try simp only [qw_ap, qfl1_ap, qfl2_ap, qcp1_ap, qcp2_ap, false_and, true_and, and_true, and_false, and_self, if_false, if_true, reduceIte, Nat.reduceEqDiff])
      | with_reducible refine qW_within (fun _ => ?_) (fun _ _ => ?_)
      | with_reducible refine qW_isIn (fun _ => ?_) (fun _ _ => ?_)
      | with_reducible refine qW_na (fun _ => ?_) (fun _ => ?_)
      | with_reducible refine qW_ns (fun _ => ?_) (fun _ => ?_)
      | (with_reducible refine qW_goes (fun _ => ?_) (fun _ _ => ?_) (fun _ _ => ?_) <;> (try dsimp only) <;> (try simp only [qw_ap, qfl1_ap, qfl2_ap, qcp1_ap, qcp2_ap, false_and, true_and, and_true, and_false, and_self, if_false, if_true, reduceIte, Nat.reduceEqDiff]))
      | (with_reducible refine qW_stays (by omega) (fun _ => ?_) (fun _ => ?_) <;> (try dsimp only) <;> (try simp only [qw_ap, qfl1_ap, qfl2_ap, qcp1_ap, qcp2_ap, false_and, true_and, and_true, and_false, and_self, if_false, if_true, reduceIte, Nat.reduceEqDiff]))
      | (exfalso; omega)
      | with_reducible refine qW_bind ?_
      | (with_reducible refine qW_some ?_; (try dsimp only); try simp only [qw_ap, qfl1_ap, qfl2_ap, qcp1_ap, qcp2_ap, false_and, true_and, and_true, and_false, and_self, if_false, if_true, reduceIte, Nat.reduceEqDiff])
      | with_reducible refine qW_pos rfl ?_
      | (refine qW_pos (by omega) ?_)
      | (refine qW_neg (by first | omega | decide) ?_)
      | with_reducible refine qW_ite (fun _ => ?_) (fun _ => ?_)
      | dsimp only
    all_goals (repeat' with_reducible refine And.intro ?_ ?_)
    all_goals first
      | rfl
      | exact R_baddr_x (fun _ _ => rfl) (fun _ _ => rfl) h_baddr
      | exact R_bbusy_x (fun _ _ => rfl) (fun _ _ => rfl) h_bbusy
      | exact R_bqueued_x (fun _ _ => rfl) (fun _ _ => rfl) h_bqueued
      | exact R_bsaying_x (fun _ _ => rfl) (fun _ _ => rfl) (fun _ _ => rfl) h_bsaying
      | exact R_bcounts_x (fun _ _ => rfl) (fun _ _ => rfl) (fun _ _ => rfl) (fun _ _ => rfl) h_bcounts
      | (unfold R_baddr; unfold R_baddr at h_baddr; grind [qw_ap])
      | (unfold R_bbusy; unfold R_bbusy at h_bbusy; grind [qw_ap])
      | (unfold R_bqueued; unfold R_bqueued at h_bqueued; grind [qw_ap])
      | (unfold R_bsaying; unfold R_bsaying at h_bsaying; grind [qw_ap])
      | (unfold R_bcounts; unfold R_bcounts at h_bcounts; grind [qw_ap])
      | (simp [qw_ap, cI, cB, cU]; done)
      | (intro _; simp (disch := omega) [qw_ap, cI, cB, cU, w32_id]; omega)
      | (intro _; simp only [cI, cB, cU]; grind [qw_ap, w32])


set_option maxHeartbeats 400000 in
set_option maxRecDepth 20000 in
theorem op_station {M : qm} {x1 x2 : Int} (c1 : -2147483648 ≤ x1 ∧ x1 ≤ 2147483647) (c2 : -2147483648 ≤ x2 ∧ x2 ≤ 2147483647) (h_built : R_built M M) (h_bqueued : R_bqueued M M) (h_bsaying : R_bsaying M M) (h_bcounts : R_bcounts M M) : oK cI (qf_L_station 20000 x1 x2 M) (qf_X18_station 20000 x1 x2) (fun M' => True) := by
  have s_built := h_built
  unfold R_built at s_built
  by_cases hx : 0 ≤ x1 ∧ x1 < 8
  · have q0 := h_bqueued x1 hx.1 hx.2
    have q1 := h_bsaying x1 hx.1 hx.2
    have q2 := h_bcounts x1 hx.1 hx.2
    unfold oK
    unfold qf_L_station qf_X11_station qf_X11_station_J20 qf_X11_station_J21 qf_X1_stationFact qf_X1_stationFact_J19 qf_X11_isStation qf_X18_station qf_X18_station_J23 qf_X18_station_J24 qf_X12_station
    repeat' first
      | (refine qW_no ?_; omega)
      | (with_reducible refine qW_bnd ?_; try simp only [qw_ap, qfl1_ap, qfl2_ap, qcp1_ap, qcp2_ap, false_and, true_and, and_true, and_false, and_self, if_false, if_true, reduceIte, Nat.reduceEqDiff])
      | with_reducible refine qW_within (fun _ => ?_) (fun _ _ => ?_)
      | with_reducible refine qW_isIn (fun _ => ?_) (fun _ _ => ?_)
      | with_reducible refine qW_na (fun _ => ?_) (fun _ => ?_)
      | with_reducible refine qW_ns (fun _ => ?_) (fun _ => ?_)
      | (with_reducible refine qW_goes (fun _ => ?_) (fun _ _ => ?_) (fun _ _ => ?_) <;> (try dsimp only) <;> (try simp only [qw_ap, qfl1_ap, qfl2_ap, qcp1_ap, qcp2_ap, false_and, true_and, and_true, and_false, and_self, if_false, if_true, reduceIte, Nat.reduceEqDiff]))
      | (with_reducible refine qW_stays (by omega) (fun _ => ?_) (fun _ => ?_) <;> (try dsimp only) <;> (try simp only [qw_ap, qfl1_ap, qfl2_ap, qcp1_ap, qcp2_ap, false_and, true_and, and_true, and_false, and_self, if_false, if_true, reduceIte, Nat.reduceEqDiff]))
      | (exfalso; omega)
      | with_reducible refine qW_bind ?_
      | (with_reducible refine qW_some ?_; (try dsimp only); try simp only [qw_ap, qfl1_ap, qfl2_ap, qcp1_ap, qcp2_ap, false_and, true_and, and_true, and_false, and_self, if_false, if_true, reduceIte, Nat.reduceEqDiff])
      | with_reducible refine qW_pos rfl ?_
      | (refine qW_pos (by omega) ?_)
      | (refine qW_neg (by first | omega | decide) ?_)
      | with_reducible refine qW_ite (fun _ => ?_) (fun _ => ?_)
      | dsimp only
    all_goals (repeat' with_reducible refine And.intro ?_ ?_)
    all_goals first
      | rfl
      | (simp [qw_ap, cI, cB, cU]; done)
      | (intro _; simp (disch := omega) [qw_ap, cI, cB, cU, w32_id]; omega)
      | (intro _; simp only [cI, cB, cU]; grind [qw_ap, w32])

  · unfold oK
    unfold qf_L_station qf_X11_station qf_X11_station_J20 qf_X11_station_J21 qf_X1_stationFact qf_X1_stationFact_J19 qf_X11_isStation qf_X18_station qf_X18_station_J23 qf_X18_station_J24 qf_X12_station
    repeat' first
      | (refine qW_no ?_; omega)
      | (with_reducible refine qW_bnd ?_; try simp only [qw_ap, qfl1_ap, qfl2_ap, qcp1_ap, qcp2_ap, false_and, true_and, and_true, and_false, and_self, if_false, if_true, reduceIte, Nat.reduceEqDiff])
      | with_reducible refine qW_within (fun _ => ?_) (fun _ _ => ?_)
      | with_reducible refine qW_isIn (fun _ => ?_) (fun _ _ => ?_)
      | with_reducible refine qW_na (fun _ => ?_) (fun _ => ?_)
      | with_reducible refine qW_ns (fun _ => ?_) (fun _ => ?_)
      | (with_reducible refine qW_goes (fun _ => ?_) (fun _ _ => ?_) (fun _ _ => ?_) <;> (try dsimp only) <;> (try simp only [qw_ap, qfl1_ap, qfl2_ap, qcp1_ap, qcp2_ap, false_and, true_and, and_true, and_false, and_self, if_false, if_true, reduceIte, Nat.reduceEqDiff]))
      | (with_reducible refine qW_stays (by omega) (fun _ => ?_) (fun _ => ?_) <;> (try dsimp only) <;> (try simp only [qw_ap, qfl1_ap, qfl2_ap, qcp1_ap, qcp2_ap, false_and, true_and, and_true, and_false, and_self, if_false, if_true, reduceIte, Nat.reduceEqDiff]))
      | (exfalso; omega)
      | with_reducible refine qW_bind ?_
      | (with_reducible refine qW_some ?_; (try dsimp only); try simp only [qw_ap, qfl1_ap, qfl2_ap, qcp1_ap, qcp2_ap, false_and, true_and, and_true, and_false, and_self, if_false, if_true, reduceIte, Nat.reduceEqDiff])
      | with_reducible refine qW_pos rfl ?_
      | (refine qW_pos (by omega) ?_)
      | (refine qW_neg (by first | omega | decide) ?_)
      | with_reducible refine qW_ite (fun _ => ?_) (fun _ => ?_)
      | dsimp only
    all_goals (repeat' with_reducible refine And.intro ?_ ?_)
    all_goals first
      | rfl
      | (simp [qw_ap, cI, cB, cU]; done)
      | (intro _; simp (disch := omega) [qw_ap, cI, cB, cU, w32_id]; omega)
      | (intro _; simp only [cI, cB, cU]; grind [qw_ap, w32])


set_option maxHeartbeats 400000 in
set_option maxRecDepth 20000 in
theorem op_heard {M : qm} {x1 : Int} (c1 : -2147483648 ≤ x1 ∧ x1 ≤ 2147483647) (h_built : R_built M M) (h_bheard : R_bheard M M) : oK cI (qf_L_heard 20000 x1 M) (qf_X18_heard 20000 x1) (fun M' => True) := by
  have s_built := h_built
  unfold R_built at s_built
  by_cases hx : 0 ≤ x1 ∧ x1 < 5
  · have q0 := h_bheard x1 hx.1 hx.2
    unfold oK
    unfold qf_L_heard qf_X11_heard qf_X18_heard
    repeat' first
      | (refine qW_no ?_; omega)
      | (with_reducible refine qW_bnd ?_; try simp only [qw_ap, qfl1_ap, qfl2_ap, qcp1_ap, qcp2_ap, false_and, true_and, and_true, and_false, and_self, if_false, if_true, reduceIte, Nat.reduceEqDiff])
      | with_reducible refine qW_within (fun _ => ?_) (fun _ _ => ?_)
      | with_reducible refine qW_isIn (fun _ => ?_) (fun _ _ => ?_)
      | with_reducible refine qW_na (fun _ => ?_) (fun _ => ?_)
      | with_reducible refine qW_ns (fun _ => ?_) (fun _ => ?_)
      | (with_reducible refine qW_goes (fun _ => ?_) (fun _ _ => ?_) (fun _ _ => ?_) <;> (try dsimp only) <;> (try simp only [qw_ap, qfl1_ap, qfl2_ap, qcp1_ap, qcp2_ap, false_and, true_and, and_true, and_false, and_self, if_false, if_true, reduceIte, Nat.reduceEqDiff]))
      | (with_reducible refine qW_stays (by omega) (fun _ => ?_) (fun _ => ?_) <;> (try dsimp only) <;> (try simp only [qw_ap, qfl1_ap, qfl2_ap, qcp1_ap, qcp2_ap, false_and, true_and, and_true, and_false, and_self, if_false, if_true, reduceIte, Nat.reduceEqDiff]))
      | (exfalso; omega)
      | with_reducible refine qW_bind ?_
      | (with_reducible refine qW_some ?_; (try dsimp only); try simp only [qw_ap, qfl1_ap, qfl2_ap, qcp1_ap, qcp2_ap, false_and, true_and, and_true, and_false, and_self, if_false, if_true, reduceIte, Nat.reduceEqDiff])
      | with_reducible refine qW_pos rfl ?_
      | (refine qW_pos (by omega) ?_)
      | (refine qW_neg (by first | omega | decide) ?_)
      | with_reducible refine qW_ite (fun _ => ?_) (fun _ => ?_)
      | dsimp only
    all_goals (repeat' with_reducible refine And.intro ?_ ?_)
    all_goals first
      | rfl
      | (simp [qw_ap, cI, cB, cU]; done)
      | (intro _; simp (disch := omega) [qw_ap, cI, cB, cU, w32_id]; omega)
      | (intro _; simp only [cI, cB, cU]; grind [qw_ap, w32])

  · unfold oK
    unfold qf_L_heard qf_X11_heard qf_X18_heard
    repeat' first
      | (refine qW_no ?_; omega)
      | (with_reducible refine qW_bnd ?_; try simp only [qw_ap, qfl1_ap, qfl2_ap, qcp1_ap, qcp2_ap, false_and, true_and, and_true, and_false, and_self, if_false, if_true, reduceIte, Nat.reduceEqDiff])
      | with_reducible refine qW_within (fun _ => ?_) (fun _ _ => ?_)
      | with_reducible refine qW_isIn (fun _ => ?_) (fun _ _ => ?_)
      | with_reducible refine qW_na (fun _ => ?_) (fun _ => ?_)
      | with_reducible refine qW_ns (fun _ => ?_) (fun _ => ?_)
      | (with_reducible refine qW_goes (fun _ => ?_) (fun _ _ => ?_) (fun _ _ => ?_) <;> (try dsimp only) <;> (try simp only [qw_ap, qfl1_ap, qfl2_ap, qcp1_ap, qcp2_ap, false_and, true_and, and_true, and_false, and_self, if_false, if_true, reduceIte, Nat.reduceEqDiff]))
      | (with_reducible refine qW_stays (by omega) (fun _ => ?_) (fun _ => ?_) <;> (try dsimp only) <;> (try simp only [qw_ap, qfl1_ap, qfl2_ap, qcp1_ap, qcp2_ap, false_and, true_and, and_true, and_false, and_self, if_false, if_true, reduceIte, Nat.reduceEqDiff]))
      | (exfalso; omega)
      | with_reducible refine qW_bind ?_
      | (with_reducible refine qW_some ?_; (try dsimp only); try simp only [qw_ap, qfl1_ap, qfl2_ap, qcp1_ap, qcp2_ap, false_and, true_and, and_true, and_false, and_self, if_false, if_true, reduceIte, Nat.reduceEqDiff])
      | with_reducible refine qW_pos rfl ?_
      | (refine qW_pos (by omega) ?_)
      | (refine qW_neg (by first | omega | decide) ?_)
      | with_reducible refine qW_ite (fun _ => ?_) (fun _ => ?_)
      | dsimp only
    all_goals (repeat' with_reducible refine And.intro ?_ ?_)
    all_goals first
      | rfl
      | (simp [qw_ap, cI, cB, cU]; done)
      | (intro _; simp (disch := omega) [qw_ap, cI, cB, cU, w32_id]; omega)
      | (intro _; simp only [cI, cB, cU]; grind [qw_ap, w32])


set_option maxHeartbeats 400000 in
set_option maxRecDepth 20000 in
theorem op_signal {M : qm} {x1 x2 : Int} (c1 : -2147483648 ≤ x1 ∧ x1 ≤ 2147483647) (c2 : -2147483648 ≤ x2 ∧ x2 ≤ 2147483647) (h_built : R_built M M) (h_mpoints : R_mpoints M M) (h_mvalue : R_mvalue M M) : oK cI (qf_L_signal 20000 x1 x2 M) (qf_X18_signal 20000 x1 x2) (fun M' => R_mvalue M' M') := by
  have s_built := h_built
  unfold R_built at s_built
  have s_mpoints := h_mpoints
  unfold R_mpoints at s_mpoints
  have w1 : w32 (M 1172 2 0 - 1) = M 1172 2 0 - 1 := w32_id (by omega) (by omega)
  by_cases hx : 0 ≤ x1 ∧ x1 < 50
  · have q0 := h_mvalue x1 hx.1 hx.2
    unfold oK
    unfold qf_L_signal qf_X11_signal qf_X11_signal_J31 qf_X11_signal_J32 qf_X18_signal qf_X18_signal_J29 qf_X18_signal_J30
    repeat' first
      | (refine qW_no ?_; omega)
      | (with_reducible refine qW_bnd ?_; try simp only [qw_ap, qfl1_ap, qfl2_ap, qcp1_ap, qcp2_ap, false_and, true_and, and_true, and_false, and_self, if_false, if_true, reduceIte, Nat.reduceEqDiff])
      | with_reducible refine qW_within (fun _ => ?_) (fun _ _ => ?_)
      | with_reducible refine qW_isIn (fun _ => ?_) (fun _ _ => ?_)
      | with_reducible refine qW_na (fun _ => ?_) (fun _ => ?_)
      | with_reducible refine qW_ns (fun _ => ?_) (fun _ => ?_)
      | (with_reducible refine qW_goes (fun _ => ?_) (fun _ _ => ?_) (fun _ _ => ?_) <;> (try dsimp only) <;> (try simp only [qw_ap, qfl1_ap, qfl2_ap, qcp1_ap, qcp2_ap, false_and, true_and, and_true, and_false, and_self, if_false, if_true, reduceIte, Nat.reduceEqDiff]))
      | (with_reducible refine qW_stays (by omega) (fun _ => ?_) (fun _ => ?_) <;> (try dsimp only) <;> (try simp only [qw_ap, qfl1_ap, qfl2_ap, qcp1_ap, qcp2_ap, false_and, true_and, and_true, and_false, and_self, if_false, if_true, reduceIte, Nat.reduceEqDiff]))
      | (exfalso; omega)
      | with_reducible refine qW_bind ?_
      | (with_reducible refine qW_some ?_; (try dsimp only); try simp only [qw_ap, qfl1_ap, qfl2_ap, qcp1_ap, qcp2_ap, false_and, true_and, and_true, and_false, and_self, if_false, if_true, reduceIte, Nat.reduceEqDiff])
      | with_reducible refine qW_pos rfl ?_
      | (refine qW_pos (by omega) ?_)
      | (refine qW_neg (by first | omega | decide) ?_)
      | with_reducible refine qW_ite (fun _ => ?_) (fun _ => ?_)
      | dsimp only
    all_goals (repeat' with_reducible refine And.intro ?_ ?_)
    all_goals first
      | rfl
      | exact R_mvalue_x (fun _ _ => rfl) (fun _ _ => rfl) h_mvalue
      | (unfold R_mvalue; unfold R_mvalue at h_mvalue; grind [qw_ap])
      | (simp [qw_ap, cI, cB, cU]; done)
      | (intro _; simp (disch := omega) [qw_ap, cI, cB, cU, w32_id]; omega)
      | (intro _; simp only [cI, cB, cU]; grind [qw_ap, w32])

  · unfold oK
    unfold qf_L_signal qf_X11_signal qf_X11_signal_J31 qf_X11_signal_J32 qf_X18_signal qf_X18_signal_J29 qf_X18_signal_J30
    repeat' first
      | (refine qW_no ?_; omega)
      | (with_reducible refine qW_bnd ?_; try simp only [qw_ap, qfl1_ap, qfl2_ap, qcp1_ap, qcp2_ap, false_and, true_and, and_true, and_false, and_self, if_false, if_true, reduceIte, Nat.reduceEqDiff])
      | with_reducible refine qW_within (fun _ => ?_) (fun _ _ => ?_)
      | with_reducible refine qW_isIn (fun _ => ?_) (fun _ _ => ?_)
      | with_reducible refine qW_na (fun _ => ?_) (fun _ => ?_)
      | with_reducible refine qW_ns (fun _ => ?_) (fun _ => ?_)
      | (with_reducible refine qW_goes (fun _ => ?_) (fun _ _ => ?_) (fun _ _ => ?_) <;> (try dsimp only) <;> (try simp only [qw_ap, qfl1_ap, qfl2_ap, qcp1_ap, qcp2_ap, false_and, true_and, and_true, and_false, and_self, if_false, if_true, reduceIte, Nat.reduceEqDiff]))
      | (with_reducible refine qW_stays (by omega) (fun _ => ?_) (fun _ => ?_) <;> (try dsimp only) <;> (try simp only [qw_ap, qfl1_ap, qfl2_ap, qcp1_ap, qcp2_ap, false_and, true_and, and_true, and_false, and_self, if_false, if_true, reduceIte, Nat.reduceEqDiff]))
      | (exfalso; omega)
      | with_reducible refine qW_bind ?_
      | (with_reducible refine qW_some ?_; (try dsimp only); try simp only [qw_ap, qfl1_ap, qfl2_ap, qcp1_ap, qcp2_ap, false_and, true_and, and_true, and_false, and_self, if_false, if_true, reduceIte, Nat.reduceEqDiff])
      | with_reducible refine qW_pos rfl ?_
      | (refine qW_pos (by omega) ?_)
      | (refine qW_neg (by first | omega | decide) ?_)
      | with_reducible refine qW_ite (fun _ => ?_) (fun _ => ?_)
      | dsimp only
    all_goals (repeat' with_reducible refine And.intro ?_ ?_)
    all_goals first
      | rfl
      | exact R_mvalue_x (fun _ _ => rfl) (fun _ _ => rfl) h_mvalue
      | (unfold R_mvalue; unfold R_mvalue at h_mvalue; grind [qw_ap])
      | (simp [qw_ap, cI, cB, cU]; done)
      | (intro _; simp (disch := omega) [qw_ap, cI, cB, cU, w32_id]; omega)
      | (intro _; simp only [cI, cB, cU]; grind [qw_ap, w32])


set_option maxHeartbeats 400000 in
set_option maxRecDepth 20000 in
theorem op_fault {M : qm} {x1 x2 : Int} (b2 : x2 = 0 ∨ x2 = 1) (c1 : -2147483648 ≤ x1 ∧ x1 ≤ 2147483647) (c2 : -2147483648 ≤ x2 ∧ x2 ≤ 2147483647) (h_built : R_built M M) (h_mpoints : R_mpoints M M) (h_mfault : R_mfault M M) : oK cB (qf_L_fault 20000 x1 x2 M) (qf_X18_fault 20000 x1 x2) (fun M' => R_mfault M' M') := by
  have s_built := h_built
  unfold R_built at s_built
  have s_mpoints := h_mpoints
  unfold R_mpoints at s_mpoints
  have w1 : w32 (M 1172 2 0 - 1) = M 1172 2 0 - 1 := w32_id (by omega) (by omega)
  by_cases hx : 0 ≤ x1 ∧ x1 < 50
  · have q0 := h_mfault x1 hx.1 hx.2
    unfold oK
    unfold qf_L_fault qf_L_fault_J16 qf_X11_fault qf_X18_fault
    repeat' first
      | (refine qW_no ?_; omega)
      | (with_reducible refine qW_bnd ?_; try simp only [qw_ap, qfl1_ap, qfl2_ap, qcp1_ap, qcp2_ap, false_and, true_and, and_true, and_false, and_self, if_false, if_true, reduceIte, Nat.reduceEqDiff])
      | with_reducible refine qW_within (fun _ => ?_) (fun _ _ => ?_)
      | with_reducible refine qW_isIn (fun _ => ?_) (fun _ _ => ?_)
      | with_reducible refine qW_na (fun _ => ?_) (fun _ => ?_)
      | with_reducible refine qW_ns (fun _ => ?_) (fun _ => ?_)
      | (with_reducible refine qW_goes (fun _ => ?_) (fun _ _ => ?_) (fun _ _ => ?_) <;> (try dsimp only) <;> (try simp only [qw_ap, qfl1_ap, qfl2_ap, qcp1_ap, qcp2_ap, false_and, true_and, and_true, and_false, and_self, if_false, if_true, reduceIte, Nat.reduceEqDiff]))
      | (with_reducible refine qW_stays (by omega) (fun _ => ?_) (fun _ => ?_) <;> (try dsimp only) <;> (try simp only [qw_ap, qfl1_ap, qfl2_ap, qcp1_ap, qcp2_ap, false_and, true_and, and_true, and_false, and_self, if_false, if_true, reduceIte, Nat.reduceEqDiff]))
      | (exfalso; omega)
      | with_reducible refine qW_bind ?_
      | (with_reducible refine qW_some ?_; (try dsimp only); try simp only [qw_ap, qfl1_ap, qfl2_ap, qcp1_ap, qcp2_ap, false_and, true_and, and_true, and_false, and_self, if_false, if_true, reduceIte, Nat.reduceEqDiff])
      | with_reducible refine qW_pos rfl ?_
      | (refine qW_pos (by omega) ?_)
      | (refine qW_neg (by first | omega | decide) ?_)
      | with_reducible refine qW_ite (fun _ => ?_) (fun _ => ?_)
      | dsimp only
    all_goals (repeat' with_reducible refine And.intro ?_ ?_)
    all_goals first
      | rfl
      | exact R_mfault_x (fun _ _ => rfl) (fun _ _ => rfl) h_mfault
      | (unfold R_mfault; unfold R_mfault at h_mfault; grind [qw_ap])
      | (simp [qw_ap, cI, cB, cU]; done)
      | (intro _; simp (disch := omega) [qw_ap, cI, cB, cU, w32_id]; omega)
      | (intro _; simp only [cI, cB, cU]; grind [qw_ap, w32])

  · unfold oK
    unfold qf_L_fault qf_L_fault_J16 qf_X11_fault qf_X18_fault
    repeat' first
      | (refine qW_no ?_; omega)
      | (with_reducible refine qW_bnd ?_; try simp only [qw_ap, qfl1_ap, qfl2_ap, qcp1_ap, qcp2_ap, false_and, true_and, and_true, and_false, and_self, if_false, if_true, reduceIte, Nat.reduceEqDiff])
      | with_reducible refine qW_within (fun _ => ?_) (fun _ _ => ?_)
      | with_reducible refine qW_isIn (fun _ => ?_) (fun _ _ => ?_)
      | with_reducible refine qW_na (fun _ => ?_) (fun _ => ?_)
      | with_reducible refine qW_ns (fun _ => ?_) (fun _ => ?_)
      | (with_reducible refine qW_goes (fun _ => ?_) (fun _ _ => ?_) (fun _ _ => ?_) <;> (try dsimp only) <;> (try simp only [qw_ap, qfl1_ap, qfl2_ap, qcp1_ap, qcp2_ap, false_and, true_and, and_true, and_false, and_self, if_false, if_true, reduceIte, Nat.reduceEqDiff]))
      | (with_reducible refine qW_stays (by omega) (fun _ => ?_) (fun _ => ?_) <;> (try dsimp only) <;> (try simp only [qw_ap, qfl1_ap, qfl2_ap, qcp1_ap, qcp2_ap, false_and, true_and, and_true, and_false, and_self, if_false, if_true, reduceIte, Nat.reduceEqDiff]))
      | (exfalso; omega)
      | with_reducible refine qW_bind ?_
      | (with_reducible refine qW_some ?_; (try dsimp only); try simp only [qw_ap, qfl1_ap, qfl2_ap, qcp1_ap, qcp2_ap, false_and, true_and, and_true, and_false, and_self, if_false, if_true, reduceIte, Nat.reduceEqDiff])
      | with_reducible refine qW_pos rfl ?_
      | (refine qW_pos (by omega) ?_)
      | (refine qW_neg (by first | omega | decide) ?_)
      | with_reducible refine qW_ite (fun _ => ?_) (fun _ => ?_)
      | dsimp only
    all_goals (repeat' with_reducible refine And.intro ?_ ?_)
    all_goals first
      | rfl
      | exact R_mfault_x (fun _ _ => rfl) (fun _ _ => rfl) h_mfault
      | (unfold R_mfault; unfold R_mfault at h_mfault; grind [qw_ap])
      | (simp [qw_ap, cI, cB, cU]; done)
      | (intro _; simp (disch := omega) [qw_ap, cI, cB, cU, w32_id]; omega)
      | (intro _; simp only [cI, cB, cU]; grind [qw_ap, w32])

