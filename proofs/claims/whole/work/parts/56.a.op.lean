set_option maxHeartbeats 400000 in
set_option maxRecDepth 20000 in
theorem op_safe {M K : qm} {x1 x2 : Int} (c1 : -2147483648 ≤ x1 ∧ x1 ≤ 2147483647) (c2 : -2147483648 ≤ x2 ∧ x2 ≤ 2147483647) (h_built : R_built M K) (h_blocks : R_blocks M K) (h_safe : R_safe M K) : oK2 cI (qf_L_safe 20000 x1 x2 M) (qf_X18_safe 20000 x1 x2 K) (fun M' K' => R_safe M' K') := by
  have s_built := h_built
  unfold R_built at s_built
  have s_blocks := h_blocks
  unfold R_blocks at s_blocks
  have w1 : w32 (M 1003 0 0 - 1) = M 1003 0 0 - 1 := w32_id (by omega) (by omega)
  by_cases hx : 0 ≤ x1 ∧ x1 < 40
  · have q0 := h_safe x1 hx.1 hx.2
    unfold oK2
    unfold qf_L_safe qf_X11_safe qf_X11_isBlock qf_X18_safe
    repeat' first
      | with_reducible refine qW_within (fun _ => ?_) (fun _ _ => ?_)
      | with_reducible refine qW_isIn (fun _ => ?_) (fun _ _ => ?_)
      | with_reducible refine qW_na (fun _ => ?_) (fun _ => ?_)
      | with_reducible refine qW_ns (fun _ => ?_) (fun _ => ?_)
      | (with_reducible refine qW_goes (fun _ => ?_) (fun _ _ => ?_) (fun _ _ => ?_) <;> (try dsimp only) <;> (try simp only [qw_ap, qfl1_ap, qfl2_ap, qcp1_ap, qcp2_ap, false_and, true_and, and_true, and_false, and_self, if_false, if_true, reduceIte, Nat.reduceEqDiff, Int.reduceEq, Int.reduceNeg]))
      | (with_reducible refine qW_stays (by omega) (fun _ => ?_) (fun _ => ?_) <;> (try dsimp only) <;> (try simp only [qw_ap, qfl1_ap, qfl2_ap, qcp1_ap, qcp2_ap, false_and, true_and, and_true, and_false, and_self, if_false, if_true, reduceIte, Nat.reduceEqDiff, Int.reduceEq, Int.reduceNeg]))
      | (exfalso; omega)
      | with_reducible refine qW_bind ?_
      | (with_reducible refine qW_bnd ?_; try simp only [qw_ap, qfl1_ap, qfl2_ap, qcp1_ap, qcp2_ap, false_and, true_and, and_true, and_false, and_self, if_false, if_true, reduceIte, Nat.reduceEqDiff, Int.reduceEq, Int.reduceNeg])
      | (with_reducible refine qW_some ?_; (try dsimp only); try simp only [qw_ap, qfl1_ap, qfl2_ap, qcp1_ap, qcp2_ap, false_and, true_and, and_true, and_false, and_self, if_false, if_true, reduceIte, Nat.reduceEqDiff, Int.reduceEq, Int.reduceNeg])
      | ((with_reducible refine qW_no ?_); omega)
      | with_reducible refine qW_pos rfl ?_
      | ((with_reducible refine qW_pos ?_ ?_); omega)
      | ((with_reducible refine qW_neg ?_ ?_); (first | omega | decide))
      | with_reducible refine qW_ite (fun _ => ?_) (fun _ => ?_)
      | dsimp only
    all_goals (repeat' with_reducible refine And.intro ?_ ?_)
    all_goals first
      | rfl
      | trivial
      | exact R_safe_x (M := M) (K := K) (fun _ _ => rfl) (fun _ _ => rfl) h_safe
      | (unfold R_safe; unfold R_safe at h_safe; grind [qw_ap])
      | (intro hz; exact absurd hz (by decide))
      | (simp [qw_ap, cI, cB, cU]; done)
      | (intro _; simp (disch := omega) [qw_ap, cI, cB, cU, w32_id]; omega)
      | (intro _; simp only [cI, cB, cU]; grind [qw_ap, w32])

  · unfold oK2
    unfold qf_L_safe qf_X11_safe qf_X11_isBlock qf_X18_safe
    repeat' first
      | with_reducible refine qW_within (fun _ => ?_) (fun _ _ => ?_)
      | with_reducible refine qW_isIn (fun _ => ?_) (fun _ _ => ?_)
      | with_reducible refine qW_na (fun _ => ?_) (fun _ => ?_)
      | with_reducible refine qW_ns (fun _ => ?_) (fun _ => ?_)
      | (with_reducible refine qW_goes (fun _ => ?_) (fun _ _ => ?_) (fun _ _ => ?_) <;> (try dsimp only) <;> (try simp only [qw_ap, qfl1_ap, qfl2_ap, qcp1_ap, qcp2_ap, false_and, true_and, and_true, and_false, and_self, if_false, if_true, reduceIte, Nat.reduceEqDiff, Int.reduceEq, Int.reduceNeg]))
      | (with_reducible refine qW_stays (by omega) (fun _ => ?_) (fun _ => ?_) <;> (try dsimp only) <;> (try simp only [qw_ap, qfl1_ap, qfl2_ap, qcp1_ap, qcp2_ap, false_and, true_and, and_true, and_false, and_self, if_false, if_true, reduceIte, Nat.reduceEqDiff, Int.reduceEq, Int.reduceNeg]))
      | (exfalso; omega)
      | with_reducible refine qW_bind ?_
      | (with_reducible refine qW_bnd ?_; try simp only [qw_ap, qfl1_ap, qfl2_ap, qcp1_ap, qcp2_ap, false_and, true_and, and_true, and_false, and_self, if_false, if_true, reduceIte, Nat.reduceEqDiff, Int.reduceEq, Int.reduceNeg])
      | (with_reducible refine qW_some ?_; (try dsimp only); try simp only [qw_ap, qfl1_ap, qfl2_ap, qcp1_ap, qcp2_ap, false_and, true_and, and_true, and_false, and_self, if_false, if_true, reduceIte, Nat.reduceEqDiff, Int.reduceEq, Int.reduceNeg])
      | ((with_reducible refine qW_no ?_); omega)
      | with_reducible refine qW_pos rfl ?_
      | ((with_reducible refine qW_pos ?_ ?_); omega)
      | ((with_reducible refine qW_neg ?_ ?_); (first | omega | decide))
      | with_reducible refine qW_ite (fun _ => ?_) (fun _ => ?_)
      | dsimp only
    all_goals (repeat' with_reducible refine And.intro ?_ ?_)
    all_goals first
      | rfl
      | trivial
      | exact R_safe_x (M := M) (K := K) (fun _ _ => rfl) (fun _ _ => rfl) h_safe
      | (unfold R_safe; unfold R_safe at h_safe; grind [qw_ap])
      | (intro hz; exact absurd hz (by decide))
      | (simp [qw_ap, cI, cB, cU]; done)
      | (intro _; simp (disch := omega) [qw_ap, cI, cB, cU, w32_id]; omega)
      | (intro _; simp only [cI, cB, cU]; grind [qw_ap, w32])


set_option maxHeartbeats 400000 in
set_option maxRecDepth 20000 in
theorem op_pointAt {M K : qm} {x1 : Int} (c1 : -2147483648 ≤ x1 ∧ x1 ≤ 2147483647) (h_built : R_built M K) (h_points : R_points M K) : oK2 cI (qf_L_pointAt 20000 x1 M) (qf_X18_pointAt 20000 x1 K) (fun M' K' => True) := by
  have s_built := h_built
  unfold R_built at s_built
  by_cases hx : 0 ≤ x1 ∧ x1 < 10
  · have q0 := h_points x1 hx.1 hx.2
    unfold oK2
    unfold qf_L_pointAt qf_X11_pointAt qf_X18_pointAt
    repeat' first
      | with_reducible refine qW_within (fun _ => ?_) (fun _ _ => ?_)
      | with_reducible refine qW_isIn (fun _ => ?_) (fun _ _ => ?_)
      | with_reducible refine qW_na (fun _ => ?_) (fun _ => ?_)
      | with_reducible refine qW_ns (fun _ => ?_) (fun _ => ?_)
      | (with_reducible refine qW_goes (fun _ => ?_) (fun _ _ => ?_) (fun _ _ => ?_) <;> (try dsimp only) <;> (try simp only [qw_ap, qfl1_ap, qfl2_ap, qcp1_ap, qcp2_ap, false_and, true_and, and_true, and_false, and_self, if_false, if_true, reduceIte, Nat.reduceEqDiff, Int.reduceEq, Int.reduceNeg]))
      | (with_reducible refine qW_stays (by omega) (fun _ => ?_) (fun _ => ?_) <;> (try dsimp only) <;> (try simp only [qw_ap, qfl1_ap, qfl2_ap, qcp1_ap, qcp2_ap, false_and, true_and, and_true, and_false, and_self, if_false, if_true, reduceIte, Nat.reduceEqDiff, Int.reduceEq, Int.reduceNeg]))
      | (exfalso; omega)
      | with_reducible refine qW_bind ?_
      | (with_reducible refine qW_bnd ?_; try simp only [qw_ap, qfl1_ap, qfl2_ap, qcp1_ap, qcp2_ap, false_and, true_and, and_true, and_false, and_self, if_false, if_true, reduceIte, Nat.reduceEqDiff, Int.reduceEq, Int.reduceNeg])
      | (with_reducible refine qW_some ?_; (try dsimp only); try simp only [qw_ap, qfl1_ap, qfl2_ap, qcp1_ap, qcp2_ap, false_and, true_and, and_true, and_false, and_self, if_false, if_true, reduceIte, Nat.reduceEqDiff, Int.reduceEq, Int.reduceNeg])
      | ((with_reducible refine qW_no ?_); omega)
      | with_reducible refine qW_pos rfl ?_
      | ((with_reducible refine qW_pos ?_ ?_); omega)
      | ((with_reducible refine qW_neg ?_ ?_); (first | omega | decide))
      | with_reducible refine qW_ite (fun _ => ?_) (fun _ => ?_)
      | dsimp only
    all_goals (repeat' with_reducible refine And.intro ?_ ?_)
    all_goals first
      | rfl
      | trivial
      | (intro hz; exact absurd hz (by decide))
      | (simp [qw_ap, cI, cB, cU]; done)
      | (intro _; simp (disch := omega) [qw_ap, cI, cB, cU, w32_id]; omega)
      | (intro _; simp only [cI, cB, cU]; grind [qw_ap, w32])

  · unfold oK2
    unfold qf_L_pointAt qf_X11_pointAt qf_X18_pointAt
    repeat' first
      | with_reducible refine qW_within (fun _ => ?_) (fun _ _ => ?_)
      | with_reducible refine qW_isIn (fun _ => ?_) (fun _ _ => ?_)
      | with_reducible refine qW_na (fun _ => ?_) (fun _ => ?_)
      | with_reducible refine qW_ns (fun _ => ?_) (fun _ => ?_)
      | (with_reducible refine qW_goes (fun _ => ?_) (fun _ _ => ?_) (fun _ _ => ?_) <;> (try dsimp only) <;> (try simp only [qw_ap, qfl1_ap, qfl2_ap, qcp1_ap, qcp2_ap, false_and, true_and, and_true, and_false, and_self, if_false, if_true, reduceIte, Nat.reduceEqDiff, Int.reduceEq, Int.reduceNeg]))
      | (with_reducible refine qW_stays (by omega) (fun _ => ?_) (fun _ => ?_) <;> (try dsimp only) <;> (try simp only [qw_ap, qfl1_ap, qfl2_ap, qcp1_ap, qcp2_ap, false_and, true_and, and_true, and_false, and_self, if_false, if_true, reduceIte, Nat.reduceEqDiff, Int.reduceEq, Int.reduceNeg]))
      | (exfalso; omega)
      | with_reducible refine qW_bind ?_
      | (with_reducible refine qW_bnd ?_; try simp only [qw_ap, qfl1_ap, qfl2_ap, qcp1_ap, qcp2_ap, false_and, true_and, and_true, and_false, and_self, if_false, if_true, reduceIte, Nat.reduceEqDiff, Int.reduceEq, Int.reduceNeg])
      | (with_reducible refine qW_some ?_; (try dsimp only); try simp only [qw_ap, qfl1_ap, qfl2_ap, qcp1_ap, qcp2_ap, false_and, true_and, and_true, and_false, and_self, if_false, if_true, reduceIte, Nat.reduceEqDiff, Int.reduceEq, Int.reduceNeg])
      | ((with_reducible refine qW_no ?_); omega)
      | with_reducible refine qW_pos rfl ?_
      | ((with_reducible refine qW_pos ?_ ?_); omega)
      | ((with_reducible refine qW_neg ?_ ?_); (first | omega | decide))
      | with_reducible refine qW_ite (fun _ => ?_) (fun _ => ?_)
      | dsimp only
    all_goals (repeat' with_reducible refine And.intro ?_ ?_)
    all_goals first
      | rfl
      | trivial
      | (intro hz; exact absurd hz (by decide))
      | (simp [qw_ap, cI, cB, cU]; done)
      | (intro _; simp (disch := omega) [qw_ap, cI, cB, cU, w32_id]; omega)
      | (intro _; simp only [cI, cB, cU]; grind [qw_ap, w32])


set_option maxHeartbeats 400000 in
set_option maxRecDepth 20000 in
theorem op_failed {M K : qm} {x1 : Int} (c1 : -2147483648 ≤ x1 ∧ x1 ≤ 2147483647) (h_built : R_built M K) (h_failed : R_failed M K) : oK2 cI (qf_L_failed 20000 x1 M) (qf_X18_failed 20000 x1 K) (fun M' K' => True) := by
  have s_built := h_built
  unfold R_built at s_built
  by_cases hx : 0 ≤ x1 ∧ x1 < 4
  · have q0 := h_failed x1 hx.1 hx.2
    unfold oK2
    unfold qf_L_failed qf_X11_failed qf_X18_failed
    repeat' first
      | with_reducible refine qW_within (fun _ => ?_) (fun _ _ => ?_)
      | with_reducible refine qW_isIn (fun _ => ?_) (fun _ _ => ?_)
      | with_reducible refine qW_na (fun _ => ?_) (fun _ => ?_)
      | with_reducible refine qW_ns (fun _ => ?_) (fun _ => ?_)
      | (with_reducible refine qW_goes (fun _ => ?_) (fun _ _ => ?_) (fun _ _ => ?_) <;> (try dsimp only) <;> (try simp only [qw_ap, qfl1_ap, qfl2_ap, qcp1_ap, qcp2_ap, false_and, true_and, and_true, and_false, and_self, if_false, if_true, reduceIte, Nat.reduceEqDiff, Int.reduceEq, Int.reduceNeg]))
      | (with_reducible refine qW_stays (by omega) (fun _ => ?_) (fun _ => ?_) <;> (try dsimp only) <;> (try simp only [qw_ap, qfl1_ap, qfl2_ap, qcp1_ap, qcp2_ap, false_and, true_and, and_true, and_false, and_self, if_false, if_true, reduceIte, Nat.reduceEqDiff, Int.reduceEq, Int.reduceNeg]))
      | (exfalso; omega)
      | with_reducible refine qW_bind ?_
      | (with_reducible refine qW_bnd ?_; try simp only [qw_ap, qfl1_ap, qfl2_ap, qcp1_ap, qcp2_ap, false_and, true_and, and_true, and_false, and_self, if_false, if_true, reduceIte, Nat.reduceEqDiff, Int.reduceEq, Int.reduceNeg])
      | (with_reducible refine qW_some ?_; (try dsimp only); try simp only [qw_ap, qfl1_ap, qfl2_ap, qcp1_ap, qcp2_ap, false_and, true_and, and_true, and_false, and_self, if_false, if_true, reduceIte, Nat.reduceEqDiff, Int.reduceEq, Int.reduceNeg])
      | ((with_reducible refine qW_no ?_); omega)
      | with_reducible refine qW_pos rfl ?_
      | ((with_reducible refine qW_pos ?_ ?_); omega)
      | ((with_reducible refine qW_neg ?_ ?_); (first | omega | decide))
      | with_reducible refine qW_ite (fun _ => ?_) (fun _ => ?_)
      | dsimp only
    all_goals (repeat' with_reducible refine And.intro ?_ ?_)
    all_goals first
      | rfl
      | trivial
      | (intro hz; exact absurd hz (by decide))
      | (simp [qw_ap, cI, cB, cU]; done)
      | (intro _; simp (disch := omega) [qw_ap, cI, cB, cU, w32_id]; omega)
      | (intro _; simp only [cI, cB, cU]; grind [qw_ap, w32])

  · unfold oK2
    unfold qf_L_failed qf_X11_failed qf_X18_failed
    repeat' first
      | with_reducible refine qW_within (fun _ => ?_) (fun _ _ => ?_)
      | with_reducible refine qW_isIn (fun _ => ?_) (fun _ _ => ?_)
      | with_reducible refine qW_na (fun _ => ?_) (fun _ => ?_)
      | with_reducible refine qW_ns (fun _ => ?_) (fun _ => ?_)
      | (with_reducible refine qW_goes (fun _ => ?_) (fun _ _ => ?_) (fun _ _ => ?_) <;> (try dsimp only) <;> (try simp only [qw_ap, qfl1_ap, qfl2_ap, qcp1_ap, qcp2_ap, false_and, true_and, and_true, and_false, and_self, if_false, if_true, reduceIte, Nat.reduceEqDiff, Int.reduceEq, Int.reduceNeg]))
      | (with_reducible refine qW_stays (by omega) (fun _ => ?_) (fun _ => ?_) <;> (try dsimp only) <;> (try simp only [qw_ap, qfl1_ap, qfl2_ap, qcp1_ap, qcp2_ap, false_and, true_and, and_true, and_false, and_self, if_false, if_true, reduceIte, Nat.reduceEqDiff, Int.reduceEq, Int.reduceNeg]))
      | (exfalso; omega)
      | with_reducible refine qW_bind ?_
      | (with_reducible refine qW_bnd ?_; try simp only [qw_ap, qfl1_ap, qfl2_ap, qcp1_ap, qcp2_ap, false_and, true_and, and_true, and_false, and_self, if_false, if_true, reduceIte, Nat.reduceEqDiff, Int.reduceEq, Int.reduceNeg])
      | (with_reducible refine qW_some ?_; (try dsimp only); try simp only [qw_ap, qfl1_ap, qfl2_ap, qcp1_ap, qcp2_ap, false_and, true_and, and_true, and_false, and_self, if_false, if_true, reduceIte, Nat.reduceEqDiff, Int.reduceEq, Int.reduceNeg])
      | ((with_reducible refine qW_no ?_); omega)
      | with_reducible refine qW_pos rfl ?_
      | ((with_reducible refine qW_pos ?_ ?_); omega)
      | ((with_reducible refine qW_neg ?_ ?_); (first | omega | decide))
      | with_reducible refine qW_ite (fun _ => ?_) (fun _ => ?_)
      | dsimp only
    all_goals (repeat' with_reducible refine And.intro ?_ ?_)
    all_goals first
      | rfl
      | trivial
      | (intro hz; exact absurd hz (by decide))
      | (simp [qw_ap, cI, cB, cU]; done)
      | (intro _; simp (disch := omega) [qw_ap, cI, cB, cU, w32_id]; omega)
      | (intro _; simp only [cI, cB, cU]; grind [qw_ap, w32])


set_option maxHeartbeats 400000 in
set_option maxRecDepth 20000 in
theorem op_point {M K : qm} {x1 x2 : Int} (c1 : -2147483648 ≤ x1 ∧ x1 ≤ 2147483647) (c2 : -2147483648 ≤ x2 ∧ x2 ≤ 2147483647) (h_built : R_built M K) (h_points : R_points M K) : oK2 cI (qf_L_point 20000 x1 x2 M) (qf_X18_point 20000 x1 x2 K) (fun M' K' => R_points M' K') := by
  have s_built := h_built
  unfold R_built at s_built
  by_cases hx : 0 ≤ x1 ∧ x1 < 10
  · have q0 := h_points x1 hx.1 hx.2
    unfold oK2
    unfold qf_L_point qf_X11_point qf_X18_point qf_X18_point_J16 qf_X18_point_J17
    repeat' first
      | with_reducible refine qW_within (fun _ => ?_) (fun _ _ => ?_)
      | with_reducible refine qW_isIn (fun _ => ?_) (fun _ _ => ?_)
      | with_reducible refine qW_na (fun _ => ?_) (fun _ => ?_)
      | with_reducible refine qW_ns (fun _ => ?_) (fun _ => ?_)
      | (with_reducible refine qW_goes (fun _ => ?_) (fun _ _ => ?_) (fun _ _ => ?_) <;> (try dsimp only) <;> (try simp only [qw_ap, qfl1_ap, qfl2_ap, qcp1_ap, qcp2_ap, false_and, true_and, and_true, and_false, and_self, if_false, if_true, reduceIte, Nat.reduceEqDiff, Int.reduceEq, Int.reduceNeg]))
      | (with_reducible refine qW_stays (by omega) (fun _ => ?_) (fun _ => ?_) <;> (try dsimp only) <;> (try simp only [qw_ap, qfl1_ap, qfl2_ap, qcp1_ap, qcp2_ap, false_and, true_and, and_true, and_false, and_self, if_false, if_true, reduceIte, Nat.reduceEqDiff, Int.reduceEq, Int.reduceNeg]))
      | (exfalso; omega)
      | with_reducible refine qW_bind ?_
      | (with_reducible refine qW_bnd ?_; try simp only [qw_ap, qfl1_ap, qfl2_ap, qcp1_ap, qcp2_ap, false_and, true_and, and_true, and_false, and_self, if_false, if_true, reduceIte, Nat.reduceEqDiff, Int.reduceEq, Int.reduceNeg])
      | (with_reducible refine qW_some ?_; (try dsimp only); try simp only [qw_ap, qfl1_ap, qfl2_ap, qcp1_ap, qcp2_ap, false_and, true_and, and_true, and_false, and_self, if_false, if_true, reduceIte, Nat.reduceEqDiff, Int.reduceEq, Int.reduceNeg])
      | ((with_reducible refine qW_no ?_); omega)
      | with_reducible refine qW_pos rfl ?_
      | ((with_reducible refine qW_pos ?_ ?_); omega)
      | ((with_reducible refine qW_neg ?_ ?_); (first | omega | decide))
      | with_reducible refine qW_ite (fun _ => ?_) (fun _ => ?_)
      | dsimp only
    all_goals (repeat' with_reducible refine And.intro ?_ ?_)
    all_goals first
      | rfl
      | trivial
      | exact R_points_x (M := M) (K := K) (fun _ _ => rfl) (fun _ _ => rfl) h_points
      | (unfold R_points; unfold R_points at h_points; grind [qw_ap])
      | (intro hz; exact absurd hz (by decide))
      | (simp [qw_ap, cI, cB, cU]; done)
      | (intro _; simp (disch := omega) [qw_ap, cI, cB, cU, w32_id]; omega)
      | (intro _; simp only [cI, cB, cU]; grind [qw_ap, w32])

  · unfold oK2
    unfold qf_L_point qf_X11_point qf_X18_point qf_X18_point_J16 qf_X18_point_J17
    repeat' first
      | with_reducible refine qW_within (fun _ => ?_) (fun _ _ => ?_)
      | with_reducible refine qW_isIn (fun _ => ?_) (fun _ _ => ?_)
      | with_reducible refine qW_na (fun _ => ?_) (fun _ => ?_)
      | with_reducible refine qW_ns (fun _ => ?_) (fun _ => ?_)
      | (with_reducible refine qW_goes (fun _ => ?_) (fun _ _ => ?_) (fun _ _ => ?_) <;> (try dsimp only) <;> (try simp only [qw_ap, qfl1_ap, qfl2_ap, qcp1_ap, qcp2_ap, false_and, true_and, and_true, and_false, and_self, if_false, if_true, reduceIte, Nat.reduceEqDiff, Int.reduceEq, Int.reduceNeg]))
      | (with_reducible refine qW_stays (by omega) (fun _ => ?_) (fun _ => ?_) <;> (try dsimp only) <;> (try simp only [qw_ap, qfl1_ap, qfl2_ap, qcp1_ap, qcp2_ap, false_and, true_and, and_true, and_false, and_self, if_false, if_true, reduceIte, Nat.reduceEqDiff, Int.reduceEq, Int.reduceNeg]))
      | (exfalso; omega)
      | with_reducible refine qW_bind ?_
      | (with_reducible refine qW_bnd ?_; try simp only [qw_ap, qfl1_ap, qfl2_ap, qcp1_ap, qcp2_ap, false_and, true_and, and_true, and_false, and_self, if_false, if_true, reduceIte, Nat.reduceEqDiff, Int.reduceEq, Int.reduceNeg])
      | (with_reducible refine qW_some ?_; (try dsimp only); try simp only [qw_ap, qfl1_ap, qfl2_ap, qcp1_ap, qcp2_ap, false_and, true_and, and_true, and_false, and_self, if_false, if_true, reduceIte, Nat.reduceEqDiff, Int.reduceEq, Int.reduceNeg])
      | ((with_reducible refine qW_no ?_); omega)
      | with_reducible refine qW_pos rfl ?_
      | ((with_reducible refine qW_pos ?_ ?_); omega)
      | ((with_reducible refine qW_neg ?_ ?_); (first | omega | decide))
      | with_reducible refine qW_ite (fun _ => ?_) (fun _ => ?_)
      | dsimp only
    all_goals (repeat' with_reducible refine And.intro ?_ ?_)
    all_goals first
      | rfl
      | trivial
      | exact R_points_x (M := M) (K := K) (fun _ _ => rfl) (fun _ _ => rfl) h_points
      | (unfold R_points; unfold R_points at h_points; grind [qw_ap])
      | (intro hz; exact absurd hz (by decide))
      | (simp [qw_ap, cI, cB, cU]; done)
      | (intro _; simp (disch := omega) [qw_ap, cI, cB, cU, w32_id]; omega)
      | (intro _; simp only [cI, cB, cU]; grind [qw_ap, w32])


set_option maxHeartbeats 400000 in
set_option maxRecDepth 20000 in
theorem op_numbers {M K : qm} {x1 x2 x3 : Int} (c1 : -2147483648 ≤ x1 ∧ x1 ≤ 2147483647) (c2 : -2147483648 ≤ x2 ∧ x2 ≤ 2147483647) (c3 : -2147483648 ≤ x3 ∧ x3 ≤ 2147483647) (h_built : R_built M K) (h_blocks : R_blocks M K) (h_pq : R_pq M K) : oK2 cU (qf_L_numbers 20000 x1 x2 x3 M) (qf_X18_numbers 20000 x1 x2 x3 K) (fun M' K' => R_pq M' K') := by
  have s_built := h_built
  unfold R_built at s_built
  have s_blocks := h_blocks
  unfold R_blocks at s_blocks
  have w1 : w32 (M 1003 0 0 - 1) = M 1003 0 0 - 1 := w32_id (by omega) (by omega)
  unfold oK2
  unfold qf_L_numbers qf_X11_numbers qf_X11_isBlock qf_X18_numbers
  repeat' first
    | with_reducible refine qW_within (fun _ => ?_) (fun _ _ => ?_)
    | with_reducible refine qW_isIn (fun _ => ?_) (fun _ _ => ?_)
    | with_reducible refine qW_na (fun _ => ?_) (fun _ => ?_)
    | with_reducible refine qW_ns (fun _ => ?_) (fun _ => ?_)
    | (with_reducible refine qW_goes (fun _ => ?_) (fun _ _ => ?_) (fun _ _ => ?_) <;> (try dsimp only) <;> (try simp only [qw_ap, qfl1_ap, qfl2_ap, qcp1_ap, qcp2_ap, false_and, true_and, and_true, and_false, and_self, if_false, if_true, reduceIte, Nat.reduceEqDiff, Int.reduceEq, Int.reduceNeg]))
    | (with_reducible refine qW_stays (by omega) (fun _ => ?_) (fun _ => ?_) <;> (try dsimp only) <;> (try simp only [qw_ap, qfl1_ap, qfl2_ap, qcp1_ap, qcp2_ap, false_and, true_and, and_true, and_false, and_self, if_false, if_true, reduceIte, Nat.reduceEqDiff, Int.reduceEq, Int.reduceNeg]))
    | (exfalso; omega)
    | with_reducible refine qW_bind ?_
    | (with_reducible refine qW_bnd ?_; try simp only [qw_ap, qfl1_ap, qfl2_ap, qcp1_ap, qcp2_ap, false_and, true_and, and_true, and_false, and_self, if_false, if_true, reduceIte, Nat.reduceEqDiff, Int.reduceEq, Int.reduceNeg])
    | (with_reducible refine qW_some ?_; (try dsimp only); try simp only [qw_ap, qfl1_ap, qfl2_ap, qcp1_ap, qcp2_ap, false_and, true_and, and_true, and_false, and_self, if_false, if_true, reduceIte, Nat.reduceEqDiff, Int.reduceEq, Int.reduceNeg])
    | ((with_reducible refine qW_no ?_); omega)
    | with_reducible refine qW_pos rfl ?_
    | ((with_reducible refine qW_pos ?_ ?_); omega)
    | ((with_reducible refine qW_neg ?_ ?_); (first | omega | decide))
    | with_reducible refine qW_ite (fun _ => ?_) (fun _ => ?_)
    | dsimp only
  all_goals (repeat' with_reducible refine And.intro ?_ ?_)
  all_goals first
    | rfl
    | trivial
    | exact R_pq_x (M := M) (K := K) (fun _ _ => rfl) (fun _ _ => rfl) (fun _ _ => rfl) (fun _ _ => rfl) h_pq
    | (unfold R_pq; unfold R_pq at h_pq; grind [qw_ap])
    | (intro hz; exact absurd hz (by decide))
    | (simp [qw_ap, cI, cB, cU]; done)
    | (intro _; simp (disch := omega) [qw_ap, cI, cB, cU, w32_id]; omega)
    | (intro _; simp only [cI, cB, cU]; grind [qw_ap, w32])

set_option maxHeartbeats 400000 in
set_option maxRecDepth 20000 in
theorem op_hand {M K : qm} {x1 x2 x3 : Int} (b2 : x2 = 0 ∨ x2 = 1) (c1 : -2147483648 ≤ x1 ∧ x1 ≤ 2147483647) (c2 : -2147483648 ≤ x2 ∧ x2 ≤ 2147483647) (c3 : -2147483648 ≤ x3 ∧ x3 ≤ 2147483647) (h_built : R_built M K) (h_blocks : R_blocks M K) (h_hand : R_hand M K) : oK2 cB (qf_L_hand 20000 x1 x2 x3 M) (qf_X18_hand 20000 x1 x2 x3 K) (fun M' K' => R_hand M' K') := by
  have s_built := h_built
  unfold R_built at s_built
  have s_blocks := h_blocks
  unfold R_blocks at s_blocks
  have w1 : w32 (M 1003 0 0 - 1) = M 1003 0 0 - 1 := w32_id (by omega) (by omega)
  by_cases hx : 0 ≤ x1 ∧ x1 < 40
  · have q0 := h_hand x1 hx.1 hx.2
    unfold oK2
    unfold qf_L_hand qf_L_hand_J18 qf_X11_hand qf_X11_isBlock qf_X18_hand
    repeat' first
      | with_reducible refine qW_within (fun _ => ?_) (fun _ _ => ?_)
      | with_reducible refine qW_isIn (fun _ => ?_) (fun _ _ => ?_)
      | with_reducible refine qW_na (fun _ => ?_) (fun _ => ?_)
      | with_reducible refine qW_ns (fun _ => ?_) (fun _ => ?_)
      | (with_reducible refine qW_goes (fun _ => ?_) (fun _ _ => ?_) (fun _ _ => ?_) <;> (try dsimp only) <;> (try simp only [qw_ap, qfl1_ap, qfl2_ap, qcp1_ap, qcp2_ap, false_and, true_and, and_true, and_false, and_self, if_false, if_true, reduceIte, Nat.reduceEqDiff, Int.reduceEq, Int.reduceNeg]))
      | (with_reducible refine qW_stays (by omega) (fun _ => ?_) (fun _ => ?_) <;> (try dsimp only) <;> (try simp only [qw_ap, qfl1_ap, qfl2_ap, qcp1_ap, qcp2_ap, false_and, true_and, and_true, and_false, and_self, if_false, if_true, reduceIte, Nat.reduceEqDiff, Int.reduceEq, Int.reduceNeg]))
      | (exfalso; omega)
      | with_reducible refine qW_bind ?_
      | (with_reducible refine qW_bnd ?_; try simp only [qw_ap, qfl1_ap, qfl2_ap, qcp1_ap, qcp2_ap, false_and, true_and, and_true, and_false, and_self, if_false, if_true, reduceIte, Nat.reduceEqDiff, Int.reduceEq, Int.reduceNeg])
      | (with_reducible refine qW_some ?_; (try dsimp only); try simp only [qw_ap, qfl1_ap, qfl2_ap, qcp1_ap, qcp2_ap, false_and, true_and, and_true, and_false, and_self, if_false, if_true, reduceIte, Nat.reduceEqDiff, Int.reduceEq, Int.reduceNeg])
      | ((with_reducible refine qW_no ?_); omega)
      | with_reducible refine qW_pos rfl ?_
      | ((with_reducible refine qW_pos ?_ ?_); omega)
      | ((with_reducible refine qW_neg ?_ ?_); (first | omega | decide))
      | with_reducible refine qW_ite (fun _ => ?_) (fun _ => ?_)
      | dsimp only
    all_goals (repeat' with_reducible refine And.intro ?_ ?_)
    all_goals first
      | rfl
      | trivial
      | exact R_hand_x (M := M) (K := K) (fun _ _ => rfl) (fun _ _ => rfl) (fun _ _ => rfl) (fun _ _ => rfl) h_hand
      | (unfold R_hand; unfold R_hand at h_hand; grind [qw_ap])
      | (intro hz; exact absurd hz (by decide))
      | (simp [qw_ap, cI, cB, cU]; done)
      | (intro _; simp (disch := omega) [qw_ap, cI, cB, cU, w32_id]; omega)
      | (intro _; simp only [cI, cB, cU]; grind [qw_ap, w32])

  · unfold oK2
    unfold qf_L_hand qf_L_hand_J18 qf_X11_hand qf_X11_isBlock qf_X18_hand
    repeat' first
      | with_reducible refine qW_within (fun _ => ?_) (fun _ _ => ?_)
      | with_reducible refine qW_isIn (fun _ => ?_) (fun _ _ => ?_)
      | with_reducible refine qW_na (fun _ => ?_) (fun _ => ?_)
      | with_reducible refine qW_ns (fun _ => ?_) (fun _ => ?_)
      | (with_reducible refine qW_goes (fun _ => ?_) (fun _ _ => ?_) (fun _ _ => ?_) <;> (try dsimp only) <;> (try simp only [qw_ap, qfl1_ap, qfl2_ap, qcp1_ap, qcp2_ap, false_and, true_and, and_true, and_false, and_self, if_false, if_true, reduceIte, Nat.reduceEqDiff, Int.reduceEq, Int.reduceNeg]))
      | (with_reducible refine qW_stays (by omega) (fun _ => ?_) (fun _ => ?_) <;> (try dsimp only) <;> (try simp only [qw_ap, qfl1_ap, qfl2_ap, qcp1_ap, qcp2_ap, false_and, true_and, and_true, and_false, and_self, if_false, if_true, reduceIte, Nat.reduceEqDiff, Int.reduceEq, Int.reduceNeg]))
      | (exfalso; omega)
      | with_reducible refine qW_bind ?_
      | (with_reducible refine qW_bnd ?_; try simp only [qw_ap, qfl1_ap, qfl2_ap, qcp1_ap, qcp2_ap, false_and, true_and, and_true, and_false, and_self, if_false, if_true, reduceIte, Nat.reduceEqDiff, Int.reduceEq, Int.reduceNeg])
      | (with_reducible refine qW_some ?_; (try dsimp only); try simp only [qw_ap, qfl1_ap, qfl2_ap, qcp1_ap, qcp2_ap, false_and, true_and, and_true, and_false, and_self, if_false, if_true, reduceIte, Nat.reduceEqDiff, Int.reduceEq, Int.reduceNeg])
      | ((with_reducible refine qW_no ?_); omega)
      | with_reducible refine qW_pos rfl ?_
      | ((with_reducible refine qW_pos ?_ ?_); omega)
      | ((with_reducible refine qW_neg ?_ ?_); (first | omega | decide))
      | with_reducible refine qW_ite (fun _ => ?_) (fun _ => ?_)
      | dsimp only
    all_goals (repeat' with_reducible refine And.intro ?_ ?_)
    all_goals first
      | rfl
      | trivial
      | exact R_hand_x (M := M) (K := K) (fun _ _ => rfl) (fun _ _ => rfl) (fun _ _ => rfl) (fun _ _ => rfl) h_hand
      | (unfold R_hand; unfold R_hand at h_hand; grind [qw_ap])
      | (intro hz; exact absurd hz (by decide))
      | (simp [qw_ap, cI, cB, cU]; done)
      | (intro _; simp (disch := omega) [qw_ap, cI, cB, cU, w32_id]; omega)
      | (intro _; simp only [cI, cB, cU]; grind [qw_ap, w32])


set_option maxHeartbeats 400000 in
set_option maxRecDepth 20000 in
theorem op_bind {M K : qm} {x1 x2 : Int} (c1 : -2147483648 ≤ x1 ∧ x1 ≤ 2147483647) (c2 : -2147483648 ≤ x2 ∧ x2 ≤ 2147483647) (h_built : R_built M K) (h_blocks : R_blocks M K) (h_bound : R_bound M K) : oK2 cI (qf_L_bind 20000 x1 x2 M) (qf_X18_bind 20000 x1 x2 K) (fun M' K' => R_bound M' K') := by
  have s_built := h_built
  unfold R_built at s_built
  have s_blocks := h_blocks
  unfold R_blocks at s_blocks
  have w1 : w32 (M 1003 0 0 - 1) = M 1003 0 0 - 1 := w32_id (by omega) (by omega)
  by_cases hx : 0 ≤ x1 ∧ x1 < M 1003 0 0
  · have q0 := h_bound x1 hx.1 hx.2
    have q1 := (w32_id (x := x2 + 1))
    unfold oK2
    unfold qf_L_bind qf_X11_bind qf_X11_bind_J22 qf_X11_bind_J23 qf_X11_isBlock qf_X18_bind qf_X18_bind_J30 qf_X18_bind_J31
    repeat' first
      | with_reducible refine qW_within (fun _ => ?_) (fun _ _ => ?_)
      | with_reducible refine qW_isIn (fun _ => ?_) (fun _ _ => ?_)
      | with_reducible refine qW_na (fun _ => ?_) (fun _ => ?_)
      | with_reducible refine qW_ns (fun _ => ?_) (fun _ => ?_)
      | (with_reducible refine qW_goes (fun _ => ?_) (fun _ _ => ?_) (fun _ _ => ?_) <;> (try dsimp only) <;> (try simp only [qw_ap, qfl1_ap, qfl2_ap, qcp1_ap, qcp2_ap, false_and, true_and, and_true, and_false, and_self, if_false, if_true, reduceIte, Nat.reduceEqDiff, Int.reduceEq, Int.reduceNeg]))
      | (with_reducible refine qW_stays (by omega) (fun _ => ?_) (fun _ => ?_) <;> (try dsimp only) <;> (try simp only [qw_ap, qfl1_ap, qfl2_ap, qcp1_ap, qcp2_ap, false_and, true_and, and_true, and_false, and_self, if_false, if_true, reduceIte, Nat.reduceEqDiff, Int.reduceEq, Int.reduceNeg]))
      | (exfalso; omega)
      | with_reducible refine qW_bind ?_
      | (with_reducible refine qW_bnd ?_; try simp only [qw_ap, qfl1_ap, qfl2_ap, qcp1_ap, qcp2_ap, false_and, true_and, and_true, and_false, and_self, if_false, if_true, reduceIte, Nat.reduceEqDiff, Int.reduceEq, Int.reduceNeg])
      | (with_reducible refine qW_some ?_; (try dsimp only); try simp only [qw_ap, qfl1_ap, qfl2_ap, qcp1_ap, qcp2_ap, false_and, true_and, and_true, and_false, and_self, if_false, if_true, reduceIte, Nat.reduceEqDiff, Int.reduceEq, Int.reduceNeg])
      | ((with_reducible refine qW_no ?_); omega)
      | with_reducible refine qW_pos rfl ?_
      | ((with_reducible refine qW_pos ?_ ?_); omega)
      | ((with_reducible refine qW_neg ?_ ?_); (first | omega | decide))
      | with_reducible refine qW_ite (fun _ => ?_) (fun _ => ?_)
      | dsimp only
    all_goals (repeat' with_reducible refine And.intro ?_ ?_)
    all_goals first
      | rfl
      | trivial
      | exact R_bound_x (M := M) (K := K) rfl (fun _ _ => rfl) (fun _ _ => rfl) h_bound
      | (unfold R_bound; unfold R_bound at h_bound; grind [qw_ap])
      | (intro hz; exact absurd hz (by decide))
      | (simp [qw_ap, cI, cB, cU]; done)
      | (intro _; simp (disch := omega) [qw_ap, cI, cB, cU, w32_id]; omega)
      | (intro _; simp only [cI, cB, cU]; grind [qw_ap, w32])

  · unfold oK2
    unfold qf_L_bind qf_X11_bind qf_X11_bind_J22 qf_X11_bind_J23 qf_X11_isBlock qf_X18_bind qf_X18_bind_J30 qf_X18_bind_J31
    repeat' first
      | with_reducible refine qW_within (fun _ => ?_) (fun _ _ => ?_)
      | with_reducible refine qW_isIn (fun _ => ?_) (fun _ _ => ?_)
      | with_reducible refine qW_na (fun _ => ?_) (fun _ => ?_)
      | with_reducible refine qW_ns (fun _ => ?_) (fun _ => ?_)
      | (with_reducible refine qW_goes (fun _ => ?_) (fun _ _ => ?_) (fun _ _ => ?_) <;> (try dsimp only) <;> (try simp only [qw_ap, qfl1_ap, qfl2_ap, qcp1_ap, qcp2_ap, false_and, true_and, and_true, and_false, and_self, if_false, if_true, reduceIte, Nat.reduceEqDiff, Int.reduceEq, Int.reduceNeg]))
      | (with_reducible refine qW_stays (by omega) (fun _ => ?_) (fun _ => ?_) <;> (try dsimp only) <;> (try simp only [qw_ap, qfl1_ap, qfl2_ap, qcp1_ap, qcp2_ap, false_and, true_and, and_true, and_false, and_self, if_false, if_true, reduceIte, Nat.reduceEqDiff, Int.reduceEq, Int.reduceNeg]))
      | (exfalso; omega)
      | with_reducible refine qW_bind ?_
      | (with_reducible refine qW_bnd ?_; try simp only [qw_ap, qfl1_ap, qfl2_ap, qcp1_ap, qcp2_ap, false_and, true_and, and_true, and_false, and_self, if_false, if_true, reduceIte, Nat.reduceEqDiff, Int.reduceEq, Int.reduceNeg])
      | (with_reducible refine qW_some ?_; (try dsimp only); try simp only [qw_ap, qfl1_ap, qfl2_ap, qcp1_ap, qcp2_ap, false_and, true_and, and_true, and_false, and_self, if_false, if_true, reduceIte, Nat.reduceEqDiff, Int.reduceEq, Int.reduceNeg])
      | ((with_reducible refine qW_no ?_); omega)
      | with_reducible refine qW_pos rfl ?_
      | ((with_reducible refine qW_pos ?_ ?_); omega)
      | ((with_reducible refine qW_neg ?_ ?_); (first | omega | decide))
      | with_reducible refine qW_ite (fun _ => ?_) (fun _ => ?_)
      | dsimp only
    all_goals (repeat' with_reducible refine And.intro ?_ ?_)
    all_goals first
      | rfl
      | trivial
      | exact R_bound_x (M := M) (K := K) rfl (fun _ _ => rfl) (fun _ _ => rfl) h_bound
      | (unfold R_bound; unfold R_bound at h_bound; grind [qw_ap])
      | (intro hz; exact absurd hz (by decide))
      | (simp [qw_ap, cI, cB, cU]; done)
      | (intro _; simp (disch := omega) [qw_ap, cI, cB, cU, w32_id]; omega)
      | (intro _; simp only [cI, cB, cU]; grind [qw_ap, w32])


set_option maxHeartbeats 400000 in
set_option maxRecDepth 20000 in
theorem op_wire {M K : qm} {x1 x2 x3 : Int} (c1 : -2147483648 ≤ x1 ∧ x1 ≤ 2147483647) (c2 : -2147483648 ≤ x2 ∧ x2 ≤ 2147483647) (c3 : -2147483648 ≤ x3 ∧ x3 ≤ 2147483647) (h_built : R_built M K) (h_blocks : R_blocks M K) (h_wire : R_wire M K) (h_sorted : R_sorted M K) : oK2 cI (qf_L_wire 20000 x1 x2 x3 M) (qf_X18_wire 20000 x1 x2 x3 K) (fun M' K' => R_wire M' K' ∧ R_sorted M' K') := by
  have s_built := h_built
  unfold R_built at s_built
  have s_blocks := h_blocks
  unfold R_blocks at s_blocks
  have w1 : w32 (M 1003 0 0 - 1) = M 1003 0 0 - 1 := w32_id (by omega) (by omega)
  by_cases hx : 0 ≤ x1 ∧ x1 < M 1003 0 0 ∧ 0 ≤ x2 ∧ x2 < 3
  · have q0 := h_wire x1 x2 hx.1 hx.2.1 hx.2.2.1 hx.2.2.2
    have q1 := (w32_id (x := 3 * x1) (by omega) (by omega))
    have q2 := (w32_id (x := 3 * x1 + x2) (by omega) (by omega))
    unfold oK2
    unfold qf_L_wire qf_X11_wire qf_X11_wire_J30 qf_X11_wire_J34 qf_X11_wire_J35 qf_X9_setInput qf_X11_isBlock qf_X18_wire qf_X18_wire_J42 qf_X18_wire_J46 qf_X18_wire_J47
    repeat' first
      | with_reducible refine qW_within (fun _ => ?_) (fun _ _ => ?_)
      | with_reducible refine qW_isIn (fun _ => ?_) (fun _ _ => ?_)
      | with_reducible refine qW_na (fun _ => ?_) (fun _ => ?_)
      | with_reducible refine qW_ns (fun _ => ?_) (fun _ => ?_)
      | (with_reducible refine qW_goes (fun _ => ?_) (fun _ _ => ?_) (fun _ _ => ?_) <;> (try dsimp only) <;> (try simp only [qw_ap, qfl1_ap, qfl2_ap, qcp1_ap, qcp2_ap, false_and, true_and, and_true, and_false, and_self, if_false, if_true, reduceIte, Nat.reduceEqDiff, Int.reduceEq, Int.reduceNeg]))
      | (with_reducible refine qW_stays (by omega) (fun _ => ?_) (fun _ => ?_) <;> (try dsimp only) <;> (try simp only [qw_ap, qfl1_ap, qfl2_ap, qcp1_ap, qcp2_ap, false_and, true_and, and_true, and_false, and_self, if_false, if_true, reduceIte, Nat.reduceEqDiff, Int.reduceEq, Int.reduceNeg]))
      | (exfalso; omega)
      | with_reducible refine qW_bind ?_
      | (with_reducible refine qW_bnd ?_; try simp only [qw_ap, qfl1_ap, qfl2_ap, qcp1_ap, qcp2_ap, false_and, true_and, and_true, and_false, and_self, if_false, if_true, reduceIte, Nat.reduceEqDiff, Int.reduceEq, Int.reduceNeg])
      | (with_reducible refine qW_some ?_; (try dsimp only); try simp only [qw_ap, qfl1_ap, qfl2_ap, qcp1_ap, qcp2_ap, false_and, true_and, and_true, and_false, and_self, if_false, if_true, reduceIte, Nat.reduceEqDiff, Int.reduceEq, Int.reduceNeg])
      | ((with_reducible refine qW_no ?_); omega)
      | with_reducible refine qW_pos rfl ?_
      | ((with_reducible refine qW_pos ?_ ?_); omega)
      | ((with_reducible refine qW_neg ?_ ?_); (first | omega | decide))
      | with_reducible refine qW_ite (fun _ => ?_) (fun _ => ?_)
      | dsimp only
    all_goals (repeat' with_reducible refine And.intro ?_ ?_)
    all_goals first
      | rfl
      | trivial
      | exact R_wire_x (M := M) (K := K) rfl (fun _ _ => rfl) (fun _ _ => rfl) h_wire
      | exact R_sorted_x (M := M) (K := K) rfl rfl rfl (fun _ _ => rfl) (fun _ _ => rfl) (fun _ _ => rfl) (fun _ _ => rfl) h_sorted
      | (unfold R_wire; unfold R_wire at h_wire; grind [qw_ap])
      | (unfold R_sorted; unfold R_sorted at h_sorted; grind [qw_ap])
      | (intro hz; exact absurd hz (by decide))
      | (simp [qw_ap, cI, cB, cU]; done)
      | (intro _; simp (disch := omega) [qw_ap, cI, cB, cU, w32_id]; omega)
      | (intro _; simp only [cI, cB, cU]; grind [qw_ap, w32])

  · unfold oK2
    unfold qf_L_wire qf_X11_wire qf_X11_wire_J30 qf_X11_wire_J34 qf_X11_wire_J35 qf_X9_setInput qf_X11_isBlock qf_X18_wire qf_X18_wire_J42 qf_X18_wire_J46 qf_X18_wire_J47
    repeat' first
      | with_reducible refine qW_within (fun _ => ?_) (fun _ _ => ?_)
      | with_reducible refine qW_isIn (fun _ => ?_) (fun _ _ => ?_)
      | with_reducible refine qW_na (fun _ => ?_) (fun _ => ?_)
      | with_reducible refine qW_ns (fun _ => ?_) (fun _ => ?_)
      | (with_reducible refine qW_goes (fun _ => ?_) (fun _ _ => ?_) (fun _ _ => ?_) <;> (try dsimp only) <;> (try simp only [qw_ap, qfl1_ap, qfl2_ap, qcp1_ap, qcp2_ap, false_and, true_and, and_true, and_false, and_self, if_false, if_true, reduceIte, Nat.reduceEqDiff, Int.reduceEq, Int.reduceNeg]))
      | (with_reducible refine qW_stays (by omega) (fun _ => ?_) (fun _ => ?_) <;> (try dsimp only) <;> (try simp only [qw_ap, qfl1_ap, qfl2_ap, qcp1_ap, qcp2_ap, false_and, true_and, and_true, and_false, and_self, if_false, if_true, reduceIte, Nat.reduceEqDiff, Int.reduceEq, Int.reduceNeg]))
      | (exfalso; omega)
      | with_reducible refine qW_bind ?_
      | (with_reducible refine qW_bnd ?_; try simp only [qw_ap, qfl1_ap, qfl2_ap, qcp1_ap, qcp2_ap, false_and, true_and, and_true, and_false, and_self, if_false, if_true, reduceIte, Nat.reduceEqDiff, Int.reduceEq, Int.reduceNeg])
      | (with_reducible refine qW_some ?_; (try dsimp only); try simp only [qw_ap, qfl1_ap, qfl2_ap, qcp1_ap, qcp2_ap, false_and, true_and, and_true, and_false, and_self, if_false, if_true, reduceIte, Nat.reduceEqDiff, Int.reduceEq, Int.reduceNeg])
      | ((with_reducible refine qW_no ?_); omega)
      | with_reducible refine qW_pos rfl ?_
      | ((with_reducible refine qW_pos ?_ ?_); omega)
      | ((with_reducible refine qW_neg ?_ ?_); (first | omega | decide))
      | with_reducible refine qW_ite (fun _ => ?_) (fun _ => ?_)
      | dsimp only
    all_goals (repeat' with_reducible refine And.intro ?_ ?_)
    all_goals first
      | rfl
      | trivial
      | exact R_wire_x (M := M) (K := K) rfl (fun _ _ => rfl) (fun _ _ => rfl) h_wire
      | exact R_sorted_x (M := M) (K := K) rfl rfl rfl (fun _ _ => rfl) (fun _ _ => rfl) (fun _ _ => rfl) (fun _ _ => rfl) h_sorted
      | (unfold R_wire; unfold R_wire at h_wire; grind [qw_ap])
      | (unfold R_sorted; unfold R_sorted at h_sorted; grind [qw_ap])
      | (intro hz; exact absurd hz (by decide))
      | (simp [qw_ap, cI, cB, cU]; done)
      | (intro _; simp (disch := omega) [qw_ap, cI, cB, cU, w32_id]; omega)
      | (intro _; simp only [cI, cB, cU]; grind [qw_ap, w32])


set_option maxHeartbeats 400000 in
set_option maxRecDepth 20000 in
theorem op_row {M K : qm} {x1 x2 x3 : Int} (c1 : -2147483648 ≤ x1 ∧ x1 ≤ 2147483647) (c2 : -2147483648 ≤ x2 ∧ x2 ≤ 2147483647) (c3 : -2147483648 ≤ x3 ∧ x3 ≤ 2147483647) (h_built : R_built M K) (h_blocks : R_blocks M K) (h_kinds : R_kinds M K) (h_row : R_row M K) : oK2 cI (qf_L_row 20000 x1 x2 x3 M) (qf_X18_row 20000 x1 x2 x3 K) (fun M' K' => R_row M' K') := by
  have s_built := h_built
  unfold R_built at s_built
  have s_blocks := h_blocks
  unfold R_blocks at s_blocks
  have w1 : w32 (M 1003 0 0 - 1) = M 1003 0 0 - 1 := w32_id (by omega) (by omega)
  by_cases hx : 0 ≤ x1 ∧ x1 < M 1003 0 0 ∧ 0 ≤ x2 ∧ x2 < 8
  · have q0 := h_row x1 x2 hx.1 (by omega) hx.2.2.1 hx.2.2.2
    have q1 := h_kinds x1 hx.1 (by omega)
    have q2 := (w32_id (x := 8 * x1) (by omega) (by omega))
    have q3 := (w32_id (x := 8 * x1 + x2) (by omega) (by omega))
    unfold oK2
    unfold qf_L_row qf_X11_row qf_X11_row_J22 qf_X11_row_J23 qf_X11_row_J51 qf_X11_row_J52 qf_X11_isBlock qf_X18_row qf_X18_row_J27 qf_X18_row_J28 qf_X18_row_J59 qf_X18_row_J63 qf_X18_row_J64
    repeat' first
      | with_reducible refine qW_within (fun _ => ?_) (fun _ _ => ?_)
      | with_reducible refine qW_isIn (fun _ => ?_) (fun _ _ => ?_)
      | with_reducible refine qW_na (fun _ => ?_) (fun _ => ?_)
      | with_reducible refine qW_ns (fun _ => ?_) (fun _ => ?_)
      | (with_reducible refine qW_goes (fun _ => ?_) (fun _ _ => ?_) (fun _ _ => ?_) <;> (try dsimp only) <;> (try simp only [qw_ap, qfl1_ap, qfl2_ap, qcp1_ap, qcp2_ap, false_and, true_and, and_true, and_false, and_self, if_false, if_true, reduceIte, Nat.reduceEqDiff, Int.reduceEq, Int.reduceNeg]))
      | (with_reducible refine qW_stays (by omega) (fun _ => ?_) (fun _ => ?_) <;> (try dsimp only) <;> (try simp only [qw_ap, qfl1_ap, qfl2_ap, qcp1_ap, qcp2_ap, false_and, true_and, and_true, and_false, and_self, if_false, if_true, reduceIte, Nat.reduceEqDiff, Int.reduceEq, Int.reduceNeg]))
      | (exfalso; omega)
      | with_reducible refine qW_bind ?_
      | (with_reducible refine qW_bnd ?_; try simp only [qw_ap, qfl1_ap, qfl2_ap, qcp1_ap, qcp2_ap, false_and, true_and, and_true, and_false, and_self, if_false, if_true, reduceIte, Nat.reduceEqDiff, Int.reduceEq, Int.reduceNeg])
      | (with_reducible refine qW_some ?_; (try dsimp only); try simp only [qw_ap, qfl1_ap, qfl2_ap, qcp1_ap, qcp2_ap, false_and, true_and, and_true, and_false, and_self, if_false, if_true, reduceIte, Nat.reduceEqDiff, Int.reduceEq, Int.reduceNeg])
      | ((with_reducible refine qW_no ?_); omega)
      | with_reducible refine qW_pos rfl ?_
      | ((with_reducible refine qW_pos ?_ ?_); omega)
      | ((with_reducible refine qW_neg ?_ ?_); (first | omega | decide))
      | with_reducible refine qW_ite (fun _ => ?_) (fun _ => ?_)
      | dsimp only
    all_goals (repeat' with_reducible refine And.intro ?_ ?_)
    all_goals first
      | rfl
      | trivial
      | exact R_row_x (M := M) (K := K) (fun _ _ => rfl) (fun _ _ => rfl) h_row
      | (unfold R_row; unfold R_row at h_row; grind [qw_ap])
      | (intro hz; exact absurd hz (by decide))
      | (simp [qw_ap, cI, cB, cU]; done)
      | (intro _; simp (disch := omega) [qw_ap, cI, cB, cU, w32_id]; omega)
      | (intro _; simp only [cI, cB, cU]; grind [qw_ap, w32])

  · unfold oK2
    unfold qf_L_row qf_X11_row qf_X11_row_J22 qf_X11_row_J23 qf_X11_row_J51 qf_X11_row_J52 qf_X11_isBlock qf_X18_row qf_X18_row_J27 qf_X18_row_J28 qf_X18_row_J59 qf_X18_row_J63 qf_X18_row_J64
    repeat' first
      | with_reducible refine qW_within (fun _ => ?_) (fun _ _ => ?_)
      | with_reducible refine qW_isIn (fun _ => ?_) (fun _ _ => ?_)
      | with_reducible refine qW_na (fun _ => ?_) (fun _ => ?_)
      | with_reducible refine qW_ns (fun _ => ?_) (fun _ => ?_)
      | (with_reducible refine qW_goes (fun _ => ?_) (fun _ _ => ?_) (fun _ _ => ?_) <;> (try dsimp only) <;> (try simp only [qw_ap, qfl1_ap, qfl2_ap, qcp1_ap, qcp2_ap, false_and, true_and, and_true, and_false, and_self, if_false, if_true, reduceIte, Nat.reduceEqDiff, Int.reduceEq, Int.reduceNeg]))
      | (with_reducible refine qW_stays (by omega) (fun _ => ?_) (fun _ => ?_) <;> (try dsimp only) <;> (try simp only [qw_ap, qfl1_ap, qfl2_ap, qcp1_ap, qcp2_ap, false_and, true_and, and_true, and_false, and_self, if_false, if_true, reduceIte, Nat.reduceEqDiff, Int.reduceEq, Int.reduceNeg]))
      | (exfalso; omega)
      | with_reducible refine qW_bind ?_
      | (with_reducible refine qW_bnd ?_; try simp only [qw_ap, qfl1_ap, qfl2_ap, qcp1_ap, qcp2_ap, false_and, true_and, and_true, and_false, and_self, if_false, if_true, reduceIte, Nat.reduceEqDiff, Int.reduceEq, Int.reduceNeg])
      | (with_reducible refine qW_some ?_; (try dsimp only); try simp only [qw_ap, qfl1_ap, qfl2_ap, qcp1_ap, qcp2_ap, false_and, true_and, and_true, and_false, and_self, if_false, if_true, reduceIte, Nat.reduceEqDiff, Int.reduceEq, Int.reduceNeg])
      | ((with_reducible refine qW_no ?_); omega)
      | with_reducible refine qW_pos rfl ?_
      | ((with_reducible refine qW_pos ?_ ?_); omega)
      | ((with_reducible refine qW_neg ?_ ?_); (first | omega | decide))
      | with_reducible refine qW_ite (fun _ => ?_) (fun _ => ?_)
      | dsimp only
    all_goals (repeat' with_reducible refine And.intro ?_ ?_)
    all_goals first
      | rfl
      | trivial
      | exact R_row_x (M := M) (K := K) (fun _ _ => rfl) (fun _ _ => rfl) h_row
      | (unfold R_row; unfold R_row at h_row; grind [qw_ap])
      | (intro hz; exact absurd hz (by decide))
      | (simp [qw_ap, cI, cB, cU]; done)
      | (intro _; simp (disch := omega) [qw_ap, cI, cB, cU, w32_id]; omega)
      | (intro _; simp only [cI, cB, cU]; grind [qw_ap, w32])


set_option maxHeartbeats 400000 in
set_option maxRecDepth 20000 in
theorem op_address {M K : qm} {x1 x2 : Int} (c1 : -2147483648 ≤ x1 ∧ x1 ≤ 2147483647) (c2 : -2147483648 ≤ x2 ∧ x2 ≤ 2147483647) (h_built : R_built M K) (h_baddr : R_baddr M K) (h_bbusy : R_bbusy M K) (h_bqueued : R_bqueued M K) (h_bsaying : R_bsaying M K) (h_bcounts : R_bcounts M K) : oK2 cI (qf_L_address 20000 x1 x2 M) (qf_X18_address 20000 x1 x2 K) (fun M' K' => R_baddr M' K' ∧ R_bbusy M' K' ∧ R_bqueued M' K' ∧ R_bsaying M' K' ∧ R_bcounts M' K') := by
  have s_built := h_built
  unfold R_built at s_built
  by_cases hx : 0 ≤ x1 ∧ x1 < 8
  · have q0 := h_baddr x1 hx.1 hx.2
    unfold oK2
    unfold qf_L_address qf_X11_address qf_X11_address_J22 qf_X11_address_J23 qf_X1_setAddress qf_X11_isStation qf_X18_address qf_X18_address_J24 qf_X18_address_J25
    repeat' first
      | with_reducible refine qW_within (fun _ => ?_) (fun _ _ => ?_)
      | with_reducible refine qW_isIn (fun _ => ?_) (fun _ _ => ?_)
      | with_reducible refine qW_na (fun _ => ?_) (fun _ => ?_)
      | with_reducible refine qW_ns (fun _ => ?_) (fun _ => ?_)
      | (with_reducible refine qW_goes (fun _ => ?_) (fun _ _ => ?_) (fun _ _ => ?_) <;> (try dsimp only) <;> (try simp only [qw_ap, qfl1_ap, qfl2_ap, qcp1_ap, qcp2_ap, false_and, true_and, and_true, and_false, and_self, if_false, if_true, reduceIte, Nat.reduceEqDiff, Int.reduceEq, Int.reduceNeg]))
      | (with_reducible refine qW_stays (by omega) (fun _ => ?_) (fun _ => ?_) <;> (try dsimp only) <;> (try simp only [qw_ap, qfl1_ap, qfl2_ap, qcp1_ap, qcp2_ap, false_and, true_and, and_true, and_false, and_self, if_false, if_true, reduceIte, Nat.reduceEqDiff, Int.reduceEq, Int.reduceNeg]))
      | (exfalso; omega)
      | with_reducible refine qW_bind ?_
      | (with_reducible refine qW_bnd ?_; try simp only [qw_ap, qfl1_ap, qfl2_ap, qcp1_ap, qcp2_ap, false_and, true_and, and_true, and_false, and_self, if_false, if_true, reduceIte, Nat.reduceEqDiff, Int.reduceEq, Int.reduceNeg])
      | (with_reducible refine qW_some ?_; (try dsimp only); try simp only [qw_ap, qfl1_ap, qfl2_ap, qcp1_ap, qcp2_ap, false_and, true_and, and_true, and_false, and_self, if_false, if_true, reduceIte, Nat.reduceEqDiff, Int.reduceEq, Int.reduceNeg])
      | ((with_reducible refine qW_no ?_); omega)
      | with_reducible refine qW_pos rfl ?_
      | ((with_reducible refine qW_pos ?_ ?_); omega)
      | ((with_reducible refine qW_neg ?_ ?_); (first | omega | decide))
      | with_reducible refine qW_ite (fun _ => ?_) (fun _ => ?_)
      | dsimp only
    all_goals (repeat' with_reducible refine And.intro ?_ ?_)
    all_goals first
      | rfl
      | trivial
      | exact R_baddr_x (M := M) (K := K) (fun _ _ => rfl) (fun _ _ => rfl) h_baddr
      | exact R_bbusy_x (M := M) (K := K) (fun _ _ => rfl) (fun _ _ => rfl) h_bbusy
      | exact R_bqueued_x (M := M) (K := K) (fun _ _ => rfl) (fun _ _ => rfl) h_bqueued
      | exact R_bsaying_x (M := M) (K := K) (fun _ _ => rfl) (fun _ _ => rfl) (fun _ _ => rfl) h_bsaying
      | exact R_bcounts_x (M := M) (K := K) (fun _ _ => rfl) (fun _ _ => rfl) (fun _ _ => rfl) (fun _ _ => rfl) h_bcounts
      | (unfold R_baddr; unfold R_baddr at h_baddr; grind [qw_ap])
      | (unfold R_bbusy; unfold R_bbusy at h_bbusy; grind [qw_ap])
      | (unfold R_bqueued; unfold R_bqueued at h_bqueued; grind [qw_ap])
      | (unfold R_bsaying; unfold R_bsaying at h_bsaying; grind [qw_ap])
      | (unfold R_bcounts; unfold R_bcounts at h_bcounts; grind [qw_ap])
      | (intro hz; exact absurd hz (by decide))
      | (simp [qw_ap, cI, cB, cU]; done)
      | (intro _; simp (disch := omega) [qw_ap, cI, cB, cU, w32_id]; omega)
      | (intro _; simp only [cI, cB, cU]; grind [qw_ap, w32])

  · unfold oK2
    unfold qf_L_address qf_X11_address qf_X11_address_J22 qf_X11_address_J23 qf_X1_setAddress qf_X11_isStation qf_X18_address qf_X18_address_J24 qf_X18_address_J25
    repeat' first
      | with_reducible refine qW_within (fun _ => ?_) (fun _ _ => ?_)
      | with_reducible refine qW_isIn (fun _ => ?_) (fun _ _ => ?_)
      | with_reducible refine qW_na (fun _ => ?_) (fun _ => ?_)
      | with_reducible refine qW_ns (fun _ => ?_) (fun _ => ?_)
      | (with_reducible refine qW_goes (fun _ => ?_) (fun _ _ => ?_) (fun _ _ => ?_) <;> (try dsimp only) <;> (try simp only [qw_ap, qfl1_ap, qfl2_ap, qcp1_ap, qcp2_ap, false_and, true_and, and_true, and_false, and_self, if_false, if_true, reduceIte, Nat.reduceEqDiff, Int.reduceEq, Int.reduceNeg]))
      | (with_reducible refine qW_stays (by omega) (fun _ => ?_) (fun _ => ?_) <;> (try dsimp only) <;> (try simp only [qw_ap, qfl1_ap, qfl2_ap, qcp1_ap, qcp2_ap, false_and, true_and, and_true, and_false, and_self, if_false, if_true, reduceIte, Nat.reduceEqDiff, Int.reduceEq, Int.reduceNeg]))
      | (exfalso; omega)
      | with_reducible refine qW_bind ?_
      | (with_reducible refine qW_bnd ?_; try simp only [qw_ap, qfl1_ap, qfl2_ap, qcp1_ap, qcp2_ap, false_and, true_and, and_true, and_false, and_self, if_false, if_true, reduceIte, Nat.reduceEqDiff, Int.reduceEq, Int.reduceNeg])
      | (with_reducible refine qW_some ?_; (try dsimp only); try simp only [qw_ap, qfl1_ap, qfl2_ap, qcp1_ap, qcp2_ap, false_and, true_and, and_true, and_false, and_self, if_false, if_true, reduceIte, Nat.reduceEqDiff, Int.reduceEq, Int.reduceNeg])
      | ((with_reducible refine qW_no ?_); omega)
      | with_reducible refine qW_pos rfl ?_
      | ((with_reducible refine qW_pos ?_ ?_); omega)
      | ((with_reducible refine qW_neg ?_ ?_); (first | omega | decide))
      | with_reducible refine qW_ite (fun _ => ?_) (fun _ => ?_)
      | dsimp only
    all_goals (repeat' with_reducible refine And.intro ?_ ?_)
    all_goals first
      | rfl
      | trivial
      | exact R_baddr_x (M := M) (K := K) (fun _ _ => rfl) (fun _ _ => rfl) h_baddr
      | exact R_bbusy_x (M := M) (K := K) (fun _ _ => rfl) (fun _ _ => rfl) h_bbusy
      | exact R_bqueued_x (M := M) (K := K) (fun _ _ => rfl) (fun _ _ => rfl) h_bqueued
      | exact R_bsaying_x (M := M) (K := K) (fun _ _ => rfl) (fun _ _ => rfl) (fun _ _ => rfl) h_bsaying
      | exact R_bcounts_x (M := M) (K := K) (fun _ _ => rfl) (fun _ _ => rfl) (fun _ _ => rfl) (fun _ _ => rfl) h_bcounts
      | (unfold R_baddr; unfold R_baddr at h_baddr; grind [qw_ap])
      | (unfold R_bbusy; unfold R_bbusy at h_bbusy; grind [qw_ap])
      | (unfold R_bqueued; unfold R_bqueued at h_bqueued; grind [qw_ap])
      | (unfold R_bsaying; unfold R_bsaying at h_bsaying; grind [qw_ap])
      | (unfold R_bcounts; unfold R_bcounts at h_bcounts; grind [qw_ap])
      | (intro hz; exact absurd hz (by decide))
      | (simp [qw_ap, cI, cB, cU]; done)
      | (intro _; simp (disch := omega) [qw_ap, cI, cB, cU, w32_id]; omega)
      | (intro _; simp only [cI, cB, cU]; grind [qw_ap, w32])


set_option maxHeartbeats 400000 in
set_option maxRecDepth 20000 in
theorem op_busy {M K : qm} {x1 x2 : Int} (b2 : x2 = 0 ∨ x2 = 1) (c1 : -2147483648 ≤ x1 ∧ x1 ≤ 2147483647) (c2 : -2147483648 ≤ x2 ∧ x2 ≤ 2147483647) (h_built : R_built M K) (h_baddr : R_baddr M K) (h_bbusy : R_bbusy M K) (h_bqueued : R_bqueued M K) (h_bsaying : R_bsaying M K) (h_bcounts : R_bcounts M K) : oK2 cB (qf_L_busy 20000 x1 x2 M) (qf_X18_busy 20000 x1 x2 K) (fun M' K' => R_baddr M' K' ∧ R_bbusy M' K' ∧ R_bqueued M' K' ∧ R_bsaying M' K' ∧ R_bcounts M' K') := by
  have s_built := h_built
  unfold R_built at s_built
  by_cases hx : 0 ≤ x1 ∧ x1 < 8
  · have q0 := h_bbusy x1 hx.1 hx.2
    unfold oK2
    unfold qf_L_busy qf_L_busy_J16 qf_X11_busy qf_X1_setBusy qf_X1_setBusy_J17 qf_X11_isStation qf_X18_busy
    repeat' first
      | with_reducible refine qW_within (fun _ => ?_) (fun _ _ => ?_)
      | with_reducible refine qW_isIn (fun _ => ?_) (fun _ _ => ?_)
      | with_reducible refine qW_na (fun _ => ?_) (fun _ => ?_)
      | with_reducible refine qW_ns (fun _ => ?_) (fun _ => ?_)
      | (with_reducible refine qW_goes (fun _ => ?_) (fun _ _ => ?_) (fun _ _ => ?_) <;> (try dsimp only) <;> (try simp only [qw_ap, qfl1_ap, qfl2_ap, qcp1_ap, qcp2_ap, false_and, true_and, and_true, and_false, and_self, if_false, if_true, reduceIte, Nat.reduceEqDiff, Int.reduceEq, Int.reduceNeg]))
      | (with_reducible refine qW_stays (by omega) (fun _ => ?_) (fun _ => ?_) <;> (try dsimp only) <;> (try simp only [qw_ap, qfl1_ap, qfl2_ap, qcp1_ap, qcp2_ap, false_and, true_and, and_true, and_false, and_self, if_false, if_true, reduceIte, Nat.reduceEqDiff, Int.reduceEq, Int.reduceNeg]))
      | (exfalso; omega)
      | with_reducible refine qW_bind ?_
      | (with_reducible refine qW_bnd ?_; try simp only [qw_ap, qfl1_ap, qfl2_ap, qcp1_ap, qcp2_ap, false_and, true_and, and_true, and_false, and_self, if_false, if_true, reduceIte, Nat.reduceEqDiff, Int.reduceEq, Int.reduceNeg])
      | (with_reducible refine qW_some ?_; (try dsimp only); try simp only [qw_ap, qfl1_ap, qfl2_ap, qcp1_ap, qcp2_ap, false_and, true_and, and_true, and_false, and_self, if_false, if_true, reduceIte, Nat.reduceEqDiff, Int.reduceEq, Int.reduceNeg])
      | ((with_reducible refine qW_no ?_); omega)
      | with_reducible refine qW_pos rfl ?_
      | ((with_reducible refine qW_pos ?_ ?_); omega)
      | ((with_reducible refine qW_neg ?_ ?_); (first | omega | decide))
      | with_reducible refine qW_ite (fun _ => ?_) (fun _ => ?_)
      | dsimp only
    all_goals (repeat' with_reducible refine And.intro ?_ ?_)
    all_goals first
      | rfl
      | trivial
      | exact R_baddr_x (M := M) (K := K) (fun _ _ => rfl) (fun _ _ => rfl) h_baddr
      | exact R_bbusy_x (M := M) (K := K) (fun _ _ => rfl) (fun _ _ => rfl) h_bbusy
      | exact R_bqueued_x (M := M) (K := K) (fun _ _ => rfl) (fun _ _ => rfl) h_bqueued
      | exact R_bsaying_x (M := M) (K := K) (fun _ _ => rfl) (fun _ _ => rfl) (fun _ _ => rfl) h_bsaying
      | exact R_bcounts_x (M := M) (K := K) (fun _ _ => rfl) (fun _ _ => rfl) (fun _ _ => rfl) (fun _ _ => rfl) h_bcounts
      | (unfold R_baddr; unfold R_baddr at h_baddr; grind [qw_ap])
      | (unfold R_bbusy; unfold R_bbusy at h_bbusy; grind [qw_ap])
      | (unfold R_bqueued; unfold R_bqueued at h_bqueued; grind [qw_ap])
      | (unfold R_bsaying; unfold R_bsaying at h_bsaying; grind [qw_ap])
      | (unfold R_bcounts; unfold R_bcounts at h_bcounts; grind [qw_ap])
      | (intro hz; exact absurd hz (by decide))
      | (simp [qw_ap, cI, cB, cU]; done)
      | (intro _; simp (disch := omega) [qw_ap, cI, cB, cU, w32_id]; omega)
      | (intro _; simp only [cI, cB, cU]; grind [qw_ap, w32])

  · unfold oK2
    unfold qf_L_busy qf_L_busy_J16 qf_X11_busy qf_X1_setBusy qf_X1_setBusy_J17 qf_X11_isStation qf_X18_busy
    repeat' first
      | with_reducible refine qW_within (fun _ => ?_) (fun _ _ => ?_)
      | with_reducible refine qW_isIn (fun _ => ?_) (fun _ _ => ?_)
      | with_reducible refine qW_na (fun _ => ?_) (fun _ => ?_)
      | with_reducible refine qW_ns (fun _ => ?_) (fun _ => ?_)
      | (with_reducible refine qW_goes (fun _ => ?_) (fun _ _ => ?_) (fun _ _ => ?_) <;> (try dsimp only) <;> (try simp only [qw_ap, qfl1_ap, qfl2_ap, qcp1_ap, qcp2_ap, false_and, true_and, and_true, and_false, and_self, if_false, if_true, reduceIte, Nat.reduceEqDiff, Int.reduceEq, Int.reduceNeg]))
      | (with_reducible refine qW_stays (by omega) (fun _ => ?_) (fun _ => ?_) <;> (try dsimp only) <;> (try simp only [qw_ap, qfl1_ap, qfl2_ap, qcp1_ap, qcp2_ap, false_and, true_and, and_true, and_false, and_self, if_false, if_true, reduceIte, Nat.reduceEqDiff, Int.reduceEq, Int.reduceNeg]))
      | (exfalso; omega)
      | with_reducible refine qW_bind ?_
      | (with_reducible refine qW_bnd ?_; try simp only [qw_ap, qfl1_ap, qfl2_ap, qcp1_ap, qcp2_ap, false_and, true_and, and_true, and_false, and_self, if_false, if_true, reduceIte, Nat.reduceEqDiff, Int.reduceEq, Int.reduceNeg])
      | (with_reducible refine qW_some ?_; (try dsimp only); try simp only [qw_ap, qfl1_ap, qfl2_ap, qcp1_ap, qcp2_ap, false_and, true_and, and_true, and_false, and_self, if_false, if_true, reduceIte, Nat.reduceEqDiff, Int.reduceEq, Int.reduceNeg])
      | ((with_reducible refine qW_no ?_); omega)
      | with_reducible refine qW_pos rfl ?_
      | ((with_reducible refine qW_pos ?_ ?_); omega)
      | ((with_reducible refine qW_neg ?_ ?_); (first | omega | decide))
      | with_reducible refine qW_ite (fun _ => ?_) (fun _ => ?_)
      | dsimp only
    all_goals (repeat' with_reducible refine And.intro ?_ ?_)
    all_goals first
      | rfl
      | trivial
      | exact R_baddr_x (M := M) (K := K) (fun _ _ => rfl) (fun _ _ => rfl) h_baddr
      | exact R_bbusy_x (M := M) (K := K) (fun _ _ => rfl) (fun _ _ => rfl) h_bbusy
      | exact R_bqueued_x (M := M) (K := K) (fun _ _ => rfl) (fun _ _ => rfl) h_bqueued
      | exact R_bsaying_x (M := M) (K := K) (fun _ _ => rfl) (fun _ _ => rfl) (fun _ _ => rfl) h_bsaying
      | exact R_bcounts_x (M := M) (K := K) (fun _ _ => rfl) (fun _ _ => rfl) (fun _ _ => rfl) (fun _ _ => rfl) h_bcounts
      | (unfold R_baddr; unfold R_baddr at h_baddr; grind [qw_ap])
      | (unfold R_bbusy; unfold R_bbusy at h_bbusy; grind [qw_ap])
      | (unfold R_bqueued; unfold R_bqueued at h_bqueued; grind [qw_ap])
      | (unfold R_bsaying; unfold R_bsaying at h_bsaying; grind [qw_ap])
      | (unfold R_bcounts; unfold R_bcounts at h_bcounts; grind [qw_ap])
      | (intro hz; exact absurd hz (by decide))
      | (simp [qw_ap, cI, cB, cU]; done)
      | (intro _; simp (disch := omega) [qw_ap, cI, cB, cU, w32_id]; omega)
      | (intro _; simp only [cI, cB, cU]; grind [qw_ap, w32])


set_option maxHeartbeats 400000 in
set_option maxRecDepth 20000 in
theorem op_station {M K : qm} {x1 x2 : Int} (c1 : -2147483648 ≤ x1 ∧ x1 ≤ 2147483647) (c2 : -2147483648 ≤ x2 ∧ x2 ≤ 2147483647) (h_built : R_built M K) (h_bqueued : R_bqueued M K) (h_bsaying : R_bsaying M K) (h_bcounts : R_bcounts M K) : oK2 cI (qf_L_station 20000 x1 x2 M) (qf_X18_station 20000 x1 x2 K) (fun M' K' => True) := by
  have s_built := h_built
  unfold R_built at s_built
  by_cases hx : 0 ≤ x1 ∧ x1 < 8
  · have q0 := h_bqueued x1 hx.1 hx.2
    have q1 := h_bsaying x1 hx.1 hx.2
    have q2 := h_bcounts x1 hx.1 hx.2
    unfold oK2
    unfold qf_L_station qf_X11_station qf_X11_station_J20 qf_X11_station_J21 qf_X1_stationFact qf_X1_stationFact_J19 qf_X11_isStation qf_X18_station qf_X18_station_J23 qf_X18_station_J24 qf_X12_station
    repeat' first
      | with_reducible refine qW_within (fun _ => ?_) (fun _ _ => ?_)
      | with_reducible refine qW_isIn (fun _ => ?_) (fun _ _ => ?_)
      | with_reducible refine qW_na (fun _ => ?_) (fun _ => ?_)
      | with_reducible refine qW_ns (fun _ => ?_) (fun _ => ?_)
      | (with_reducible refine qW_goes (fun _ => ?_) (fun _ _ => ?_) (fun _ _ => ?_) <;> (try dsimp only) <;> (try simp only [qw_ap, qfl1_ap, qfl2_ap, qcp1_ap, qcp2_ap, false_and, true_and, and_true, and_false, and_self, if_false, if_true, reduceIte, Nat.reduceEqDiff, Int.reduceEq, Int.reduceNeg]))
      | (with_reducible refine qW_stays (by omega) (fun _ => ?_) (fun _ => ?_) <;> (try dsimp only) <;> (try simp only [qw_ap, qfl1_ap, qfl2_ap, qcp1_ap, qcp2_ap, false_and, true_and, and_true, and_false, and_self, if_false, if_true, reduceIte, Nat.reduceEqDiff, Int.reduceEq, Int.reduceNeg]))
      | (exfalso; omega)
      | with_reducible refine qW_bind ?_
      | (with_reducible refine qW_bnd ?_; try simp only [qw_ap, qfl1_ap, qfl2_ap, qcp1_ap, qcp2_ap, false_and, true_and, and_true, and_false, and_self, if_false, if_true, reduceIte, Nat.reduceEqDiff, Int.reduceEq, Int.reduceNeg])
      | (with_reducible refine qW_some ?_; (try dsimp only); try simp only [qw_ap, qfl1_ap, qfl2_ap, qcp1_ap, qcp2_ap, false_and, true_and, and_true, and_false, and_self, if_false, if_true, reduceIte, Nat.reduceEqDiff, Int.reduceEq, Int.reduceNeg])
      | ((with_reducible refine qW_no ?_); omega)
      | with_reducible refine qW_pos rfl ?_
      | ((with_reducible refine qW_pos ?_ ?_); omega)
      | ((with_reducible refine qW_neg ?_ ?_); (first | omega | decide))
      | with_reducible refine qW_ite (fun _ => ?_) (fun _ => ?_)
      | dsimp only
    all_goals (repeat' with_reducible refine And.intro ?_ ?_)
    all_goals first
      | rfl
      | trivial
      | (intro hz; exact absurd hz (by decide))
      | (simp [qw_ap, cI, cB, cU]; done)
      | (intro _; simp (disch := omega) [qw_ap, cI, cB, cU, w32_id]; omega)
      | (intro _; simp only [cI, cB, cU]; grind [qw_ap, w32])

  · unfold oK2
    unfold qf_L_station qf_X11_station qf_X11_station_J20 qf_X11_station_J21 qf_X1_stationFact qf_X1_stationFact_J19 qf_X11_isStation qf_X18_station qf_X18_station_J23 qf_X18_station_J24 qf_X12_station
    repeat' first
      | with_reducible refine qW_within (fun _ => ?_) (fun _ _ => ?_)
      | with_reducible refine qW_isIn (fun _ => ?_) (fun _ _ => ?_)
      | with_reducible refine qW_na (fun _ => ?_) (fun _ => ?_)
      | with_reducible refine qW_ns (fun _ => ?_) (fun _ => ?_)
      | (with_reducible refine qW_goes (fun _ => ?_) (fun _ _ => ?_) (fun _ _ => ?_) <;> (try dsimp only) <;> (try simp only [qw_ap, qfl1_ap, qfl2_ap, qcp1_ap, qcp2_ap, false_and, true_and, and_true, and_false, and_self, if_false, if_true, reduceIte, Nat.reduceEqDiff, Int.reduceEq, Int.reduceNeg]))
      | (with_reducible refine qW_stays (by omega) (fun _ => ?_) (fun _ => ?_) <;> (try dsimp only) <;> (try simp only [qw_ap, qfl1_ap, qfl2_ap, qcp1_ap, qcp2_ap, false_and, true_and, and_true, and_false, and_self, if_false, if_true, reduceIte, Nat.reduceEqDiff, Int.reduceEq, Int.reduceNeg]))
      | (exfalso; omega)
      | with_reducible refine qW_bind ?_
      | (with_reducible refine qW_bnd ?_; try simp only [qw_ap, qfl1_ap, qfl2_ap, qcp1_ap, qcp2_ap, false_and, true_and, and_true, and_false, and_self, if_false, if_true, reduceIte, Nat.reduceEqDiff, Int.reduceEq, Int.reduceNeg])
      | (with_reducible refine qW_some ?_; (try dsimp only); try simp only [qw_ap, qfl1_ap, qfl2_ap, qcp1_ap, qcp2_ap, false_and, true_and, and_true, and_false, and_self, if_false, if_true, reduceIte, Nat.reduceEqDiff, Int.reduceEq, Int.reduceNeg])
      | ((with_reducible refine qW_no ?_); omega)
      | with_reducible refine qW_pos rfl ?_
      | ((with_reducible refine qW_pos ?_ ?_); omega)
      | ((with_reducible refine qW_neg ?_ ?_); (first | omega | decide))
      | with_reducible refine qW_ite (fun _ => ?_) (fun _ => ?_)
      | dsimp only
    all_goals (repeat' with_reducible refine And.intro ?_ ?_)
    all_goals first
      | rfl
      | trivial
      | (intro hz; exact absurd hz (by decide))
      | (simp [qw_ap, cI, cB, cU]; done)
      | (intro _; simp (disch := omega) [qw_ap, cI, cB, cU, w32_id]; omega)
      | (intro _; simp only [cI, cB, cU]; grind [qw_ap, w32])


set_option maxHeartbeats 400000 in
set_option maxRecDepth 20000 in
theorem op_heard {M K : qm} {x1 : Int} (c1 : -2147483648 ≤ x1 ∧ x1 ≤ 2147483647) (h_built : R_built M K) (h_bheard : R_bheard M K) : oK2 cI (qf_L_heard 20000 x1 M) (qf_X18_heard 20000 x1 K) (fun M' K' => True) := by
  have s_built := h_built
  unfold R_built at s_built
  by_cases hx : 0 ≤ x1 ∧ x1 < 5
  · have q0 := h_bheard x1 hx.1 hx.2
    unfold oK2
    unfold qf_L_heard qf_X11_heard qf_X18_heard
    repeat' first
      | with_reducible refine qW_within (fun _ => ?_) (fun _ _ => ?_)
      | with_reducible refine qW_isIn (fun _ => ?_) (fun _ _ => ?_)
      | with_reducible refine qW_na (fun _ => ?_) (fun _ => ?_)
      | with_reducible refine qW_ns (fun _ => ?_) (fun _ => ?_)
      | (with_reducible refine qW_goes (fun _ => ?_) (fun _ _ => ?_) (fun _ _ => ?_) <;> (try dsimp only) <;> (try simp only [qw_ap, qfl1_ap, qfl2_ap, qcp1_ap, qcp2_ap, false_and, true_and, and_true, and_false, and_self, if_false, if_true, reduceIte, Nat.reduceEqDiff, Int.reduceEq, Int.reduceNeg]))
      | (with_reducible refine qW_stays (by omega) (fun _ => ?_) (fun _ => ?_) <;> (try dsimp only) <;> (try simp only [qw_ap, qfl1_ap, qfl2_ap, qcp1_ap, qcp2_ap, false_and, true_and, and_true, and_false, and_self, if_false, if_true, reduceIte, Nat.reduceEqDiff, Int.reduceEq, Int.reduceNeg]))
      | (exfalso; omega)
      | with_reducible refine qW_bind ?_
      | (with_reducible refine qW_bnd ?_; try simp only [qw_ap, qfl1_ap, qfl2_ap, qcp1_ap, qcp2_ap, false_and, true_and, and_true, and_false, and_self, if_false, if_true, reduceIte, Nat.reduceEqDiff, Int.reduceEq, Int.reduceNeg])
      | (with_reducible refine qW_some ?_; (try dsimp only); try simp only [qw_ap, qfl1_ap, qfl2_ap, qcp1_ap, qcp2_ap, false_and, true_and, and_true, and_false, and_self, if_false, if_true, reduceIte, Nat.reduceEqDiff, Int.reduceEq, Int.reduceNeg])
      | ((with_reducible refine qW_no ?_); omega)
      | with_reducible refine qW_pos rfl ?_
      | ((with_reducible refine qW_pos ?_ ?_); omega)
      | ((with_reducible refine qW_neg ?_ ?_); (first | omega | decide))
      | with_reducible refine qW_ite (fun _ => ?_) (fun _ => ?_)
      | dsimp only
    all_goals (repeat' with_reducible refine And.intro ?_ ?_)
    all_goals first
      | rfl
      | trivial
      | (intro hz; exact absurd hz (by decide))
      | (simp [qw_ap, cI, cB, cU]; done)
      | (intro _; simp (disch := omega) [qw_ap, cI, cB, cU, w32_id]; omega)
      | (intro _; simp only [cI, cB, cU]; grind [qw_ap, w32])

  · unfold oK2
    unfold qf_L_heard qf_X11_heard qf_X18_heard
    repeat' first
      | with_reducible refine qW_within (fun _ => ?_) (fun _ _ => ?_)
      | with_reducible refine qW_isIn (fun _ => ?_) (fun _ _ => ?_)
      | with_reducible refine qW_na (fun _ => ?_) (fun _ => ?_)
      | with_reducible refine qW_ns (fun _ => ?_) (fun _ => ?_)
      | (with_reducible refine qW_goes (fun _ => ?_) (fun _ _ => ?_) (fun _ _ => ?_) <;> (try dsimp only) <;> (try simp only [qw_ap, qfl1_ap, qfl2_ap, qcp1_ap, qcp2_ap, false_and, true_and, and_true, and_false, and_self, if_false, if_true, reduceIte, Nat.reduceEqDiff, Int.reduceEq, Int.reduceNeg]))
      | (with_reducible refine qW_stays (by omega) (fun _ => ?_) (fun _ => ?_) <;> (try dsimp only) <;> (try simp only [qw_ap, qfl1_ap, qfl2_ap, qcp1_ap, qcp2_ap, false_and, true_and, and_true, and_false, and_self, if_false, if_true, reduceIte, Nat.reduceEqDiff, Int.reduceEq, Int.reduceNeg]))
      | (exfalso; omega)
      | with_reducible refine qW_bind ?_
      | (with_reducible refine qW_bnd ?_; try simp only [qw_ap, qfl1_ap, qfl2_ap, qcp1_ap, qcp2_ap, false_and, true_and, and_true, and_false, and_self, if_false, if_true, reduceIte, Nat.reduceEqDiff, Int.reduceEq, Int.reduceNeg])
      | (with_reducible refine qW_some ?_; (try dsimp only); try simp only [qw_ap, qfl1_ap, qfl2_ap, qcp1_ap, qcp2_ap, false_and, true_and, and_true, and_false, and_self, if_false, if_true, reduceIte, Nat.reduceEqDiff, Int.reduceEq, Int.reduceNeg])
      | ((with_reducible refine qW_no ?_); omega)
      | with_reducible refine qW_pos rfl ?_
      | ((with_reducible refine qW_pos ?_ ?_); omega)
      | ((with_reducible refine qW_neg ?_ ?_); (first | omega | decide))
      | with_reducible refine qW_ite (fun _ => ?_) (fun _ => ?_)
      | dsimp only
    all_goals (repeat' with_reducible refine And.intro ?_ ?_)
    all_goals first
      | rfl
      | trivial
      | (intro hz; exact absurd hz (by decide))
      | (simp [qw_ap, cI, cB, cU]; done)
      | (intro _; simp (disch := omega) [qw_ap, cI, cB, cU, w32_id]; omega)
      | (intro _; simp only [cI, cB, cU]; grind [qw_ap, w32])


set_option maxHeartbeats 400000 in
set_option maxRecDepth 20000 in
theorem op_signal {M K : qm} {x1 x2 : Int} (c1 : -2147483648 ≤ x1 ∧ x1 ≤ 2147483647) (c2 : -2147483648 ≤ x2 ∧ x2 ≤ 2147483647) (h_built : R_built M K) (h_mpoints : R_mpoints M K) (h_mvalue : R_mvalue M K) : oK2 cI (qf_L_signal 20000 x1 x2 M) (qf_X18_signal 20000 x1 x2 K) (fun M' K' => R_mvalue M' K') := by
  have s_built := h_built
  unfold R_built at s_built
  have s_mpoints := h_mpoints
  unfold R_mpoints at s_mpoints
  have w1 : w32 (M 1172 2 0 - 1) = M 1172 2 0 - 1 := w32_id (by omega) (by omega)
  by_cases hx : 0 ≤ x1 ∧ x1 < 50
  · have q0 := h_mvalue x1 hx.1 hx.2
    unfold oK2
    unfold qf_L_signal qf_X11_signal qf_X11_signal_J31 qf_X11_signal_J32 qf_X18_signal qf_X18_signal_J29 qf_X18_signal_J30
    repeat' first
      | with_reducible refine qW_within (fun _ => ?_) (fun _ _ => ?_)
      | with_reducible refine qW_isIn (fun _ => ?_) (fun _ _ => ?_)
      | with_reducible refine qW_na (fun _ => ?_) (fun _ => ?_)
      | with_reducible refine qW_ns (fun _ => ?_) (fun _ => ?_)
      | (with_reducible refine qW_goes (fun _ => ?_) (fun _ _ => ?_) (fun _ _ => ?_) <;> (try dsimp only) <;> (try simp only [qw_ap, qfl1_ap, qfl2_ap, qcp1_ap, qcp2_ap, false_and, true_and, and_true, and_false, and_self, if_false, if_true, reduceIte, Nat.reduceEqDiff, Int.reduceEq, Int.reduceNeg]))
      | (with_reducible refine qW_stays (by omega) (fun _ => ?_) (fun _ => ?_) <;> (try dsimp only) <;> (try simp only [qw_ap, qfl1_ap, qfl2_ap, qcp1_ap, qcp2_ap, false_and, true_and, and_true, and_false, and_self, if_false, if_true, reduceIte, Nat.reduceEqDiff, Int.reduceEq, Int.reduceNeg]))
      | (exfalso; omega)
      | with_reducible refine qW_bind ?_
      | (with_reducible refine qW_bnd ?_; try simp only [qw_ap, qfl1_ap, qfl2_ap, qcp1_ap, qcp2_ap, false_and, true_and, and_true, and_false, and_self, if_false, if_true, reduceIte, Nat.reduceEqDiff, Int.reduceEq, Int.reduceNeg])
      | (with_reducible refine qW_some ?_; (try dsimp only); try simp only [qw_ap, qfl1_ap, qfl2_ap, qcp1_ap, qcp2_ap, false_and, true_and, and_true, and_false, and_self, if_false, if_true, reduceIte, Nat.reduceEqDiff, Int.reduceEq, Int.reduceNeg])
      | ((with_reducible refine qW_no ?_); omega)
      | with_reducible refine qW_pos rfl ?_
      | ((with_reducible refine qW_pos ?_ ?_); omega)
      | ((with_reducible refine qW_neg ?_ ?_); (first | omega | decide))
      | with_reducible refine qW_ite (fun _ => ?_) (fun _ => ?_)
      | dsimp only
    all_goals (repeat' with_reducible refine And.intro ?_ ?_)
    all_goals first
      | rfl
      | trivial
      | exact R_mvalue_x (M := M) (K := K) (fun _ _ => rfl) (fun _ _ => rfl) h_mvalue
      | (unfold R_mvalue; unfold R_mvalue at h_mvalue; grind [qw_ap])
      | (intro hz; exact absurd hz (by decide))
      | (simp [qw_ap, cI, cB, cU]; done)
      | (intro _; simp (disch := omega) [qw_ap, cI, cB, cU, w32_id]; omega)
      | (intro _; simp only [cI, cB, cU]; grind [qw_ap, w32])

  · unfold oK2
    unfold qf_L_signal qf_X11_signal qf_X11_signal_J31 qf_X11_signal_J32 qf_X18_signal qf_X18_signal_J29 qf_X18_signal_J30
    repeat' first
      | with_reducible refine qW_within (fun _ => ?_) (fun _ _ => ?_)
      | with_reducible refine qW_isIn (fun _ => ?_) (fun _ _ => ?_)
      | with_reducible refine qW_na (fun _ => ?_) (fun _ => ?_)
      | with_reducible refine qW_ns (fun _ => ?_) (fun _ => ?_)
      | (with_reducible refine qW_goes (fun _ => ?_) (fun _ _ => ?_) (fun _ _ => ?_) <;> (try dsimp only) <;> (try simp only [qw_ap, qfl1_ap, qfl2_ap, qcp1_ap, qcp2_ap, false_and, true_and, and_true, and_false, and_self, if_false, if_true, reduceIte, Nat.reduceEqDiff, Int.reduceEq, Int.reduceNeg]))
      | (with_reducible refine qW_stays (by omega) (fun _ => ?_) (fun _ => ?_) <;> (try dsimp only) <;> (try simp only [qw_ap, qfl1_ap, qfl2_ap, qcp1_ap, qcp2_ap, false_and, true_and, and_true, and_false, and_self, if_false, if_true, reduceIte, Nat.reduceEqDiff, Int.reduceEq, Int.reduceNeg]))
      | (exfalso; omega)
      | with_reducible refine qW_bind ?_
      | (with_reducible refine qW_bnd ?_; try simp only [qw_ap, qfl1_ap, qfl2_ap, qcp1_ap, qcp2_ap, false_and, true_and, and_true, and_false, and_self, if_false, if_true, reduceIte, Nat.reduceEqDiff, Int.reduceEq, Int.reduceNeg])
      | (with_reducible refine qW_some ?_; (try dsimp only); try simp only [qw_ap, qfl1_ap, qfl2_ap, qcp1_ap, qcp2_ap, false_and, true_and, and_true, and_false, and_self, if_false, if_true, reduceIte, Nat.reduceEqDiff, Int.reduceEq, Int.reduceNeg])
      | ((with_reducible refine qW_no ?_); omega)
      | with_reducible refine qW_pos rfl ?_
      | ((with_reducible refine qW_pos ?_ ?_); omega)
      | ((with_reducible refine qW_neg ?_ ?_); (first | omega | decide))
      | with_reducible refine qW_ite (fun _ => ?_) (fun _ => ?_)
      | dsimp only
    all_goals (repeat' with_reducible refine And.intro ?_ ?_)
    all_goals first
      | rfl
      | trivial
      | exact R_mvalue_x (M := M) (K := K) (fun _ _ => rfl) (fun _ _ => rfl) h_mvalue
      | (unfold R_mvalue; unfold R_mvalue at h_mvalue; grind [qw_ap])
      | (intro hz; exact absurd hz (by decide))
      | (simp [qw_ap, cI, cB, cU]; done)
      | (intro _; simp (disch := omega) [qw_ap, cI, cB, cU, w32_id]; omega)
      | (intro _; simp only [cI, cB, cU]; grind [qw_ap, w32])


set_option maxHeartbeats 400000 in
set_option maxRecDepth 20000 in
theorem op_fault {M K : qm} {x1 x2 : Int} (b2 : x2 = 0 ∨ x2 = 1) (c1 : -2147483648 ≤ x1 ∧ x1 ≤ 2147483647) (c2 : -2147483648 ≤ x2 ∧ x2 ≤ 2147483647) (h_built : R_built M K) (h_mpoints : R_mpoints M K) (h_mfault : R_mfault M K) : oK2 cB (qf_L_fault 20000 x1 x2 M) (qf_X18_fault 20000 x1 x2 K) (fun M' K' => R_mfault M' K') := by
  have s_built := h_built
  unfold R_built at s_built
  have s_mpoints := h_mpoints
  unfold R_mpoints at s_mpoints
  have w1 : w32 (M 1172 2 0 - 1) = M 1172 2 0 - 1 := w32_id (by omega) (by omega)
  by_cases hx : 0 ≤ x1 ∧ x1 < 50
  · have q0 := h_mfault x1 hx.1 hx.2
    unfold oK2
    unfold qf_L_fault qf_L_fault_J16 qf_X11_fault qf_X18_fault
    repeat' first
      | with_reducible refine qW_within (fun _ => ?_) (fun _ _ => ?_)
      | with_reducible refine qW_isIn (fun _ => ?_) (fun _ _ => ?_)
      | with_reducible refine qW_na (fun _ => ?_) (fun _ => ?_)
      | with_reducible refine qW_ns (fun _ => ?_) (fun _ => ?_)
      | (with_reducible refine qW_goes (fun _ => ?_) (fun _ _ => ?_) (fun _ _ => ?_) <;> (try dsimp only) <;> (try simp only [qw_ap, qfl1_ap, qfl2_ap, qcp1_ap, qcp2_ap, false_and, true_and, and_true, and_false, and_self, if_false, if_true, reduceIte, Nat.reduceEqDiff, Int.reduceEq, Int.reduceNeg]))
      | (with_reducible refine qW_stays (by omega) (fun _ => ?_) (fun _ => ?_) <;> (try dsimp only) <;> (try simp only [qw_ap, qfl1_ap, qfl2_ap, qcp1_ap, qcp2_ap, false_and, true_and, and_true, and_false, and_self, if_false, if_true, reduceIte, Nat.reduceEqDiff, Int.reduceEq, Int.reduceNeg]))
      | (exfalso; omega)
      | with_reducible refine qW_bind ?_
      | (with_reducible refine qW_bnd ?_; try simp only [qw_ap, qfl1_ap, qfl2_ap, qcp1_ap, qcp2_ap, false_and, true_and, and_true, and_false, and_self, if_false, if_true, reduceIte, Nat.reduceEqDiff, Int.reduceEq, Int.reduceNeg])
      | (with_reducible refine qW_some ?_; (try dsimp only); try simp only [qw_ap, qfl1_ap, qfl2_ap, qcp1_ap, qcp2_ap, false_and, true_and, and_true, and_false, and_self, if_false, if_true, reduceIte, Nat.reduceEqDiff, Int.reduceEq, Int.reduceNeg])
      | ((with_reducible refine qW_no ?_); omega)
      | with_reducible refine qW_pos rfl ?_
      | ((with_reducible refine qW_pos ?_ ?_); omega)
      | ((with_reducible refine qW_neg ?_ ?_); (first | omega | decide))
      | with_reducible refine qW_ite (fun _ => ?_) (fun _ => ?_)
      | dsimp only
    all_goals (repeat' with_reducible refine And.intro ?_ ?_)
    all_goals first
      | rfl
      | trivial
      | exact R_mfault_x (M := M) (K := K) (fun _ _ => rfl) (fun _ _ => rfl) h_mfault
      | (unfold R_mfault; unfold R_mfault at h_mfault; grind [qw_ap])
      | (intro hz; exact absurd hz (by decide))
      | (simp [qw_ap, cI, cB, cU]; done)
      | (intro _; simp (disch := omega) [qw_ap, cI, cB, cU, w32_id]; omega)
      | (intro _; simp only [cI, cB, cU]; grind [qw_ap, w32])

  · unfold oK2
    unfold qf_L_fault qf_L_fault_J16 qf_X11_fault qf_X18_fault
    repeat' first
      | with_reducible refine qW_within (fun _ => ?_) (fun _ _ => ?_)
      | with_reducible refine qW_isIn (fun _ => ?_) (fun _ _ => ?_)
      | with_reducible refine qW_na (fun _ => ?_) (fun _ => ?_)
      | with_reducible refine qW_ns (fun _ => ?_) (fun _ => ?_)
      | (with_reducible refine qW_goes (fun _ => ?_) (fun _ _ => ?_) (fun _ _ => ?_) <;> (try dsimp only) <;> (try simp only [qw_ap, qfl1_ap, qfl2_ap, qcp1_ap, qcp2_ap, false_and, true_and, and_true, and_false, and_self, if_false, if_true, reduceIte, Nat.reduceEqDiff, Int.reduceEq, Int.reduceNeg]))
      | (with_reducible refine qW_stays (by omega) (fun _ => ?_) (fun _ => ?_) <;> (try dsimp only) <;> (try simp only [qw_ap, qfl1_ap, qfl2_ap, qcp1_ap, qcp2_ap, false_and, true_and, and_true, and_false, and_self, if_false, if_true, reduceIte, Nat.reduceEqDiff, Int.reduceEq, Int.reduceNeg]))
      | (exfalso; omega)
      | with_reducible refine qW_bind ?_
      | (with_reducible refine qW_bnd ?_; try simp only [qw_ap, qfl1_ap, qfl2_ap, qcp1_ap, qcp2_ap, false_and, true_and, and_true, and_false, and_self, if_false, if_true, reduceIte, Nat.reduceEqDiff, Int.reduceEq, Int.reduceNeg])
      | (with_reducible refine qW_some ?_; (try dsimp only); try simp only [qw_ap, qfl1_ap, qfl2_ap, qcp1_ap, qcp2_ap, false_and, true_and, and_true, and_false, and_self, if_false, if_true, reduceIte, Nat.reduceEqDiff, Int.reduceEq, Int.reduceNeg])
      | ((with_reducible refine qW_no ?_); omega)
      | with_reducible refine qW_pos rfl ?_
      | ((with_reducible refine qW_pos ?_ ?_); omega)
      | ((with_reducible refine qW_neg ?_ ?_); (first | omega | decide))
      | with_reducible refine qW_ite (fun _ => ?_) (fun _ => ?_)
      | dsimp only
    all_goals (repeat' with_reducible refine And.intro ?_ ?_)
    all_goals first
      | rfl
      | trivial
      | exact R_mfault_x (M := M) (K := K) (fun _ _ => rfl) (fun _ _ => rfl) h_mfault
      | (unfold R_mfault; unfold R_mfault at h_mfault; grind [qw_ap])
      | (intro hz; exact absurd hz (by decide))
      | (simp [qw_ap, cI, cB, cU]; done)
      | (intro _; simp (disch := omega) [qw_ap, cI, cB, cU, w32_id]; omega)
      | (intro _; simp only [cI, cB, cU]; grind [qw_ap, w32])

