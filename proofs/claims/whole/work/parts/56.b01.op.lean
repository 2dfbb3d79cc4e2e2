set_option maxHeartbeats 400000 in
set_option maxRecDepth 20000 in
theorem op_nameOf {M K : qm} {x1 : Int} (c1 : -2147483648 ≤ x1 ∧ x1 ≤ 2147483647) (h_built : R_built M K) (h_spaces : R_spaces M K) (h_find0 : R_find0 M K) (h_names : R_names M K) : oK2 cI (qf_L_nameOf 20000 x1 M) (qf_X18_nameOf 20000 x1 K) (fun M' K' => True) := by
  have s_built := h_built
  unfold R_built at s_built
  have s_spaces := h_spaces
  unfold R_spaces at s_spaces
  have s_find0 := h_find0
  unfold R_find0 at s_find0
  have w1 : w32 (M 51 3 0 - 1) = M 51 3 0 - 1 := w32_id (by omega) (by omega)
  by_cases hx : 0 ≤ x1 ∧ x1 < M 51 3 0
  · have q0 := h_names x1 hx.1 hx.2
    unfold oK2
    unfold qf_L_nameOf qf_X11_nameOf qf_X11_isSpace qf_X18_nameOf qf_X16_isSpace
    repeat' first
      | with_reducible refine qW_within (fun _ => ?_) (fun _ _ => ?_)
      | with_reducible refine qW_isIn (fun _ => ?_) (fun _ _ => ?_)
      | with_reducible refine qW_na (fun _ => ?_) (fun _ => ?_)
      | with_reducible refine qW_ns (fun _ => ?_) (fun _ => ?_)
      | (with_reducible refine qW_goes (fun _ => ?_) (fun _ _ => ?_) (fun _ _ => ?_) <;> (try dsimp only) <;> (try simp only [qw_ap, qfl1_ap, qfl2_ap, qcp1_ap, qcp2_ap, false_and, true_and, and_true, and_false, and_self, if_false, if_true, reduceIte, Nat.reduceEqDiff, Int.reduceEq, Int.reduceNeg]))
      | (with_reducible refine qW_stays (by omega) (fun _ => ?_) (fun _ => ?_) <;> (try dsimp only) <;> (try simp only [qw_ap, qfl1_ap, qfl2_ap, qcp1_ap, qcp2_ap, false_and, true_and, and_true, and_false, and_self, if_false, if_true, reduceIte, Nat.reduceEqDiff, Int.reduceEq, Int.reduceNeg]))
      | (exfalso; omega)
      | with_reducible refine qW_bind ?_
      | (with_reducible refine qW_bnd ?_; try simp only [qw_ap, qfl1_ap, qfl2_ap, qcp1_ap, qcp2_ap, false_and, true_and, and_true, and_false, and_self, if_false, if_true, reduceIte, Nat.reduceEqDiff, Int.reduceEq, Int.reduceNeg])
      | (with_reducible refine qW_some ?_; (try dsimp only); try simp only [qw_ap, qfl1_ap, qfl2_ap, qcp1_ap, qcp2_ap, false_and, true_and, and_true, and_false, and_self, if_false, if_true, reduceIte, Nat.reduceEqDiff, Int.reduceEq, Int.reduceNeg])
      | ((with_reducible refine qW_no ?_); omega)
      | with_reducible refine qW_pos rfl ?_
      | ((with_reducible refine qW_pos ?_ ?_); omega)
      | ((with_reducible refine qW_neg ?_ ?_); (first | omega | decide))
      | with_reducible refine qW_ite (fun _ => ?_) (fun _ => ?_)
      | dsimp only
    all_goals (repeat' with_reducible refine And.intro ?_ ?_)
    all_goals first
      | rfl
      | trivial
      | (intro hz; exact absurd hz (by decide))
      | (simp [qw_ap, cI, cB, cU]; done)
      | (intro _; simp (disch := omega) [qw_ap, cI, cB, cU, w32_id]; omega)
      | (intro _; simp only [cI, cB, cU]; grind [qw_ap, w32])

  · unfold oK2
    unfold qf_L_nameOf qf_X11_nameOf qf_X11_isSpace qf_X18_nameOf qf_X16_isSpace
    repeat' first
      | with_reducible refine qW_within (fun _ => ?_) (fun _ _ => ?_)
      | with_reducible refine qW_isIn (fun _ => ?_) (fun _ _ => ?_)
      | with_reducible refine qW_na (fun _ => ?_) (fun _ => ?_)
      | with_reducible refine qW_ns (fun _ => ?_) (fun _ => ?_)
      | (with_reducible refine qW_goes (fun _ => ?_) (fun _ _ => ?_) (fun _ _ => ?_) <;> (try dsimp only) <;> (try simp only [qw_ap, qfl1_ap, qfl2_ap, qcp1_ap, qcp2_ap, false_and, true_and, and_true, and_false, and_self, if_false, if_true, reduceIte, Nat.reduceEqDiff, Int.reduceEq, Int.reduceNeg]))
      | (with_reducible refine qW_stays (by omega) (fun _ => ?_) (fun _ => ?_) <;> (try dsimp only) <;> (try simp only [qw_ap, qfl1_ap, qfl2_ap, qcp1_ap, qcp2_ap, false_and, true_and, and_true, and_false, and_self, if_false, if_true, reduceIte, Nat.reduceEqDiff, Int.reduceEq, Int.reduceNeg]))
      | (exfalso; omega)
      | with_reducible refine qW_bind ?_
      | (with_reducible refine qW_bnd ?_; try simp only [qw_ap, qfl1_ap, qfl2_ap, qcp1_ap, qcp2_ap, false_and, true_and, and_true, and_false, and_self, if_false, if_true, reduceIte, Nat.reduceEqDiff, Int.reduceEq, Int.reduceNeg])
      | (with_reducible refine qW_some ?_; (try dsimp only); try simp only [qw_ap, qfl1_ap, qfl2_ap, qcp1_ap, qcp2_ap, false_and, true_and, and_true, and_false, and_self, if_false, if_true, reduceIte, Nat.reduceEqDiff, Int.reduceEq, Int.reduceNeg])
      | ((with_reducible refine qW_no ?_); omega)
      | with_reducible refine qW_pos rfl ?_
      | ((with_reducible refine qW_pos ?_ ?_); omega)
      | ((with_reducible refine qW_neg ?_ ?_); (first | omega | decide))
      | with_reducible refine qW_ite (fun _ => ?_) (fun _ => ?_)
      | dsimp only
    all_goals (repeat' with_reducible refine And.intro ?_ ?_)
    all_goals first
      | rfl
      | trivial
      | (intro hz; exact absurd hz (by decide))
      | (simp [qw_ap, cI, cB, cU]; done)
      | (intro _; simp (disch := omega) [qw_ap, cI, cB, cU, w32_id]; omega)
      | (intro _; simp only [cI, cB, cU]; grind [qw_ap, w32])


