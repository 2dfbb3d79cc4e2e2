set_option maxHeartbeats 400000 in
set_option maxRecDepth 20000 in
theorem op_disable {M K : qm} {x1 x2 : Int} (c1 : -2147483648 ≤ x1 ∧ x1 ≤ 2147483647) (c2 : -2147483648 ≤ x2 ∧ x2 ≤ 2147483647) (h_built : R_built M K) (h_mpoints : R_mpoints M K) (h_muntil : R_muntil M K) : oK2 cI (qf_L_disable 20000 x1 x2 M) (qf_X18_disable 20000 x1 x2 K) (fun M' K' => R_muntil M' K') := by
  have s_built := h_built
  unfold R_built at s_built
  have s_mpoints := h_mpoints
  unfold R_mpoints at s_mpoints
  have w1 : w32 (M 1172 2 0 - 1) = M 1172 2 0 - 1 := w32_id (by omega) (by omega)
  by_cases hx : 0 ≤ x1 ∧ x1 < 50
  · have q0 := h_muntil x1 hx.1 hx.2
    unfold oK2
    unfold qf_L_disable qf_X11_disable qf_X11_disable_J31 qf_X11_disable_J32 qf_X18_disable qf_X18_disable_J30 qf_X18_disable_J31
    repeat' first
      | with_reducible refine qW_within (fun _ => ?_) (fun _ _ => ?_)
      | with_reducible refine qW_isIn (fun _ => ?_) (fun _ _ => ?_)
      | with_reducible refine qW_na (fun _ => ?_) (fun _ => ?_)
      | with_reducible refine qW_ns (fun _ => ?_) (fun _ => ?_)
      | (with_reducible refine qW_goes (fun _ => ?_) (fun _ _ => ?_) (fun _ _ => ?_) <;> (try dsimp only) <;> (try simp only [qw_ap, qfl1_ap, qfl2_ap, qcp1_ap, qcp2_ap, false_and, true_and, and_true, and_false, and_self, if_false, if_true, reduceIte, Nat.reduceEqDiff, Int.reduceEq, Int.reduceNeg]))
      | (with_reducible refine qW_stays (by omega) (fun _ => ?_) (fun _ => ?_) <;> (try dsimp only) <;> (try simp only [qw_ap, qfl1_ap, qfl2_ap, qcp1_ap, qcp2_ap, false_and, true_and, and_true, and_false, and_self, if_false, if_true, reduceIte, Nat.reduceEqDiff, Int.reduceEq, Int.reduceNeg]))
      | (exfalso; omega)
      | with_reducible refine qW_bind ?_
      | (with_reducible refine qW_bnd ?_; try simp only [qw_ap, qfl1_ap, qfl2_ap, qcp1_ap, qcp2_ap, false_and, true_and, and_true, and_false, and_self, if_false, if_true, reduceIte, Nat.reduceEqDiff, Int.reduceEq, Int.reduceNeg])
      | (with_reducible refine qW_some ?_; (try dsimp only); try simp only [qw_ap, qfl1_ap, qfl2_ap, qcp1_ap, qcp2_ap, false_and, true_and, and_true, and_false, and_self, if_false, if_true, reduceIte, Nat.reduceEqDiff, Int.reduceEq, Int.reduceNeg])
      | ((with_reducible refine qW_no ?_); omega)
      | with_reducible refine qW_pos rfl ?_
      | ((with_reducible refine qW_pos ?_ ?_); omega)
      | ((with_reducible refine qW_neg ?_ ?_); (first | omega | decide))
      | with_reducible refine qW_ite (fun _ => ?_) (fun _ => ?_)
      | dsimp only
    all_goals (repeat' with_reducible refine And.intro ?_ ?_)
    all_goals first
      | rfl
      | trivial
      | exact R_muntil_x (M := M) (K := K) (fun _ _ => rfl) (fun _ _ => rfl) h_muntil
      | (unfold R_muntil; unfold R_muntil at h_muntil; grind [qw_ap])
      | (intro hz; exact absurd hz (by decide))
      | (simp [qw_ap, cI, cB, cU]; done)
      | (intro _; simp (disch := omega) [qw_ap, cI, cB, cU, w32_id]; omega)
      | (intro _; simp only [cI, cB, cU]; grind [qw_ap, w32])

  · unfold oK2
    unfold qf_L_disable qf_X11_disable qf_X11_disable_J31 qf_X11_disable_J32 qf_X18_disable qf_X18_disable_J30 qf_X18_disable_J31
    repeat' first
      | with_reducible refine qW_within (fun _ => ?_) (fun _ _ => ?_)
      | with_reducible refine qW_isIn (fun _ => ?_) (fun _ _ => ?_)
      | with_reducible refine qW_na (fun _ => ?_) (fun _ => ?_)
      | with_reducible refine qW_ns (fun _ => ?_) (fun _ => ?_)
      | (with_reducible refine qW_goes (fun _ => ?_) (fun _ _ => ?_) (fun _ _ => ?_) <;> (try dsimp only) <;> (try simp only [qw_ap, qfl1_ap, qfl2_ap, qcp1_ap, qcp2_ap, false_and, true_and, and_true, and_false, and_self, if_false, if_true, reduceIte, Nat.reduceEqDiff, Int.reduceEq, Int.reduceNeg]))
      | (with_reducible refine qW_stays (by omega) (fun _ => ?_) (fun _ => ?_) <;> (try dsimp only) <;> (try simp only [qw_ap, qfl1_ap, qfl2_ap, qcp1_ap, qcp2_ap, false_and, true_and, and_true, and_false, and_self, if_false, if_true, reduceIte, Nat.reduceEqDiff, Int.reduceEq, Int.reduceNeg]))
      | (exfalso; omega)
      | with_reducible refine qW_bind ?_
      | (with_reducible refine qW_bnd ?_; try simp only [qw_ap, qfl1_ap, qfl2_ap, qcp1_ap, qcp2_ap, false_and, true_and, and_true, and_false, and_self, if_false, if_true, reduceIte, Nat.reduceEqDiff, Int.reduceEq, Int.reduceNeg])
      | (with_reducible refine qW_some ?_; (try dsimp only); try simp only [qw_ap, qfl1_ap, qfl2_ap, qcp1_ap, qcp2_ap, false_and, true_and, and_true, and_false, and_self, if_false, if_true, reduceIte, Nat.reduceEqDiff, Int.reduceEq, Int.reduceNeg])
      | ((with_reducible refine qW_no ?_); omega)
      | with_reducible refine qW_pos rfl ?_
      | ((with_reducible refine qW_pos ?_ ?_); omega)
      | ((with_reducible refine qW_neg ?_ ?_); (first | omega | decide))
      | with_reducible refine qW_ite (fun _ => ?_) (fun _ => ?_)
      | dsimp only
    all_goals (repeat' with_reducible refine And.intro ?_ ?_)
    all_goals first
      | rfl
      | trivial
      | exact R_muntil_x (M := M) (K := K) (fun _ _ => rfl) (fun _ _ => rfl) h_muntil
      | (unfold R_muntil; unfold R_muntil at h_muntil; grind [qw_ap])
      | (intro hz; exact absurd hz (by decide))
      | (simp [qw_ap, cI, cB, cU]; done)
      | (intro _; simp (disch := omega) [qw_ap, cI, cB, cU, w32_id]; omega)
      | (intro _; simp only [cI, cB, cU]; grind [qw_ap, w32])


