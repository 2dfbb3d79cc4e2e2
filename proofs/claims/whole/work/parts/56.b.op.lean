set_option maxHeartbeats 400000 in
set_option maxRecDepth 20000 in
theorem op_disable {M K : qm} {x1 x2 : Int} (c1 : -2147483648 ≤ x1 ∧ x1 ≤ 2147483647) (c2 : -2147483648 ≤ x2 ∧ x2 ≤ 2147483647) (h_built : R_built M K) (h_mpoints : R_mpoints M K) (h_muntil : R_muntil M K) : oK2 cI (qf_L_disable 20000 x1 x2 M) (qf_X18_disable 20000 x1 x2 K) (fun M' K' => R_muntil M' K') := by
  have s_built := h_built
  unfold R_built at s_built
  have s_mpoints := h_mpoints
  unfold R_mpoints at s_mpoints
  have w1 : w32 (M 1172 2 0 - 1) = M 1172 2 0 - 1 := w32_id (by omega) (by omega)
  by_cases hx : 0 ≤ x1 ∧ x1 < 50
  · have q0 := h_muntil x1 hx.1 hx.2
    unfold oK2
    unfold qf_L_disable qf_X11_disable qf_X11_disable_J31 qf_X11_disable_J32 qf_X18_disable qf_X18_disable_J30 qf_X18_disable_J31
    repeat' first
      | with_reducible refine qW_within (fun _ => ?_) (fun _ _ => ?_)
      | with_reducible refine qW_isIn (fun _ => ?_) (fun _ _ => ?_)
      | with_reducible refine qW_na (fun _ => ?_) (fun _ => ?_)
      | with_reducible refine qW_ns (fun _ => ?_) (fun _ => ?_)
      | (with_reducible refine qW_goes (fun _ => ?_) (fun _ _ => ?_) (fun _ _ => ?_) <;> (try dsimp only) <;> (try simp only [qw_ap, qfl1_ap, qfl2_ap, qcp1_ap, qcp2_ap, false_and, true_and, and_true, and_false, and_self, if_false, if_true, reduceIte, Nat.reduceEqDiff, Int.reduceEq, Int.reduceNeg]))
      | (with_reducible refine qW_stays (by omega) (fun _ => ?_) (fun _ => ?_) <;> (try dsimp only) <;> (try simp only [qw_ap, qfl1_ap, qfl2_ap, qcp1_ap, qcp2_ap, false_and, true_and, and_true, and_false, and_self, if_false, if_true, reduceIte, Nat.reduceEqDiff, Int.reduceEq, Int.reduceNeg]))
      | (exfalso; omega)
      | with_reducible refine qW_bind ?_
      | (with_reducible refine qW_bnd ?_; try simp only [qw_ap, qfl1_ap, qfl2_ap, qcp1_ap, qcp2_ap, false_and, true_and, and_true, and_false, and_self, if_false, if_true, reduceIte, Nat.reduceEqDiff, Int.reduceEq, Int.reduceNeg])
      | (with_reducible refine qW_some ?_; (try dsimp only); try simp only [qw_ap, qfl1_ap, qfl2_ap, qcp1_ap, qcp2_ap, false_and, true_and, and_true, and_false, and_self, if_false, if_true, reduceIte, Nat.reduceEqDiff, Int.reduceEq, Int.reduceNeg])
      | ((with_reducible refine qW_no ?_); omega)
      | with_reducible refine qW_pos rfl ?_
      | ((with_reducible refine qW_pos ?_ ?_); omega)
      | ((with_reducible refine qW_neg ?_ ?_); (first | omega | decide))
      | with_reducible refine qW_ite (fun _ => ?_) (fun _ => ?_)
      | dsimp only
    all_goals (repeat' with_reducible refine And.intro ?_ ?_)
    all_goals first
      | rfl
      | trivial
      | exact R_muntil_x (M := M) (K := K) (fun _ _ => rfl) (fun _ _ => rfl) h_muntil
      | (unfold R_muntil; unfold R_muntil at h_muntil; grind [qw_ap])
      | (intro hz; exact absurd hz (by decide))
      | (simp [qw_ap, cI, cB, cU]; done)
      | (intro _; simp (disch := omega) [qw_ap, cI, cB, cU, w32_id]; omega)
      | (intro _; simp only [cI, cB, cU]; grind [qw_ap, w32])

  · unfold oK2
    unfold qf_L_disable qf_X11_disable qf_X11_disable_J31 qf_X11_disable_J32 qf_X18_disable qf_X18_disable_J30 qf_X18_disable_J31
    repeat' first
      | with_reducible refine qW_within (fun _ => ?_) (fun _ _ => ?_)
      | with_reducible refine qW_isIn (fun _ => ?_) (fun _ _ => ?_)
      | with_reducible refine qW_na (fun _ => ?_) (fun _ => ?_)
      | with_reducible refine qW_ns (fun _ => ?_) (fun _ => ?_)
      | (with_reducible refine qW_goes (fun _ => ?_) (fun _ _ => ?_) (fun _ _ => ?_) <;> (try dsimp only) <;> (try simp only [qw_ap, qfl1_ap, qfl2_ap, qcp1_ap, qcp2_ap, false_and, true_and, and_true, and_false, and_self, if_false, if_true, reduceIte, Nat.reduceEqDiff, Int.reduceEq, Int.reduceNeg]))
      | (with_reducible refine qW_stays (by omega) (fun _ => ?_) (fun _ => ?_) <;> (try dsimp only) <;> (try simp only [qw_ap, qfl1_ap, qfl2_ap, qcp1_ap, qcp2_ap, false_and, true_and, and_true, and_false, and_self, if_false, if_true, reduceIte, Nat.reduceEqDiff, Int.reduceEq, Int.reduceNeg]))
      | (exfalso; omega)
      | with_reducible refine qW_bind ?_
      | (with_reducible refine qW_bnd ?_; try simp only [qw_ap, qfl1_ap, qfl2_ap, qcp1_ap, qcp2_ap, false_and, true_and, and_true, and_false, and_self, if_false, if_true, reduceIte, Nat.reduceEqDiff, Int.reduceEq, Int.reduceNeg])
      | (with_reducible refine qW_some ?_; (try dsimp only); try simp only [qw_ap, qfl1_ap, qfl2_ap, qcp1_ap, qcp2_ap, false_and, true_and, and_true, and_false, and_self, if_false, if_true, reduceIte, Nat.reduceEqDiff, Int.reduceEq, Int.reduceNeg])
      | ((with_reducible refine qW_no ?_); omega)
      | with_reducible refine qW_pos rfl ?_
      | ((with_reducible refine qW_pos ?_ ?_); omega)
      | ((with_reducible refine qW_neg ?_ ?_); (first | omega | decide))
      | with_reducible refine qW_ite (fun _ => ?_) (fun _ => ?_)
      | dsimp only
    all_goals (repeat' with_reducible refine And.intro ?_ ?_)
    all_goals first
      | rfl
      | trivial
      | exact R_muntil_x (M := M) (K := K) (fun _ _ => rfl) (fun _ _ => rfl) h_muntil
      | (unfold R_muntil; unfold R_muntil at h_muntil; grind [qw_ap])
      | (intro hz; exact absurd hz (by decide))
      | (simp [qw_ap, cI, cB, cU]; done)
      | (intro _; simp (disch := omega) [qw_ap, cI, cB, cU, w32_id]; omega)
      | (intro _; simp only [cI, cB, cU]; grind [qw_ap, w32])


set_option maxHeartbeats 400000 in
set_option maxRecDepth 20000 in
theorem op_nameOf {M K : qm} {x1 : Int} (c1 : -2147483648 ≤ x1 ∧ x1 ≤ 2147483647) (h_built : R_built M K) (h_spaces : R_spaces M K) (h_find0 : R_find0 M K) (h_names : R_names M K) : oK2 cI (qf_L_nameOf 20000 x1 M) (qf_X18_nameOf 20000 x1 K) (fun M' K' => True) := by
  have s_built := h_built
  unfold R_built at s_built
  have s_spaces := h_spaces
  unfold R_spaces at s_spaces
  have s_find0 := h_find0
  unfold R_find0 at s_find0
  have w1 : w32 (M 51 3 0 - 1) = M 51 3 0 - 1 := w32_id (by omega) (by omega)
  by_cases hx : 0 ≤ x1 ∧ x1 < M 51 3 0
  · have q0 := h_names x1 hx.1 hx.2
    unfold oK2
    unfold qf_L_nameOf qf_X11_nameOf qf_X11_isSpace qf_X18_nameOf qf_X16_isSpace
    repeat' first
      | with_reducible refine qW_within (fun _ => ?_) (fun _ _ => ?_)
      | with_reducible refine qW_isIn (fun _ => ?_) (fun _ _ => ?_)
      | with_reducible refine qW_na (fun _ => ?_) (fun _ => ?_)
      | with_reducible refine qW_ns (fun _ => ?_) (fun _ => ?_)
      | (with_reducible refine qW_goes (fun _ => ?_) (fun _ _ => ?_) (fun _ _ => ?_) <;> (try dsimp only) <;> (try simp only [qw_ap, qfl1_ap, qfl2_ap, qcp1_ap, qcp2_ap, false_and, true_and, and_true, and_false, and_self, if_false, if_true, reduceIte, Nat.reduceEqDiff, Int.reduceEq, Int.reduceNeg]))
      | (with_reducible refine qW_stays (by omega) (fun _ => ?_) (fun _ => ?_) <;> (try dsimp only) <;> (try simp only [qw_ap, qfl1_ap, qfl2_ap, qcp1_ap, qcp2_ap, false_and, true_and, and_true, and_false, and_self, if_false, if_true, reduceIte, Nat.reduceEqDiff, Int.reduceEq, Int.reduceNeg]))
      | (exfalso; omega)
      | with_reducible refine qW_bind ?_
      | (with_reducible refine qW_bnd ?_; try simp only [qw_ap, qfl1_ap, qfl2_ap, qcp1_ap, qcp2_ap, false_and, true_and, and_true, and_false, and_self, if_false, if_true, reduceIte, Nat.reduceEqDiff, Int.reduceEq, Int.reduceNeg])
      | (with_reducible refine qW_some ?_; (try dsimp only); try simp only [qw_ap, qfl1_ap, qfl2_ap, qcp1_ap, qcp2_ap, false_and, true_and, and_true, and_false, and_self, if_false, if_true, reduceIte, Nat.reduceEqDiff, Int.reduceEq, Int.reduceNeg])
      | ((with_reducible refine qW_no ?_); omega)
      | with_reducible refine qW_pos rfl ?_
      | ((with_reducible refine qW_pos ?_ ?_); omega)
      | ((with_reducible refine qW_neg ?_ ?_); (first | omega | decide))
      | with_reducible refine qW_ite (fun _ => ?_) (fun _ => ?_)
      | dsimp only
    all_goals (repeat' with_reducible refine And.intro ?_ ?_)
    all_goals first
      | rfl
      | trivial
      | (intro hz; exact absurd hz (by decide))
      | (simp [qw_ap, cI, cB, cU]; done)
      | (intro _; simp (disch := omega) [qw_ap, cI, cB, cU, w32_id]; omega)
      | (intro _; simp only [cI, cB, cU]; grind [qw_ap, w32])

  · unfold oK2
    unfold qf_L_nameOf qf_X11_nameOf qf_X11_isSpace qf_X18_nameOf qf_X16_isSpace
    repeat' first
      | with_reducible refine qW_within (fun _ => ?_) (fun _ _ => ?_)
      | with_reducible refine qW_isIn (fun _ => ?_) (fun _ _ => ?_)
      | with_reducible refine qW_na (fun _ => ?_) (fun _ => ?_)
      | with_reducible refine qW_ns (fun _ => ?_) (fun _ => ?_)
      | (with_reducible refine qW_goes (fun _ => ?_) (fun _ _ => ?_) (fun _ _ => ?_) <;> (try dsimp only) <;> (try simp only [qw_ap, qfl1_ap, qfl2_ap, qcp1_ap, qcp2_ap, false_and, true_and, and_true, and_false, and_self, if_false, if_true, reduceIte, Nat.reduceEqDiff, Int.reduceEq, Int.reduceNeg]))
      | (with_reducible refine qW_stays (by omega) (fun _ => ?_) (fun _ => ?_) <;> (try dsimp only) <;> (try simp only [qw_ap, qfl1_ap, qfl2_ap, qcp1_ap, qcp2_ap, false_and, true_and, and_true, and_false, and_self, if_false, if_true, reduceIte, Nat.reduceEqDiff, Int.reduceEq, Int.reduceNeg]))
      | (exfalso; omega)
      | with_reducible refine qW_bind ?_
      | (with_reducible refine qW_bnd ?_; try simp only [qw_ap, qfl1_ap, qfl2_ap, qcp1_ap, qcp2_ap, false_and, true_and, and_true, and_false, and_self, if_false, if_true, reduceIte, Nat.reduceEqDiff, Int.reduceEq, Int.reduceNeg])
      | (with_reducible refine qW_some ?_; (try dsimp only); try simp only [qw_ap, qfl1_ap, qfl2_ap, qcp1_ap, qcp2_ap, false_and, true_and, and_true, and_false, and_self, if_false, if_true, reduceIte, Nat.reduceEqDiff, Int.reduceEq, Int.reduceNeg])
      | ((with_reducible refine qW_no ?_); omega)
      | with_reducible refine qW_pos rfl ?_
      | ((with_reducible refine qW_pos ?_ ?_); omega)
      | ((with_reducible refine qW_neg ?_ ?_); (first | omega | decide))
      | with_reducible refine qW_ite (fun _ => ?_) (fun _ => ?_)
      | dsimp only
    all_goals (repeat' with_reducible refine And.intro ?_ ?_)
    all_goals first
      | rfl
      | trivial
      | (intro hz; exact absurd hz (by decide))
      | (simp [qw_ap, cI, cB, cU]; done)
      | (intro _; simp (disch := omega) [qw_ap, cI, cB, cU, w32_id]; omega)
      | (intro _; simp only [cI, cB, cU]; grind [qw_ap, w32])


set_option maxHeartbeats 400000 in
set_option maxRecDepth 20000 in
theorem op_name {M K : qm} {x1 x2 : Int} (c1 : -2147483648 ≤ x1 ∧ x1 ≤ 2147483647) (c2 : -2147483648 ≤ x2 ∧ x2 ≤ 2147483647) (h_built : R_built M K) (h_spaces : R_spaces M K) (h_find0 : R_find0 M K) (h_names : R_names M K) : oK2 cI (qf_L_name 20000 x1 x2 M) (qf_X18_name 20000 x1 x2 K) (fun M' K' => R_names M' K') := by
  have s_built := h_built
  unfold R_built at s_built
  have s_spaces := h_spaces
  unfold R_spaces at s_spaces
  have s_find0 := h_find0
  unfold R_find0 at s_find0
  have w1 : w32 (M 51 3 0 - 1) = M 51 3 0 - 1 := w32_id (by omega) (by omega)
  by_cases hx : 0 ≤ x1 ∧ x1 < M 51 3 0
  · have q0 := h_names x1 hx.1 hx.2
    unfold oK2
    unfold qf_L_name qf_X11_name qf_X11_name_J23 qf_X11_name_J24 qf_X11_name_J48 qf_X11_name_J49 qf_X11_isSpace qf_X18_name qf_X18_name_J27 qf_X18_name_J28 qf_X18_name_J49 qf_X18_name_J50 qf_X16_isSpace
    repeat' first
      | with_reducible refine qW_within (fun _ => ?_) (fun _ _ => ?_)
      | with_reducible refine qW_isIn (fun _ => ?_) (fun _ _ => ?_)
      | with_reducible refine qW_na (fun _ => ?_) (fun _ => ?_)
      | with_reducible refine qW_ns (fun _ => ?_) (fun _ => ?_)
      | (with_reducible refine qW_goes (fun _ => ?_) (fun _ _ => ?_) (fun _ _ => ?_) <;> (try dsimp only) <;> (try simp only [qw_ap, qfl1_ap, qfl2_ap, qcp1_ap, qcp2_ap, false_and, true_and, and_true, and_false, and_self, if_false, if_true, reduceIte, Nat.reduceEqDiff, Int.reduceEq, Int.reduceNeg]))
      | (with_reducible refine qW_stays (by omega) (fun _ => ?_) (fun _ => ?_) <;> (try dsimp only) <;> (try simp only [qw_ap, qfl1_ap, qfl2_ap, qcp1_ap, qcp2_ap, false_and, true_and, and_true, and_false, and_self, if_false, if_true, reduceIte, Nat.reduceEqDiff, Int.reduceEq, Int.reduceNeg]))
      | (exfalso; omega)
      | with_reducible refine qW_bind ?_
      | (with_reducible refine qW_bnd ?_; try simp only [qw_ap, qfl1_ap, qfl2_ap, qcp1_ap, qcp2_ap, false_and, true_and, and_true, and_false, and_self, if_false, if_true, reduceIte, Nat.reduceEqDiff, Int.reduceEq, Int.reduceNeg])
      | (with_reducible refine qW_some ?_; (try dsimp only); try simp only [qw_ap, qfl1_ap, qfl2_ap, qcp1_ap, qcp2_ap, false_and, true_and, and_true, and_false, and_self, if_false, if_true, reduceIte, Nat.reduceEqDiff, Int.reduceEq, Int.reduceNeg])
      | ((with_reducible refine qW_no ?_); omega)
      | with_reducible refine qW_pos rfl ?_
      | ((with_reducible refine qW_pos ?_ ?_); omega)
      | ((with_reducible refine qW_neg ?_ ?_); (first | omega | decide))
      | with_reducible refine qW_ite (fun _ => ?_) (fun _ => ?_)
      | dsimp only
    all_goals (repeat' with_reducible refine And.intro ?_ ?_)
    all_goals first
      | rfl
      | trivial
      | exact R_names_x (M := M) (K := K) rfl (fun _ _ => rfl) (fun _ _ => rfl) h_names
      | (unfold R_names; unfold R_names at h_names; grind [qw_ap])
      | (intro hz; exact absurd hz (by decide))
      | (simp [qw_ap, cI, cB, cU]; done)
      | (intro _; simp (disch := omega) [qw_ap, cI, cB, cU, w32_id]; omega)
      | (intro _; simp only [cI, cB, cU]; grind [qw_ap, w32])

  · unfold oK2
    unfold qf_L_name qf_X11_name qf_X11_name_J23 qf_X11_name_J24 qf_X11_name_J48 qf_X11_name_J49 qf_X11_isSpace qf_X18_name qf_X18_name_J27 qf_X18_name_J28 qf_X18_name_J49 qf_X18_name_J50 qf_X16_isSpace
    repeat' first
      | with_reducible refine qW_within (fun _ => ?_) (fun _ _ => ?_)
      | with_reducible refine qW_isIn (fun _ => ?_) (fun _ _ => ?_)
      | with_reducible refine qW_na (fun _ => ?_) (fun _ => ?_)
      | with_reducible refine qW_ns (fun _ => ?_) (fun _ => ?_)
      | (with_reducible refine qW_goes (fun _ => ?_) (fun _ _ => ?_) (fun _ _ => ?_) <;> (try dsimp only) <;> (try simp only [qw_ap, qfl1_ap, qfl2_ap, qcp1_ap, qcp2_ap, false_and, true_and, and_true, and_false, and_self, if_false, if_true, reduceIte, Nat.reduceEqDiff, Int.reduceEq, Int.reduceNeg]))
      | (with_reducible refine qW_stays (by omega) (fun _ => ?_) (fun _ => ?_) <;> (try dsimp only) <;> (try simp only [qw_ap, qfl1_ap, qfl2_ap, qcp1_ap, qcp2_ap, false_and, true_and, and_true, and_false, and_self, if_false, if_true, reduceIte, Nat.reduceEqDiff, Int.reduceEq, Int.reduceNeg]))
      | (exfalso; omega)
      | with_reducible refine qW_bind ?_
      | (with_reducible refine qW_bnd ?_; try simp only [qw_ap, qfl1_ap, qfl2_ap, qcp1_ap, qcp2_ap, false_and, true_and, and_true, and_false, and_self, if_false, if_true, reduceIte, Nat.reduceEqDiff, Int.reduceEq, Int.reduceNeg])
      | (with_reducible refine qW_some ?_; (try dsimp only); try simp only [qw_ap, qfl1_ap, qfl2_ap, qcp1_ap, qcp2_ap, false_and, true_and, and_true, and_false, and_self, if_false, if_true, reduceIte, Nat.reduceEqDiff, Int.reduceEq, Int.reduceNeg])
      | ((with_reducible refine qW_no ?_); omega)
      | with_reducible refine qW_pos rfl ?_
      | ((with_reducible refine qW_pos ?_ ?_); omega)
      | ((with_reducible refine qW_neg ?_ ?_); (first | omega | decide))
      | with_reducible refine qW_ite (fun _ => ?_) (fun _ => ?_)
      | dsimp only
    all_goals (repeat' with_reducible refine And.intro ?_ ?_)
    all_goals first
      | rfl
      | trivial
      | exact R_names_x (M := M) (K := K) rfl (fun _ _ => rfl) (fun _ _ => rfl) h_names
      | (unfold R_names; unfold R_names at h_names; grind [qw_ap])
      | (intro hz; exact absurd hz (by decide))
      | (simp [qw_ap, cI, cB, cU]; done)
      | (intro _; simp (disch := omega) [qw_ap, cI, cB, cU, w32_id]; omega)
      | (intro _; simp only [cI, cB, cU]; grind [qw_ap, w32])


set_option maxHeartbeats 400000 in
set_option maxRecDepth 20000 in
theorem op_trim {M K : qm} {x1 : Int} (c1 : -2147483648 ≤ x1 ∧ x1 ≤ 2147483647) (h_built : R_built M K) (h_textn : R_textn M K) (h_textc : R_textc M K) : oK2 cI (qf_L_trim 20000 x1 M) (qf_X18_trim 20000 x1 K) (fun M' K' => R_textn M' K' ∧ R_textc M' K') := by
  have s_built := h_built
  unfold R_built at s_built
  have s_textn := h_textn
  unfold R_textn at s_textn
  unfold oK2
  unfold qf_L_trim qf_X11_trim qf_X11_trim_J19 qf_X11_trim_J20 qf_X18_trim qf_X18_trim_J20 qf_X18_trim_J21
  repeat' first
    | with_reducible refine qW_within (fun _ => ?_) (fun _ _ => ?_)
    | with_reducible refine qW_isIn (fun _ => ?_) (fun _ _ => ?_)
    | with_reducible refine qW_na (fun _ => ?_) (fun _ => ?_)
    | with_reducible refine qW_ns (fun _ => ?_) (fun _ => ?_)
    | (with_reducible refine qW_goes (fun _ => ?_) (fun _ _ => ?_) (fun _ _ => ?_) <;> (try dsimp only) <;> (try simp only [qw_ap, qfl1_ap, qfl2_ap, qcp1_ap, qcp2_ap, false_and, true_and, and_true, and_false, and_self, if_false, if_true, reduceIte, Nat.reduceEqDiff, Int.reduceEq, Int.reduceNeg]))
    | (with_reducible refine qW_stays (by omega) (fun _ => ?_) (fun _ => ?_) <;> (try dsimp only) <;> (try simp only [qw_ap, qfl1_ap, qfl2_ap, qcp1_ap, qcp2_ap, false_and, true_and, and_true, and_false, and_self, if_false, if_true, reduceIte, Nat.reduceEqDiff, Int.reduceEq, Int.reduceNeg]))
    | (exfalso; omega)
    | with_reducible refine qW_bind ?_
    | (with_reducible refine qW_bnd ?_; try simp only [qw_ap, qfl1_ap, qfl2_ap, qcp1_ap, qcp2_ap, false_and, true_and, and_true, and_false, and_self, if_false, if_true, reduceIte, Nat.reduceEqDiff, Int.reduceEq, Int.reduceNeg])
    | (with_reducible refine qW_some ?_; (try dsimp only); try simp only [qw_ap, qfl1_ap, qfl2_ap, qcp1_ap, qcp2_ap, false_and, true_and, and_true, and_false, and_self, if_false, if_true, reduceIte, Nat.reduceEqDiff, Int.reduceEq, Int.reduceNeg])
    | ((with_reducible refine qW_no ?_); omega)
    | with_reducible refine qW_pos rfl ?_
    | ((with_reducible refine qW_pos ?_ ?_); omega)
    | ((with_reducible refine qW_neg ?_ ?_); (first | omega | decide))
    | with_reducible refine qW_ite (fun _ => ?_) (fun _ => ?_)
    | dsimp only
  all_goals (repeat' with_reducible refine And.intro ?_ ?_)
  all_goals first
    | rfl
    | trivial
    | exact R_textn_x (M := M) (K := K) rfl rfl h_textn
    | exact R_textc_x (M := M) (K := K) rfl (fun _ _ => rfl) (fun _ _ => rfl) h_textc
    | (unfold R_textn; unfold R_textn at h_textn; grind [qw_ap])
    | (unfold R_textc; unfold R_textc at h_textc; grind [qw_ap])
    | (intro hz; exact absurd hz (by decide))
    | (simp [qw_ap, cI, cB, cU]; done)
    | (intro _; simp (disch := omega) [qw_ap, cI, cB, cU, w32_id]; omega)
    | (intro _; simp only [cI, cB, cU]; grind [qw_ap, w32])

set_option maxHeartbeats 400000 in
set_option maxRecDepth 20000 in
theorem op_cutText {M K : qm} {x1 : Int} (c1 : -2147483648 ≤ x1 ∧ x1 ≤ 2147483647) (h_built : R_built M K) (h_mtextn : R_mtextn M K) (h_mtext : R_mtext M K) : oK2 cI (qf_L_cutText 20000 x1 M) (qf_X18_cutText 20000 x1 K) (fun M' K' => R_mtextn M' K' ∧ R_mtext M' K') := by
  have s_built := h_built
  unfold R_built at s_built
  have s_mtextn := h_mtextn
  unfold R_mtextn at s_mtextn
  unfold oK2
  unfold qf_L_cutText qf_X11_cutText qf_X11_cutText_J19 qf_X11_cutText_J20 qf_X18_cutText qf_X18_cutText_J20 qf_X18_cutText_J21
  repeat' first
    | with_reducible refine qW_within (fun _ => ?_) (fun _ _ => ?_)
    | with_reducible refine qW_isIn (fun _ => ?_) (fun _ _ => ?_)
    | with_reducible refine qW_na (fun _ => ?_) (fun _ => ?_)
    | with_reducible refine qW_ns (fun _ => ?_) (fun _ => ?_)
    | (with_reducible refine qW_goes (fun _ => ?_) (fun _ _ => ?_) (fun _ _ => ?_) <;> (try dsimp only) <;> (try simp only [qw_ap, qfl1_ap, qfl2_ap, qcp1_ap, qcp2_ap, false_and, true_and, and_true, and_false, and_self, if_false, if_true, reduceIte, Nat.reduceEqDiff, Int.reduceEq, Int.reduceNeg]))
    | (with_reducible refine qW_stays (by omega) (fun _ => ?_) (fun _ => ?_) <;> (try dsimp only) <;> (try simp only [qw_ap, qfl1_ap, qfl2_ap, qcp1_ap, qcp2_ap, false_and, true_and, and_true, and_false, and_self, if_false, if_true, reduceIte, Nat.reduceEqDiff, Int.reduceEq, Int.reduceNeg]))
    | (exfalso; omega)
    | with_reducible refine qW_bind ?_
    | (with_reducible refine qW_bnd ?_; try simp only [qw_ap, qfl1_ap, qfl2_ap, qcp1_ap, qcp2_ap, false_and, true_and, and_true, and_false, and_self, if_false, if_true, reduceIte, Nat.reduceEqDiff, Int.reduceEq, Int.reduceNeg])
    | (with_reducible refine qW_some ?_; (try dsimp only); try simp only [qw_ap, qfl1_ap, qfl2_ap, qcp1_ap, qcp2_ap, false_and, true_and, and_true, and_false, and_self, if_false, if_true, reduceIte, Nat.reduceEqDiff, Int.reduceEq, Int.reduceNeg])
    | ((with_reducible refine qW_no ?_); omega)
    | with_reducible refine qW_pos rfl ?_
    | ((with_reducible refine qW_pos ?_ ?_); omega)
    | ((with_reducible refine qW_neg ?_ ?_); (first | omega | decide))
    | with_reducible refine qW_ite (fun _ => ?_) (fun _ => ?_)
    | dsimp only
  all_goals (repeat' with_reducible refine And.intro ?_ ?_)
  all_goals first
    | rfl
    | trivial
    | exact R_mtextn_x (M := M) (K := K) rfl rfl rfl h_mtextn
    | exact R_mtext_x (M := M) (K := K) rfl (fun _ _ => rfl) (fun _ _ => rfl) h_mtext
    | (unfold R_mtextn; unfold R_mtextn at h_mtextn; grind [qw_ap])
    | (unfold R_mtext; unfold R_mtext at h_mtext; grind [qw_ap])
    | (intro hz; exact absurd hz (by decide))
    | (simp [qw_ap, cI, cB, cU]; done)
    | (intro _; simp (disch := omega) [qw_ap, cI, cB, cU, w32_id]; omega)
    | (intro _; simp only [cI, cB, cU]; grind [qw_ap, w32])

set_option maxHeartbeats 400000 in
set_option maxRecDepth 20000 in
theorem op_unit {M K : qm} {x1 : Int} (c1 : -2147483648 ≤ x1 ∧ x1 ≤ 2147483647) (h_built : R_built M K) (h_mtextn : R_mtextn M K) (h_mtext : R_mtext M K) : oK2 cI (qf_L_unit 20000 x1 M) (qf_X18_unit 20000 x1 K) (fun M' K' => R_mtextn M' K' ∧ R_mtext M' K') := by
  have s_built := h_built
  unfold R_built at s_built
  have s_mtextn := h_mtextn
  unfold R_mtextn at s_mtextn
  unfold oK2
  unfold qf_L_unit qf_X11_unit qf_X11_unit_J34 qf_X11_unit_J35 qf_X5_append qf_X18_unit qf_X18_unit_J15 qf_X18_unit_J16 qf_X18_unit_J40 qf_X18_unit_J41 qf_X14_unit
  repeat' first
    | with_reducible refine qW_within (fun _ => ?_) (fun _ _ => ?_)
    | with_reducible refine qW_isIn (fun _ => ?_) (fun _ _ => ?_)
    | with_reducible refine qW_na (fun _ => ?_) (fun _ => ?_)
    | with_reducible refine qW_ns (fun _ => ?_) (fun _ => ?_)
    | (with_reducible refine qW_goes (fun _ => ?_) (fun _ _ => ?_) (fun _ _ => ?_) <;> (try dsimp only) <;> (try simp only [qw_ap, qfl1_ap, qfl2_ap, qcp1_ap, qcp2_ap, false_and, true_and, and_true, and_false, and_self, if_false, if_true, reduceIte, Nat.reduceEqDiff, Int.reduceEq, Int.reduceNeg]))
    | (with_reducible refine qW_stays (by omega) (fun _ => ?_) (fun _ => ?_) <;> (try dsimp only) <;> (try simp only [qw_ap, qfl1_ap, qfl2_ap, qcp1_ap, qcp2_ap, false_and, true_and, and_true, and_false, and_self, if_false, if_true, reduceIte, Nat.reduceEqDiff, Int.reduceEq, Int.reduceNeg]))
    | (exfalso; omega)
    | with_reducible refine qW_bind ?_
    | (with_reducible refine qW_bnd ?_; try simp only [qw_ap, qfl1_ap, qfl2_ap, qcp1_ap, qcp2_ap, false_and, true_and, and_true, and_false, and_self, if_false, if_true, reduceIte, Nat.reduceEqDiff, Int.reduceEq, Int.reduceNeg])
    | (with_reducible refine qW_some ?_; (try dsimp only); try simp only [qw_ap, qfl1_ap, qfl2_ap, qcp1_ap, qcp2_ap, false_and, true_and, and_true, and_false, and_self, if_false, if_true, reduceIte, Nat.reduceEqDiff, Int.reduceEq, Int.reduceNeg])
    | ((with_reducible refine qW_no ?_); omega)
    | with_reducible refine qW_pos rfl ?_
    | ((with_reducible refine qW_pos ?_ ?_); omega)
    | ((with_reducible refine qW_neg ?_ ?_); (first | omega | decide))
    | with_reducible refine qW_ite (fun _ => ?_) (fun _ => ?_)
    | dsimp only
  all_goals (repeat' with_reducible refine And.intro ?_ ?_)
  all_goals first
    | rfl
    | trivial
    | exact R_mtextn_x (M := M) (K := K) rfl rfl rfl h_mtextn
    | exact R_mtext_x (M := M) (K := K) rfl (fun _ _ => rfl) (fun _ _ => rfl) h_mtext
    | (unfold R_mtextn; unfold R_mtextn at h_mtextn; grind [qw_ap])
    | (unfold R_mtext; unfold R_mtext at h_mtext; grind [qw_ap])
    | (intro hz; exact absurd hz (by decide))
    | (simp [qw_ap, cI, cB, cU]; done)
    | (intro _; simp (disch := omega) [qw_ap, cI, cB, cU, w32_id]; omega)
    | (intro _; simp only [cI, cB, cU]; grind [qw_ap, w32])

set_option maxHeartbeats 400000 in
set_option maxRecDepth 20000 in
theorem op_where {M K : qm} {x1 x2 : Int} (c1 : -2147483648 ≤ x1 ∧ x1 ≤ 2147483647) (c2 : -2147483648 ≤ x2 ∧ x2 ≤ 2147483647) (h_built : R_built M K) (h_personn : R_personn M K) (h_persons : R_persons M K) : oK2 cI (qf_L_where 20000 x1 x2 M) (qf_X18_where 20000 x1 x2 K) (fun M' K' => True) := by
  have s_built := h_built
  unfold R_built at s_built
  have s_personn := h_personn
  unfold R_personn at s_personn
  have w1 : w32 (M 756 7 0 - 1) = M 756 7 0 - 1 := w32_id (by omega) (by omega)
  by_cases hx : 0 ≤ x1 ∧ x1 < M 756 7 0
  · have q0 := h_persons x1 hx.1 hx.2
    unfold oK2
    unfold qf_L_where qf_X11_where qf_X11_where_J21 qf_X11_where_J22 qf_X10_personFact qf_X11_isPerson qf_X18_where qf_X18_where_J25 qf_X18_where_J26
    repeat' first
      | with_reducible refine qW_within (fun _ => ?_) (fun _ _ => ?_)
      | with_reducible refine qW_isIn (fun _ => ?_) (fun _ _ => ?_)
      | with_reducible refine qW_na (fun _ => ?_) (fun _ => ?_)
      | with_reducible refine qW_ns (fun _ => ?_) (fun _ => ?_)
      | (with_reducible refine qW_goes (fun _ => ?_) (fun _ _ => ?_) (fun _ _ => ?_) <;> (try dsimp only) <;> (try simp only [qw_ap, qfl1_ap, qfl2_ap, qcp1_ap, qcp2_ap, false_and, true_and, and_true, and_false, and_self, if_false, if_true, reduceIte, Nat.reduceEqDiff, Int.reduceEq, Int.reduceNeg]))
      | (with_reducible refine qW_stays (by omega) (fun _ => ?_) (fun _ => ?_) <;> (try dsimp only) <;> (try simp only [qw_ap, qfl1_ap, qfl2_ap, qcp1_ap, qcp2_ap, false_and, true_and, and_true, and_false, and_self, if_false, if_true, reduceIte, Nat.reduceEqDiff, Int.reduceEq, Int.reduceNeg]))
      | (exfalso; omega)
      | with_reducible refine qW_bind ?_
      | (with_reducible refine qW_bnd ?_; try simp only [qw_ap, qfl1_ap, qfl2_ap, qcp1_ap, qcp2_ap, false_and, true_and, and_true, and_false, and_self, if_false, if_true, reduceIte, Nat.reduceEqDiff, Int.reduceEq, Int.reduceNeg])
      | (with_reducible refine qW_some ?_; (try dsimp only); try simp only [qw_ap, qfl1_ap, qfl2_ap, qcp1_ap, qcp2_ap, false_and, true_and, and_true, and_false, and_self, if_false, if_true, reduceIte, Nat.reduceEqDiff, Int.reduceEq, Int.reduceNeg])
      | ((with_reducible refine qW_no ?_); omega)
      | with_reducible refine qW_pos rfl ?_
      | ((with_reducible refine qW_pos ?_ ?_); omega)
      | ((with_reducible refine qW_neg ?_ ?_); (first | omega | decide))
      | with_reducible refine qW_ite (fun _ => ?_) (fun _ => ?_)
      | dsimp only
    all_goals (repeat' with_reducible refine And.intro ?_ ?_)
    all_goals first
      | rfl
      | trivial
      | (intro hz; exact absurd hz (by decide))
      | (simp [qw_ap, cI, cB, cU]; done)
      | (intro _; simp (disch := omega) [qw_ap, cI, cB, cU, w32_id]; omega)
      | (intro _; simp only [cI, cB, cU]; grind [qw_ap, w32])

  · unfold oK2
    unfold qf_L_where qf_X11_where qf_X11_where_J21 qf_X11_where_J22 qf_X10_personFact qf_X11_isPerson qf_X18_where qf_X18_where_J25 qf_X18_where_J26
    repeat' first
      | with_reducible refine qW_within (fun _ => ?_) (fun _ _ => ?_)
      | with_reducible refine qW_isIn (fun _ => ?_) (fun _ _ => ?_)
      | with_reducible refine qW_na (fun _ => ?_) (fun _ => ?_)
      | with_reducible refine qW_ns (fun _ => ?_) (fun _ => ?_)
      | (with_reducible refine qW_goes (fun _ => ?_) (fun _ _ => ?_) (fun _ _ => ?_) <;> (try dsimp only) <;> (try simp only [qw_ap, qfl1_ap, qfl2_ap, qcp1_ap, qcp2_ap, false_and, true_and, and_true, and_false, and_self, if_false, if_true, reduceIte, Nat.reduceEqDiff, Int.reduceEq, Int.reduceNeg]))
      | (with_reducible refine qW_stays (by omega) (fun _ => ?_) (fun _ => ?_) <;> (try dsimp only) <;> (try simp only [qw_ap, qfl1_ap, qfl2_ap, qcp1_ap, qcp2_ap, false_and, true_and, and_true, and_false, and_self, if_false, if_true, reduceIte, Nat.reduceEqDiff, Int.reduceEq, Int.reduceNeg]))
      | (exfalso; omega)
      | with_reducible refine qW_bind ?_
      | (with_reducible refine qW_bnd ?_; try simp only [qw_ap, qfl1_ap, qfl2_ap, qcp1_ap, qcp2_ap, false_and, true_and, and_true, and_false, and_self, if_false, if_true, reduceIte, Nat.reduceEqDiff, Int.reduceEq, Int.reduceNeg])
      | (with_reducible refine qW_some ?_; (try dsimp only); try simp only [qw_ap, qfl1_ap, qfl2_ap, qcp1_ap, qcp2_ap, false_and, true_and, and_true, and_false, and_self, if_false, if_true, reduceIte, Nat.reduceEqDiff, Int.reduceEq, Int.reduceNeg])
      | ((with_reducible refine qW_no ?_); omega)
      | with_reducible refine qW_pos rfl ?_
      | ((with_reducible refine qW_pos ?_ ?_); omega)
      | ((with_reducible refine qW_neg ?_ ?_); (first | omega | decide))
      | with_reducible refine qW_ite (fun _ => ?_) (fun _ => ?_)
      | dsimp only
    all_goals (repeat' with_reducible refine And.intro ?_ ?_)
    all_goals first
      | rfl
      | trivial
      | (intro hz; exact absurd hz (by decide))
      | (simp [qw_ap, cI, cB, cU]; done)
      | (intro _; simp (disch := omega) [qw_ap, cI, cB, cU, w32_id]; omega)
      | (intro _; simp only [cI, cB, cU]; grind [qw_ap, w32])


set_option maxHeartbeats 400000 in
set_option maxRecDepth 20000 in
theorem op_act {M K : qm} {x1 x2 : Int} (c1 : -2147483648 ≤ x1 ∧ x1 ≤ 2147483647) (c2 : -2147483648 ≤ x2 ∧ x2 ≤ 2147483647) (h_built : R_built M K) (h_macts : R_macts M K) (h_mstate : R_mstate M K) : oK2 cI (qf_L_act 20000 x1 x2 M) (qf_X18_act 20000 x1 x2 K) (fun M' K' => True) := by
  have s_built := h_built
  unfold R_built at s_built
  by_cases hx : 0 ≤ x1 ∧ x1 < 20
  · have q0 := h_macts x1 hx.1 hx.2
    have q1 := h_mstate x1 hx.1 hx.2
    unfold oK2
    unfold qf_L_act qf_X11_act qf_X11_act_J24 qf_X11_act_J25 qf_X4_actFact qf_X4_isAct qf_X18_act qf_X18_act_J35 qf_X18_act_J36 qf_X14_act
    repeat' first
      | with_reducible refine qW_within (fun _ => ?_) (fun _ _ => ?_)
      | with_reducible refine qW_isIn (fun _ => ?_) (fun _ _ => ?_)
      | with_reducible refine qW_na (fun _ => ?_) (fun _ => ?_)
      | with_reducible refine qW_ns (fun _ => ?_) (fun _ => ?_)
      | (with_reducible refine qW_goes (fun _ => ?_) (fun _ _ => ?_) (fun _ _ => ?_) <;> (try dsimp only) <;> (try simp only [qw_ap, qfl1_ap, qfl2_ap, qcp1_ap, qcp2_ap, false_and, true_and, and_true, and_false, and_self, if_false, if_true, reduceIte, Nat.reduceEqDiff, Int.reduceEq, Int.reduceNeg]))
      | (with_reducible refine qW_stays (by omega) (fun _ => ?_) (fun _ => ?_) <;> (try dsimp only) <;> (try simp only [qw_ap, qfl1_ap, qfl2_ap, qcp1_ap, qcp2_ap, false_and, true_and, and_true, and_false, and_self, if_false, if_true, reduceIte, Nat.reduceEqDiff, Int.reduceEq, Int.reduceNeg]))
      | (exfalso; omega)
      | with_reducible refine qW_bind ?_
      | (with_reducible refine qW_bnd ?_; try simp only [qw_ap, qfl1_ap, qfl2_ap, qcp1_ap, qcp2_ap, false_and, true_and, and_true, and_false, and_self, if_false, if_true, reduceIte, Nat.reduceEqDiff, Int.reduceEq, Int.reduceNeg])
      | (with_reducible refine qW_some ?_; (try dsimp only); try simp only [qw_ap, qfl1_ap, qfl2_ap, qcp1_ap, qcp2_ap, false_and, true_and, and_true, and_false, and_self, if_false, if_true, reduceIte, Nat.reduceEqDiff, Int.reduceEq, Int.reduceNeg])
      | ((with_reducible refine qW_no ?_); omega)
      | with_reducible refine qW_pos rfl ?_
      | ((with_reducible refine qW_pos ?_ ?_); omega)
      | ((with_reducible refine qW_neg ?_ ?_); (first | omega | decide))
      | with_reducible refine qW_ite (fun _ => ?_) (fun _ => ?_)
      | dsimp only
    all_goals (repeat' with_reducible refine And.intro ?_ ?_)
    all_goals first
      | rfl
      | trivial
      | (intro hz; exact absurd hz (by decide))
      | (simp [qw_ap, cI, cB, cU]; done)
      | (intro _; simp (disch := omega) [qw_ap, cI, cB, cU, w32_id]; omega)
      | (intro _; simp only [cI, cB, cU]; grind [qw_ap, w32])

  · unfold oK2
    unfold qf_L_act qf_X11_act qf_X11_act_J24 qf_X11_act_J25 qf_X4_actFact qf_X4_isAct qf_X18_act qf_X18_act_J35 qf_X18_act_J36 qf_X14_act
    repeat' first
      | with_reducible refine qW_within (fun _ => ?_) (fun _ _ => ?_)
      | with_reducible refine qW_isIn (fun _ => ?_) (fun _ _ => ?_)
      | with_reducible refine qW_na (fun _ => ?_) (fun _ => ?_)
      | with_reducible refine qW_ns (fun _ => ?_) (fun _ => ?_)
      | (with_reducible refine qW_goes (fun _ => ?_) (fun _ _ => ?_) (fun _ _ => ?_) <;> (try dsimp only) <;> (try simp only [qw_ap, qfl1_ap, qfl2_ap, qcp1_ap, qcp2_ap, false_and, true_and, and_true, and_false, and_self, if_false, if_true, reduceIte, Nat.reduceEqDiff, Int.reduceEq, Int.reduceNeg]))
      | (with_reducible refine qW_stays (by omega) (fun _ => ?_) (fun _ => ?_) <;> (try dsimp only) <;> (try simp only [qw_ap, qfl1_ap, qfl2_ap, qcp1_ap, qcp2_ap, false_and, true_and, and_true, and_false, and_self, if_false, if_true, reduceIte, Nat.reduceEqDiff, Int.reduceEq, Int.reduceNeg]))
      | (exfalso; omega)
      | with_reducible refine qW_bind ?_
      | (with_reducible refine qW_bnd ?_; try simp only [qw_ap, qfl1_ap, qfl2_ap, qcp1_ap, qcp2_ap, false_and, true_and, and_true, and_false, and_self, if_false, if_true, reduceIte, Nat.reduceEqDiff, Int.reduceEq, Int.reduceNeg])
      | (with_reducible refine qW_some ?_; (try dsimp only); try simp only [qw_ap, qfl1_ap, qfl2_ap, qcp1_ap, qcp2_ap, false_and, true_and, and_true, and_false, and_self, if_false, if_true, reduceIte, Nat.reduceEqDiff, Int.reduceEq, Int.reduceNeg])
      | ((with_reducible refine qW_no ?_); omega)
      | with_reducible refine qW_pos rfl ?_
      | ((with_reducible refine qW_pos ?_ ?_); omega)
      | ((with_reducible refine qW_neg ?_ ?_); (first | omega | decide))
      | with_reducible refine qW_ite (fun _ => ?_) (fun _ => ?_)
      | dsimp only
    all_goals (repeat' with_reducible refine And.intro ?_ ?_)
    all_goals first
      | rfl
      | trivial
      | (intro hz; exact absurd hz (by decide))
      | (simp [qw_ap, cI, cB, cU]; done)
      | (intro _; simp (disch := omega) [qw_ap, cI, cB, cU, w32_id]; omega)
      | (intro _; simp only [cI, cB, cU]; grind [qw_ap, w32])


set_option maxHeartbeats 400000 in
set_option maxRecDepth 20000 in
theorem op_listen {M K : qm} {x1 x2 x3 : Int} (b3 : x3 = 0 ∨ x3 = 1) (c1 : -2147483648 ≤ x1 ∧ x1 ≤ 2147483647) (c2 : -2147483648 ≤ x2 ∧ x2 ≤ 2147483647) (c3 : -2147483648 ≤ x3 ∧ x3 ≤ 2147483647) (h_built : R_built M K) (h_blisten : R_blisten M K) : oK2 cB (qf_L_listen 20000 x1 x2 x3 M) (qf_X18_listen 20000 x1 x2 x3 K) (fun M' K' => R_blisten M' K') := by
  have s_built := h_built
  unfold R_built at s_built
  by_cases hx : 0 ≤ x1 ∧ x1 < 8 ∧ 0 ≤ x2 ∧ x2 < 256
  · have q0 := h_blisten (256 * x1 + x2) (by omega) (by omega)
    have q1 := (w32_id (x := 256 * x1) (by omega) (by omega))
    have q2 := (w32_id (x := 256 * x1 + x2) (by omega) (by omega))
    have q3 := (w32_id (x := x1 * 256) (by omega) (by omega))
    have q4 := (w32_id (x := x1 * 256 + x2) (by omega) (by omega))
    have q5 := (show x1 * 256 + x2 = 256 * x1 + x2 by omega)
    unfold oK2
    unfold qf_L_listen qf_L_listen_J18 qf_X11_listen qf_X11_listen_J22 qf_X11_listen_J23 qf_X1_setListening qf_X11_isStation qf_X18_listen qf_X18_listen_J24 qf_X18_listen_J25
    repeat' first
      | with_reducible refine qW_within (fun _ => ?_) (fun _ _ => ?_)
      | with_reducible refine qW_isIn (fun _ => ?_) (fun _ _ => ?_)
      | with_reducible refine qW_na (fun _ => ?_) (fun _ => ?_)
      | with_reducible refine qW_ns (fun _ => ?_) (fun _ => ?_)
      | (with_reducible refine qW_goes (fun _ => ?_) (fun _ _ => ?_) (fun _ _ => ?_) <;> (try dsimp only) <;> (try simp only [qw_ap, qfl1_ap, qfl2_ap, qcp1_ap, qcp2_ap, false_and, true_and, and_true, and_false, and_self, if_false, if_true, reduceIte, Nat.reduceEqDiff, Int.reduceEq, Int.reduceNeg]))
      | (with_reducible refine qW_stays (by omega) (fun _ => ?_) (fun _ => ?_) <;> (try dsimp only) <;> (try simp only [qw_ap, qfl1_ap, qfl2_ap, qcp1_ap, qcp2_ap, false_and, true_and, and_true, and_false, and_self, if_false, if_true, reduceIte, Nat.reduceEqDiff, Int.reduceEq, Int.reduceNeg]))
      | (exfalso; omega)
      | with_reducible refine qW_bind ?_
      | (with_reducible refine qW_bnd ?_; try simp only [qw_ap, qfl1_ap, qfl2_ap, qcp1_ap, qcp2_ap, false_and, true_and, and_true, and_false, and_self, if_false, if_true, reduceIte, Nat.reduceEqDiff, Int.reduceEq, Int.reduceNeg])
      | (with_reducible refine qW_some ?_; (try dsimp only); try simp only [qw_ap, qfl1_ap, qfl2_ap, qcp1_ap, qcp2_ap, false_and, true_and, and_true, and_false, and_self, if_false, if_true, reduceIte, Nat.reduceEqDiff, Int.reduceEq, Int.reduceNeg])
      | ((with_reducible refine qW_no ?_); omega)
      | with_reducible refine qW_pos rfl ?_
      | ((with_reducible refine qW_pos ?_ ?_); omega)
      | ((with_reducible refine qW_neg ?_ ?_); (first | omega | decide))
      | with_reducible refine qW_ite (fun _ => ?_) (fun _ => ?_)
      | dsimp only
    all_goals (repeat' with_reducible refine And.intro ?_ ?_)
    all_goals first
      | rfl
      | trivial
      | exact R_blisten_x (M := M) (K := K) (fun _ _ => rfl) (fun _ _ => rfl) h_blisten
      | (unfold R_blisten; unfold R_blisten at h_blisten; grind [qw_ap])
      | (intro hz; exact absurd hz (by decide))
      | (simp [qw_ap, cI, cB, cU]; done)
      | (intro _; simp (disch := omega) [qw_ap, cI, cB, cU, w32_id]; omega)
      | (intro _; simp only [cI, cB, cU]; grind [qw_ap, w32])

  · unfold oK2
    unfold qf_L_listen qf_L_listen_J18 qf_X11_listen qf_X11_listen_J22 qf_X11_listen_J23 qf_X1_setListening qf_X11_isStation qf_X18_listen qf_X18_listen_J24 qf_X18_listen_J25
    repeat' first
      | with_reducible refine qW_within (fun _ => ?_) (fun _ _ => ?_)
      | with_reducible refine qW_isIn (fun _ => ?_) (fun _ _ => ?_)
      | with_reducible refine qW_na (fun _ => ?_) (fun _ => ?_)
      | with_reducible refine qW_ns (fun _ => ?_) (fun _ => ?_)
      | (with_reducible refine qW_goes (fun _ => ?_) (fun _ _ => ?_) (fun _ _ => ?_) <;> (try dsimp only) <;> (try simp only [qw_ap, qfl1_ap, qfl2_ap, qcp1_ap, qcp2_ap, false_and, true_and, and_true, and_false, and_self, if_false, if_true, reduceIte, Nat.reduceEqDiff, Int.reduceEq, Int.reduceNeg]))
      | (with_reducible refine qW_stays (by omega) (fun _ => ?_) (fun _ => ?_) <;> (try dsimp only) <;> (try simp only [qw_ap, qfl1_ap, qfl2_ap, qcp1_ap, qcp2_ap, false_and, true_and, and_true, and_false, and_self, if_false, if_true, reduceIte, Nat.reduceEqDiff, Int.reduceEq, Int.reduceNeg]))
      | (exfalso; omega)
      | with_reducible refine qW_bind ?_
      | (with_reducible refine qW_bnd ?_; try simp only [qw_ap, qfl1_ap, qfl2_ap, qcp1_ap, qcp2_ap, false_and, true_and, and_true, and_false, and_self, if_false, if_true, reduceIte, Nat.reduceEqDiff, Int.reduceEq, Int.reduceNeg])
      | (with_reducible refine qW_some ?_; (try dsimp only); try simp only [qw_ap, qfl1_ap, qfl2_ap, qcp1_ap, qcp2_ap, false_and, true_and, and_true, and_false, and_self, if_false, if_true, reduceIte, Nat.reduceEqDiff, Int.reduceEq, Int.reduceNeg])
      | ((with_reducible refine qW_no ?_); omega)
      | with_reducible refine qW_pos rfl ?_
      | ((with_reducible refine qW_pos ?_ ?_); omega)
      | ((with_reducible refine qW_neg ?_ ?_); (first | omega | decide))
      | with_reducible refine qW_ite (fun _ => ?_) (fun _ => ?_)
      | dsimp only
    all_goals (repeat' with_reducible refine And.intro ?_ ?_)
    all_goals first
      | rfl
      | trivial
      | exact R_blisten_x (M := M) (K := K) (fun _ _ => rfl) (fun _ _ => rfl) h_blisten
      | (unfold R_blisten; unfold R_blisten at h_blisten; grind [qw_ap])
      | (intro hz; exact absurd hz (by decide))
      | (simp [qw_ap, cI, cB, cU]; done)
      | (intro _; simp (disch := omega) [qw_ap, cI, cB, cU, w32_id]; omega)
      | (intro _; simp only [cI, cB, cU]; grind [qw_ap, w32])


set_option maxHeartbeats 400000 in
set_option maxRecDepth 20000 in
theorem op_free {M K : qm} {x1 x2 x3 : Int} (c1 : -2147483648 ≤ x1 ∧ x1 ≤ 2147483647) (c2 : -2147483648 ≤ x2 ∧ x2 ≤ 2147483647) (c3 : -2147483648 ≤ x3 ∧ x3 ≤ 2147483647) (h_built : R_built M K) (h_carn : R_carn M K) (h_cars : R_cars M K) (h_carz : R_carz M K) (h_begun : R_begun M K) (h_begunz : R_begunz M K) : oK2 cU (qf_L_free 20000 x1 x2 x3 M) (qf_X18_free 20000 x1 x2 x3 K) (fun M' K' => R_cars M' K' ∧ R_carz M' K' ∧ R_begun M' K' ∧ R_begunz M' K') := by
  have s_built := h_built
  unfold R_built at s_built
  have s_carn := h_carn
  unfold R_carn at s_carn
  have w1 : w32 (M 1337 0 0 - 1) = M 1337 0 0 - 1 := w32_id (by omega) (by omega)
  by_cases hx : 0 ≤ x1 ∧ x1 < M 1337 0 0
  · have q0 := h_cars x1 hx.1 hx.2
    unfold oK2
    unfold qf_L_free qf_X11_free qf_X11_isFloor qf_X11_free_J30 qf_X11_free_J31 qf_X3_setFree qf_X11_isCar qf_X18_free qf_X13_isFloor qf_X18_free_J37 qf_X18_free_J38
    repeat' first
      | with_reducible refine qW_within (fun _ => ?_) (fun _ _ => ?_)
      | with_reducible refine qW_isIn (fun _ => ?_) (fun _ _ => ?_)
      | with_reducible refine qW_na (fun _ => ?_) (fun _ => ?_)
      | with_reducible refine qW_ns (fun _ => ?_) (fun _ => ?_)
      | (with_reducible refine qW_goes (fun _ => ?_) (fun _ _ => ?_) (fun _ _ => ?_) <;> (try dsimp only) <;> (try simp only [qw_ap, qfl1_ap, qfl2_ap, qcp1_ap, qcp2_ap, false_and, true_and, and_true, and_false, and_self, if_false, if_true, reduceIte, Nat.reduceEqDiff, Int.reduceEq, Int.reduceNeg]))
      | (with_reducible refine qW_stays (by omega) (fun _ => ?_) (fun _ => ?_) <;> (try dsimp only) <;> (try simp only [qw_ap, qfl1_ap, qfl2_ap, qcp1_ap, qcp2_ap, false_and, true_and, and_true, and_false, and_self, if_false, if_true, reduceIte, Nat.reduceEqDiff, Int.reduceEq, Int.reduceNeg]))
      | (exfalso; omega)
      | with_reducible refine qW_bind ?_
      | (with_reducible refine qW_bnd ?_; try simp only [qw_ap, qfl1_ap, qfl2_ap, qcp1_ap, qcp2_ap, false_and, true_and, and_true, and_false, and_self, if_false, if_true, reduceIte, Nat.reduceEqDiff, Int.reduceEq, Int.reduceNeg])
      | (with_reducible refine qW_some ?_; (try dsimp only); try simp only [qw_ap, qfl1_ap, qfl2_ap, qcp1_ap, qcp2_ap, false_and, true_and, and_true, and_false, and_self, if_false, if_true, reduceIte, Nat.reduceEqDiff, Int.reduceEq, Int.reduceNeg])
      | ((with_reducible refine qW_no ?_); omega)
      | with_reducible refine qW_pos rfl ?_
      | ((with_reducible refine qW_pos ?_ ?_); omega)
      | ((with_reducible refine qW_neg ?_ ?_); (first | omega | decide))
      | with_reducible refine qW_ite (fun _ => ?_) (fun _ => ?_)
      | dsimp only
    all_goals (repeat' with_reducible refine And.intro ?_ ?_)
    all_goals first
      | rfl
      | trivial
      | exact R_cars_x (M := M) (K := K) rfl (fun _ _ => rfl) (fun _ _ => rfl) (fun _ _ => rfl) (fun _ _ => rfl) (fun _ _ => rfl) (fun _ _ => rfl) h_cars
      | exact R_carz_x (M := M) (K := K) rfl (fun _ _ => rfl) h_carz
      | exact R_begun_x (M := M) (K := K) rfl rfl (fun _ _ => rfl) (fun _ _ => rfl) (fun _ _ => rfl) h_begun
      | exact R_begunz_x (M := M) (K := K) rfl rfl (fun _ _ => rfl) (fun _ _ => rfl) h_begunz
      | (unfold R_cars; unfold R_cars at h_cars; grind [qw_ap])
      | (unfold R_carz; unfold R_carz at h_carz; grind [qw_ap])
      | (unfold R_begun; unfold R_begun at h_begun; grind [qw_ap])
      | (unfold R_begunz; unfold R_begunz at h_begunz; grind [qw_ap])
      | (intro hz; exact absurd hz (by decide))
      | (simp [qw_ap, cI, cB, cU]; done)
      | (intro _; simp (disch := omega) [qw_ap, cI, cB, cU, w32_id]; omega)
      | (intro _; simp only [cI, cB, cU]; grind [qw_ap, w32])

  · unfold oK2
    unfold qf_L_free qf_X11_free qf_X11_isFloor qf_X11_free_J30 qf_X11_free_J31 qf_X3_setFree qf_X11_isCar qf_X18_free qf_X13_isFloor qf_X18_free_J37 qf_X18_free_J38
    repeat' first
      | with_reducible refine qW_within (fun _ => ?_) (fun _ _ => ?_)
      | with_reducible refine qW_isIn (fun _ => ?_) (fun _ _ => ?_)
      | with_reducible refine qW_na (fun _ => ?_) (fun _ => ?_)
      | with_reducible refine qW_ns (fun _ => ?_) (fun _ => ?_)
      | (with_reducible refine qW_goes (fun _ => ?_) (fun _ _ => ?_) (fun _ _ => ?_) <;> (try dsimp only) <;> (try simp only [qw_ap, qfl1_ap, qfl2_ap, qcp1_ap, qcp2_ap, false_and, true_and, and_true, and_false, and_self, if_false, if_true, reduceIte, Nat.reduceEqDiff, Int.reduceEq, Int.reduceNeg]))
      | (with_reducible refine qW_stays (by omega) (fun _ => ?_) (fun _ => ?_) <;> (try dsimp only) <;> (try simp only [qw_ap, qfl1_ap, qfl2_ap, qcp1_ap, qcp2_ap, false_and, true_and, and_true, and_false, and_self, if_false, if_true, reduceIte, Nat.reduceEqDiff, Int.reduceEq, Int.reduceNeg]))
      | (exfalso; omega)
      | with_reducible refine qW_bind ?_
      | (with_reducible refine qW_bnd ?_; try simp only [qw_ap, qfl1_ap, qfl2_ap, qcp1_ap, qcp2_ap, false_and, true_and, and_true, and_false, and_self, if_false, if_true, reduceIte, Nat.reduceEqDiff, Int.reduceEq, Int.reduceNeg])
      | (with_reducible refine qW_some ?_; (try dsimp only); try simp only [qw_ap, qfl1_ap, qfl2_ap, qcp1_ap, qcp2_ap, false_and, true_and, and_true, and_false, and_self, if_false, if_true, reduceIte, Nat.reduceEqDiff, Int.reduceEq, Int.reduceNeg])
      | ((with_reducible refine qW_no ?_); omega)
      | with_reducible refine qW_pos rfl ?_
      | ((with_reducible refine qW_pos ?_ ?_); omega)
      | ((with_reducible refine qW_neg ?_ ?_); (first | omega | decide))
      | with_reducible refine qW_ite (fun _ => ?_) (fun _ => ?_)
      | dsimp only
    all_goals (repeat' with_reducible refine And.intro ?_ ?_)
    all_goals first
      | rfl
      | trivial
      | exact R_cars_x (M := M) (K := K) rfl (fun _ _ => rfl) (fun _ _ => rfl) (fun _ _ => rfl) (fun _ _ => rfl) (fun _ _ => rfl) (fun _ _ => rfl) h_cars
      | exact R_carz_x (M := M) (K := K) rfl (fun _ _ => rfl) h_carz
      | exact R_begun_x (M := M) (K := K) rfl rfl (fun _ _ => rfl) (fun _ _ => rfl) (fun _ _ => rfl) h_begun
      | exact R_begunz_x (M := M) (K := K) rfl rfl (fun _ _ => rfl) (fun _ _ => rfl) h_begunz
      | (unfold R_cars; unfold R_cars at h_cars; grind [qw_ap])
      | (unfold R_carz; unfold R_carz at h_carz; grind [qw_ap])
      | (unfold R_begun; unfold R_begun at h_begun; grind [qw_ap])
      | (unfold R_begunz; unfold R_begunz at h_begunz; grind [qw_ap])
      | (intro hz; exact absurd hz (by decide))
      | (simp [qw_ap, cI, cB, cU]; done)
      | (intro _; simp (disch := omega) [qw_ap, cI, cB, cU, w32_id]; omega)
      | (intro _; simp only [cI, cB, cU]; grind [qw_ap, w32])


set_option maxHeartbeats 400000 in
set_option maxRecDepth 20000 in
theorem op_span {M K : qm} {x1 x2 x3 : Int} (c1 : -2147483648 ≤ x1 ∧ x1 ≤ 2147483647) (c2 : -2147483648 ≤ x2 ∧ x2 ≤ 2147483647) (c3 : -2147483648 ≤ x3 ∧ x3 ≤ 2147483647) (h_built : R_built M K) (h_carn : R_carn M K) (h_cars : R_cars M K) (h_carz : R_carz M K) (h_begun : R_begun M K) (h_begunz : R_begunz M K) : oK2 cU (qf_L_span 20000 x1 x2 x3 M) (qf_X18_span 20000 x1 x2 x3 K) (fun M' K' => R_cars M' K' ∧ R_carz M' K' ∧ R_begun M' K' ∧ R_begunz M' K') := by
  have s_built := h_built
  unfold R_built at s_built
  have s_carn := h_carn
  unfold R_carn at s_carn
  have w1 : w32 (M 1337 0 0 - 1) = M 1337 0 0 - 1 := w32_id (by omega) (by omega)
  by_cases hx : 0 ≤ x1 ∧ x1 < M 1337 0 0
  · have q0 := h_cars x1 hx.1 hx.2
    unfold oK2
    unfold qf_L_span qf_X11_span qf_X11_isFloor qf_X11_span_J31 qf_X11_span_J32 qf_X3_setSpan qf_X11_isCar qf_X18_span qf_X13_isFloor qf_X18_span_J38 qf_X18_span_J39
    repeat' first
      | with_reducible refine qW_within (fun _ => ?_) (fun _ _ => ?_)
      | with_reducible refine qW_isIn (fun _ => ?_) (fun _ _ => ?_)
      | with_reducible refine qW_na (fun _ => ?_) (fun _ => ?_)
      | with_reducible refine qW_ns (fun _ => ?_) (fun _ => ?_)
      | (with_reducible refine qW_goes (fun _ => ?_) (fun _ _ => ?_) (fun _ _ => ?_) <;> (try dsimp only) <;> (try simp only [qw_ap, qfl1_ap, qfl2_ap, qcp1_ap, qcp2_ap, false_and, true_and, and_true, and_false, and_self, if_false, if_true, reduceIte, Nat.reduceEqDiff, Int.reduceEq, Int.reduceNeg]))
      | (with_reducible refine qW_stays (by omega) (fun _ => ?_) (fun _ => ?_) <;> (try dsimp only) <;> (try simp only [qw_ap, qfl1_ap, qfl2_ap, qcp1_ap, qcp2_ap, false_and, true_and, and_true, and_false, and_self, if_false, if_true, reduceIte, Nat.reduceEqDiff, Int.reduceEq, Int.reduceNeg]))
      | (exfalso; omega)
      | with_reducible refine qW_bind ?_
      | (with_reducible refine qW_bnd ?_; try simp only [qw_ap, qfl1_ap, qfl2_ap, qcp1_ap, qcp2_ap, false_and, true_and, and_true, and_false, and_self, if_false, if_true, reduceIte, Nat.reduceEqDiff, Int.reduceEq, Int.reduceNeg])
      | (with_reducible refine qW_some ?_; (try dsimp only); try simp only [qw_ap, qfl1_ap, qfl2_ap, qcp1_ap, qcp2_ap, false_and, true_and, and_true, and_false, and_self, if_false, if_true, reduceIte, Nat.reduceEqDiff, Int.reduceEq, Int.reduceNeg])
      | ((with_reducible refine qW_no ?_); omega)
      | with_reducible refine qW_pos rfl ?_
      | ((with_reducible refine qW_pos ?_ ?_); omega)
      | ((with_reducible refine qW_neg ?_ ?_); (first | omega | decide))
      | with_reducible refine qW_ite (fun _ => ?_) (fun _ => ?_)
      | dsimp only
    all_goals (repeat' with_reducible refine And.intro ?_ ?_)
    all_goals first
      | rfl
      | trivial
      | exact R_cars_x (M := M) (K := K) rfl (fun _ _ => rfl) (fun _ _ => rfl) (fun _ _ => rfl) (fun _ _ => rfl) (fun _ _ => rfl) (fun _ _ => rfl) h_cars
      | exact R_carz_x (M := M) (K := K) rfl (fun _ _ => rfl) h_carz
      | exact R_begun_x (M := M) (K := K) rfl rfl (fun _ _ => rfl) (fun _ _ => rfl) (fun _ _ => rfl) h_begun
      | exact R_begunz_x (M := M) (K := K) rfl rfl (fun _ _ => rfl) (fun _ _ => rfl) h_begunz
      | (unfold R_cars; unfold R_cars at h_cars; grind [qw_ap])
      | (unfold R_carz; unfold R_carz at h_carz; grind [qw_ap])
      | (unfold R_begun; unfold R_begun at h_begun; grind [qw_ap])
      | (unfold R_begunz; unfold R_begunz at h_begunz; grind [qw_ap])
      | (intro hz; exact absurd hz (by decide))
      | (simp [qw_ap, cI, cB, cU]; done)
      | (intro _; simp (disch := omega) [qw_ap, cI, cB, cU, w32_id]; omega)
      | (intro _; simp only [cI, cB, cU]; grind [qw_ap, w32])

  · unfold oK2
    unfold qf_L_span qf_X11_span qf_X11_isFloor qf_X11_span_J31 qf_X11_span_J32 qf_X3_setSpan qf_X11_isCar qf_X18_span qf_X13_isFloor qf_X18_span_J38 qf_X18_span_J39
    repeat' first
      | with_reducible refine qW_within (fun _ => ?_) (fun _ _ => ?_)
      | with_reducible refine qW_isIn (fun _ => ?_) (fun _ _ => ?_)
      | with_reducible refine qW_na (fun _ => ?_) (fun _ => ?_)
      | with_reducible refine qW_ns (fun _ => ?_) (fun _ => ?_)
      | (with_reducible refine qW_goes (fun _ => ?_) (fun _ _ => ?_) (fun _ _ => ?_) <;> (try dsimp only) <;> (try simp only [qw_ap, qfl1_ap, qfl2_ap, qcp1_ap, qcp2_ap, false_and, true_and, and_true, and_false, and_self, if_false, if_true, reduceIte, Nat.reduceEqDiff, Int.reduceEq, Int.reduceNeg]))
      | (with_reducible refine qW_stays (by omega) (fun _ => ?_) (fun _ => ?_) <;> (try dsimp only) <;> (try simp only [qw_ap, qfl1_ap, qfl2_ap, qcp1_ap, qcp2_ap, false_and, true_and, and_true, and_false, and_self, if_false, if_true, reduceIte, Nat.reduceEqDiff, Int.reduceEq, Int.reduceNeg]))
      | (exfalso; omega)
      | with_reducible refine qW_bind ?_
      | (with_reducible refine qW_bnd ?_; try simp only [qw_ap, qfl1_ap, qfl2_ap, qcp1_ap, qcp2_ap, false_and, true_and, and_true, and_false, and_self, if_false, if_true, reduceIte, Nat.reduceEqDiff, Int.reduceEq, Int.reduceNeg])
      | (with_reducible refine qW_some ?_; (try dsimp only); try simp only [qw_ap, qfl1_ap, qfl2_ap, qcp1_ap, qcp2_ap, false_and, true_and, and_true, and_false, and_self, if_false, if_true, reduceIte, Nat.reduceEqDiff, Int.reduceEq, Int.reduceNeg])
      | ((with_reducible refine qW_no ?_); omega)
      | with_reducible refine qW_pos rfl ?_
      | ((with_reducible refine qW_pos ?_ ?_); omega)
      | ((with_reducible refine qW_neg ?_ ?_); (first | omega | decide))
      | with_reducible refine qW_ite (fun _ => ?_) (fun _ => ?_)
      | dsimp only
    all_goals (repeat' with_reducible refine And.intro ?_ ?_)
    all_goals first
      | rfl
      | trivial
      | exact R_cars_x (M := M) (K := K) rfl (fun _ _ => rfl) (fun _ _ => rfl) (fun _ _ => rfl) (fun _ _ => rfl) (fun _ _ => rfl) (fun _ _ => rfl) h_cars
      | exact R_carz_x (M := M) (K := K) rfl (fun _ _ => rfl) h_carz
      | exact R_begun_x (M := M) (K := K) rfl rfl (fun _ _ => rfl) (fun _ _ => rfl) (fun _ _ => rfl) h_begun
      | exact R_begunz_x (M := M) (K := K) rfl rfl (fun _ _ => rfl) (fun _ _ => rfl) h_begunz
      | (unfold R_cars; unfold R_cars at h_cars; grind [qw_ap])
      | (unfold R_carz; unfold R_carz at h_carz; grind [qw_ap])
      | (unfold R_begun; unfold R_begun at h_begun; grind [qw_ap])
      | (unfold R_begunz; unfold R_begunz at h_begunz; grind [qw_ap])
      | (intro hz; exact absurd hz (by decide))
      | (simp [qw_ap, cI, cB, cU]; done)
      | (intro _; simp (disch := omega) [qw_ap, cI, cB, cU, w32_id]; omega)
      | (intro _; simp only [cI, cB, cU]; grind [qw_ap, w32])


set_option maxHeartbeats 400000 in
set_option maxRecDepth 20000 in
theorem op_given {M K : qm} {x1 x2 : Int} (c1 : -2147483648 ≤ x1 ∧ x1 ≤ 2147483647) (c2 : -2147483648 ≤ x2 ∧ x2 ≤ 2147483647) (h_built : R_built M K) (h_calln : R_calln M K) (h_given : R_given M K) : oK2 cI (qf_L_given 20000 x1 x2 M) (qf_X18_given 20000 x1 x2 K) (fun M' K' => True) := by
  have s_built := h_built
  unfold R_built at s_built
  have s_calln := h_calln
  unfold R_calln at s_calln
  have w1 : w32 (M 1337 2 0 - 1) = M 1337 2 0 - 1 := w32_id (by omega) (by omega)
  by_cases hx : 0 ≤ x1 ∧ x1 < M 1337 2 0
  · have q0 := h_given x1 hx.1 hx.2
    unfold oK2
    unfold qf_L_given qf_X11_given qf_X11_given_J30 qf_X11_given_J31 qf_X18_given qf_X18_given_J27 qf_X18_given_J28 qf_X13_given
    repeat' first
      | with_reducible refine qW_within (fun _ => ?_) (fun _ _ => ?_)
      | with_reducible refine qW_isIn (fun _ => ?_) (fun _ _ => ?_)
      | with_reducible refine qW_na (fun _ => ?_) (fun _ => ?_)
      | with_reducible refine qW_ns (fun _ => ?_) (fun _ => ?_)
      | (with_reducible refine qW_goes (fun _ => ?_) (fun _ _ => ?_) (fun _ _ => ?_) <;> (try dsimp only) <;> (try simp only [qw_ap, qfl1_ap, qfl2_ap, qcp1_ap, qcp2_ap, false_and, true_and, and_true, and_false, and_self, if_false, if_true, reduceIte, Nat.reduceEqDiff, Int.reduceEq, Int.reduceNeg]))
      | (with_reducible refine qW_stays (by omega) (fun _ => ?_) (fun _ => ?_) <;> (try dsimp only) <;> (try simp only [qw_ap, qfl1_ap, qfl2_ap, qcp1_ap, qcp2_ap, false_and, true_and, and_true, and_false, and_self, if_false, if_true, reduceIte, Nat.reduceEqDiff, Int.reduceEq, Int.reduceNeg]))
      | (exfalso; omega)
      | with_reducible refine qW_bind ?_
      | (with_reducible refine qW_bnd ?_; try simp only [qw_ap, qfl1_ap, qfl2_ap, qcp1_ap, qcp2_ap, false_and, true_and, and_true, and_false, and_self, if_false, if_true, reduceIte, Nat.reduceEqDiff, Int.reduceEq, Int.reduceNeg])
      | (with_reducible refine qW_some ?_; (try dsimp only); try simp only [qw_ap, qfl1_ap, qfl2_ap, qcp1_ap, qcp2_ap, false_and, true_and, and_true, and_false, and_self, if_false, if_true, reduceIte, Nat.reduceEqDiff, Int.reduceEq, Int.reduceNeg])
      | ((with_reducible refine qW_no ?_); omega)
      | with_reducible refine qW_pos rfl ?_
      | ((with_reducible refine qW_pos ?_ ?_); omega)
      | ((with_reducible refine qW_neg ?_ ?_); (first | omega | decide))
      | with_reducible refine qW_ite (fun _ => ?_) (fun _ => ?_)
      | dsimp only
    all_goals (repeat' with_reducible refine And.intro ?_ ?_)
    all_goals first
      | rfl
      | trivial
      | (intro hz; exact absurd hz (by decide))
      | (simp [qw_ap, cI, cB, cU]; done)
      | (intro _; simp (disch := omega) [qw_ap, cI, cB, cU, w32_id]; omega)
      | (intro _; simp only [cI, cB, cU]; grind [qw_ap, w32])

  · unfold oK2
    unfold qf_L_given qf_X11_given qf_X11_given_J30 qf_X11_given_J31 qf_X18_given qf_X18_given_J27 qf_X18_given_J28 qf_X13_given
    repeat' first
      | with_reducible refine qW_within (fun _ => ?_) (fun _ _ => ?_)
      | with_reducible refine qW_isIn (fun _ => ?_) (fun _ _ => ?_)
      | with_reducible refine qW_na (fun _ => ?_) (fun _ => ?_)
      | with_reducible refine qW_ns (fun _ => ?_) (fun _ => ?_)
      | (with_reducible refine qW_goes (fun _ => ?_) (fun _ _ => ?_) (fun _ _ => ?_) <;> (try dsimp only) <;> (try simp only [qw_ap, qfl1_ap, qfl2_ap, qcp1_ap, qcp2_ap, false_and, true_and, and_true, and_false, and_self, if_false, if_true, reduceIte, Nat.reduceEqDiff, Int.reduceEq, Int.reduceNeg]))
      | (with_reducible refine qW_stays (by omega) (fun _ => ?_) (fun _ => ?_) <;> (try dsimp only) <;> (try simp only [qw_ap, qfl1_ap, qfl2_ap, qcp1_ap, qcp2_ap, false_and, true_and, and_true, and_false, and_self, if_false, if_true, reduceIte, Nat.reduceEqDiff, Int.reduceEq, Int.reduceNeg]))
      | (exfalso; omega)
      | with_reducible refine qW_bind ?_
      | (with_reducible refine qW_bnd ?_; try simp only [qw_ap, qfl1_ap, qfl2_ap, qcp1_ap, qcp2_ap, false_and, true_and, and_true, and_false, and_self, if_false, if_true, reduceIte, Nat.reduceEqDiff, Int.reduceEq, Int.reduceNeg])
      | (with_reducible refine qW_some ?_; (try dsimp only); try simp only [qw_ap, qfl1_ap, qfl2_ap, qcp1_ap, qcp2_ap, false_and, true_and, and_true, and_false, and_self, if_false, if_true, reduceIte, Nat.reduceEqDiff, Int.reduceEq, Int.reduceNeg])
      | ((with_reducible refine qW_no ?_); omega)
      | with_reducible refine qW_pos rfl ?_
      | ((with_reducible refine qW_pos ?_ ?_); omega)
      | ((with_reducible refine qW_neg ?_ ?_); (first | omega | decide))
      | with_reducible refine qW_ite (fun _ => ?_) (fun _ => ?_)
      | dsimp only
    all_goals (repeat' with_reducible refine And.intro ?_ ?_)
    all_goals first
      | rfl
      | trivial
      | (intro hz; exact absurd hz (by decide))
      | (simp [qw_ap, cI, cB, cU]; done)
      | (intro _; simp (disch := omega) [qw_ap, cI, cB, cU, w32_id]; omega)
      | (intro _; simp only [cI, cB, cU]; grind [qw_ap, w32])


set_option maxHeartbeats 400000 in
set_option maxRecDepth 20000 in
theorem op_car {M K : qm} {x1 x2 : Int} (c1 : -2147483648 ≤ x1 ∧ x1 ≤ 2147483647) (c2 : -2147483648 ≤ x2 ∧ x2 ≤ 2147483647) (h_built : R_built M K) (h_carn : R_carn M K) (h_cars : R_cars M K) (h_carz : R_carz M K) (h_begun : R_begun M K) (h_begunz : R_begunz M K) (h_begunr : R_begunr M K) : oK2 cI (qf_L_car 20000 x1 x2 M) (qf_X18_car 20000 x1 x2 K) (fun M' K' => R_carn M' K' ∧ R_cars M' K' ∧ R_carz M' K' ∧ R_begun M' K' ∧ R_begunz M' K' ∧ R_begunr M' K') := by
  have s_built := h_built
  unfold R_built at s_built
  have s_carn := h_carn
  unfold R_carn at s_carn
  unfold oK2
  unfold qf_L_car qf_X11_car qf_X11_car_J20 qf_X11_car_J21 qf_X11_car_J46 qf_X11_car_J47 qf_X3_addCar qf_X11_isFloor qf_X18_car qf_X18_car_J22 qf_X18_car_J23 qf_X18_car_J45 qf_X18_car_J46 qf_X13_car qf_X13_isFloor
  repeat' first
    | with_reducible refine qW_within (fun _ => ?_) (fun _ _ => ?_)
    | with_reducible refine qW_isIn (fun _ => ?_) (fun _ _ => ?_)
    | with_reducible refine qW_na (fun _ => ?_) (fun _ => ?_)
    | with_reducible refine qW_ns (fun _ => ?_) (fun _ => ?_)
    | (with_reducible refine qW_goes (fun _ => ?_) (fun _ _ => ?_) (fun _ _ => ?_) <;> (try dsimp only) <;> (try simp only [qw_ap, qfl1_ap, qfl2_ap, qcp1_ap, qcp2_ap, false_and, true_and, and_true, and_false, and_self, if_false, if_true, reduceIte, Nat.reduceEqDiff, Int.reduceEq, Int.reduceNeg]))
    | (with_reducible refine qW_stays (by omega) (fun _ => ?_) (fun _ => ?_) <;> (try dsimp only) <;> (try simp only [qw_ap, qfl1_ap, qfl2_ap, qcp1_ap, qcp2_ap, false_and, true_and, and_true, and_false, and_self, if_false, if_true, reduceIte, Nat.reduceEqDiff, Int.reduceEq, Int.reduceNeg]))
    | (exfalso; omega)
    | with_reducible refine qW_bind ?_
    | (with_reducible refine qW_bnd ?_; try simp only [qw_ap, qfl1_ap, qfl2_ap, qcp1_ap, qcp2_ap, false_and, true_and, and_true, and_false, and_self, if_false, if_true, reduceIte, Nat.reduceEqDiff, Int.reduceEq, Int.reduceNeg])
    | (with_reducible refine qW_some ?_; (try dsimp only); try simp only [qw_ap, qfl1_ap, qfl2_ap, qcp1_ap, qcp2_ap, false_and, true_and, and_true, and_false, and_self, if_false, if_true, reduceIte, Nat.reduceEqDiff, Int.reduceEq, Int.reduceNeg])
    | ((with_reducible refine qW_no ?_); omega)
    | with_reducible refine qW_pos rfl ?_
    | ((with_reducible refine qW_pos ?_ ?_); omega)
    | ((with_reducible refine qW_neg ?_ ?_); (first | omega | decide))
    | with_reducible refine qW_ite (fun _ => ?_) (fun _ => ?_)
    | dsimp only
  all_goals (repeat' with_reducible refine And.intro ?_ ?_)
  all_goals first
    | rfl
    | trivial
    | exact R_carn_x (M := M) (K := K) rfl rfl h_carn
    | exact R_cars_x (M := M) (K := K) rfl (fun _ _ => rfl) (fun _ _ => rfl) (fun _ _ => rfl) (fun _ _ => rfl) (fun _ _ => rfl) (fun _ _ => rfl) h_cars
    | exact R_carz_x (M := M) (K := K) rfl (fun _ _ => rfl) h_carz
    | exact R_begun_x (M := M) (K := K) rfl rfl (fun _ _ => rfl) (fun _ _ => rfl) (fun _ _ => rfl) h_begun
    | exact R_begunz_x (M := M) (K := K) rfl rfl (fun _ _ => rfl) (fun _ _ => rfl) h_begunz
    | exact R_begunr_x (M := M) (K := K) rfl rfl (fun _ _ => rfl) h_begunr
    | (unfold R_carn; unfold R_carn at h_carn; grind [qw_ap])
    | (unfold R_cars; unfold R_cars at h_cars; grind [qw_ap])
    | (unfold R_carz; unfold R_carz at h_carz; grind [qw_ap])
    | (unfold R_begun; unfold R_begun at h_begun; grind [qw_ap])
    | (unfold R_begunz; unfold R_begunz at h_begunz; grind [qw_ap])
    | (unfold R_begunr; unfold R_begunr at h_begunr; grind [qw_ap])
    | (intro hz; exact absurd hz (by decide))
    | (simp [qw_ap, cI, cB, cU]; done)
    | (intro _; simp (disch := omega) [qw_ap, cI, cB, cU, w32_id]; omega)
    | (intro _; simp only [cI, cB, cU]; grind [qw_ap, w32])

set_option maxHeartbeats 400000 in
set_option maxRecDepth 20000 in
theorem op_person {M K : qm} {x1 x2 : Int} (c1 : -2147483648 ≤ x1 ∧ x1 ≤ 2147483647) (c2 : -2147483648 ≤ x2 ∧ x2 ≤ 2147483647) (h_built : R_built M K) (h_personn : R_personn M K) (h_rooms : R_rooms M K) (h_spaces : R_spaces M K) (h_cards : R_cards M K) (h_persons : R_persons M K) (h_personb : R_personb M K) (h_personz : R_personz M K) : oK2 cI (qf_L_person 20000 x1 x2 M) (qf_X18_person 20000 x1 x2 K) (fun M' K' => R_cards M' K' ∧ R_personn M' K' ∧ R_persons M' K' ∧ R_personb M' K' ∧ R_personz M' K') := by
  have s_built := h_built
  unfold R_built at s_built
  have s_personn := h_personn
  unfold R_personn at s_personn
  have s_rooms := h_rooms
  unfold R_rooms at s_rooms
  have s_spaces := h_spaces
  unfold R_spaces at s_spaces
  unfold oK2
  unfold qf_L_person qf_X11_person qf_X11_person_J23 qf_X11_person_J24 qf_X11_person_J50 qf_X11_person_J51 qf_X10_addPerson qf_X10_outside qf_X18_person qf_X18_person_J24 qf_X18_person_J25 qf_X18_person_J45 qf_X18_person_J46
  repeat' first
    | with_reducible refine qW_within (fun _ => ?_) (fun _ _ => ?_)
    | with_reducible refine qW_isIn (fun _ => ?_) (fun _ _ => ?_)
    | with_reducible refine qW_na (fun _ => ?_) (fun _ => ?_)
    | with_reducible refine qW_ns (fun _ => ?_) (fun _ => ?_)
    | (with_reducible refine qW_goes (fun _ => ?_) (fun _ _ => ?_) (fun _ _ => ?_) <;> (try dsimp only) <;> (try simp only [qw_ap, qfl1_ap, qfl2_ap, qcp1_ap, qcp2_ap, false_and, true_and, and_true, and_false, and_self, if_false, if_true, reduceIte, Nat.reduceEqDiff, Int.reduceEq, Int.reduceNeg]))
    | (with_reducible refine qW_stays (by omega) (fun _ => ?_) (fun _ => ?_) <;> (try dsimp only) <;> (try simp only [qw_ap, qfl1_ap, qfl2_ap, qcp1_ap, qcp2_ap, false_and, true_and, and_true, and_false, and_self, if_false, if_true, reduceIte, Nat.reduceEqDiff, Int.reduceEq, Int.reduceNeg]))
    | (exfalso; omega)
    | with_reducible refine qW_bind ?_
    | (with_reducible refine qW_bnd ?_; try simp only [qw_ap, qfl1_ap, qfl2_ap, qcp1_ap, qcp2_ap, false_and, true_and, and_true, and_false, and_self, if_false, if_true, reduceIte, Nat.reduceEqDiff, Int.reduceEq, Int.reduceNeg])
    | (with_reducible refine qW_some ?_; (try dsimp only); try simp only [qw_ap, qfl1_ap, qfl2_ap, qcp1_ap, qcp2_ap, false_and, true_and, and_true, and_false, and_self, if_false, if_true, reduceIte, Nat.reduceEqDiff, Int.reduceEq, Int.reduceNeg])
    | ((with_reducible refine qW_no ?_); omega)
    | with_reducible refine qW_pos rfl ?_
    | ((with_reducible refine qW_pos ?_ ?_); omega)
    | ((with_reducible refine qW_neg ?_ ?_); (first | omega | decide))
    | with_reducible refine qW_ite (fun _ => ?_) (fun _ => ?_)
    | dsimp only
  all_goals (repeat' with_reducible refine And.intro ?_ ?_)
  all_goals first
    | rfl
    | trivial
    | exact R_cards_x (M := M) (K := K) rfl rfl (fun _ _ => rfl) (fun _ _ => rfl) (fun _ _ => rfl) h_cards
    | exact R_personn_x (M := M) (K := K) rfl rfl h_personn
    | exact R_persons_x (M := M) (K := K) rfl (fun _ _ => rfl) (fun _ _ => rfl) (fun _ _ => rfl) (fun _ _ => rfl) (fun _ _ => rfl) (fun _ _ => rfl) (fun _ _ => rfl) (fun _ _ => rfl) (fun _ _ => rfl) h_persons
    | exact R_personb_x (M := M) (K := K) rfl (fun _ _ => rfl) rfl rfl (fun _ _ => rfl) (fun _ _ => rfl) (fun _ _ => rfl) (fun _ _ => rfl) (fun _ _ => rfl) h_personb
    | exact R_personz_x (M := M) (K := K) rfl (fun _ _ => rfl) (fun _ _ => rfl) (fun _ _ => rfl) h_personz
    | (unfold R_cards; unfold R_cards at h_cards; grind [qw_ap])
    | (unfold R_personn; unfold R_personn at h_personn; grind [qw_ap])
    | (unfold R_persons; unfold R_persons at h_persons; grind [qw_ap])
    | (unfold R_personb; unfold R_personb at h_personb; grind [qw_ap])
    | (unfold R_personz; unfold R_personz at h_personz; grind [qw_ap])
    | (intro hz; exact absurd hz (by decide))
    | (simp [qw_ap, cI, cB, cU]; done)
    | (intro _; simp (disch := omega) [qw_ap, cI, cB, cU, w32_id]; omega)
    | (intro _; simp only [cI, cB, cU]; grind [qw_ap, w32])

set_option maxHeartbeats 400000 in
set_option maxRecDepth 20000 in
theorem op_two {M K : qm} {x1 x2 : Int} (b2 : x2 = 0 ∨ x2 = 1) (c1 : -2147483648 ≤ x1 ∧ x1 ≤ 2147483647) (c2 : -2147483648 ≤ x2 ∧ x2 ≤ 2147483647) (h_built : R_built M K) (h_portn : R_portn M K) (h_portw : R_portw M K) (h_portc : R_portc M K) (h_porto : R_porto M K) (h_portk : R_portk M K) : oK2 cB (qf_L_two 20000 x1 x2 M) (qf_X18_two 20000 x1 x2 K) (fun M' K' => R_portn M' K' ∧ R_portw M' K' ∧ R_portc M' K' ∧ R_porto M' K' ∧ R_portk M' K') := by
  have s_built := h_built
  unfold R_built at s_built
  have s_portn := h_portn
  unfold R_portn at s_portn
  have w1 : w32 (M 824 3 0 - 1) = M 824 3 0 - 1 := w32_id (by omega) (by omega)
  by_cases hx : 0 ≤ x1 ∧ x1 < M 824 3 0
  · have q0 := h_porto x1 hx.1 hx.2
    have q1 := (w32_id (x := x1 * 13) (by omega) (by omega))
    have q2 := (w32_id (x := x1 * 13 + 10) (by omega) (by omega))
    unfold oK2
    unfold qf_L_two qf_L_two_J16 qf_X11_two qf_X0_setTwo qf_X0_setTwo_J15 qf_X0_setFact qf_X0_factOf qf_X11_isPortal qf_X18_two
    repeat' first
      | with_reducible refine qW_within (fun _ => ?_) (fun _ _ => ?_)
      | with_reducible refine qW_isIn (fun _ => ?_) (fun _ _ => ?_)
      | with_reducible refine qW_na (fun _ => ?_) (fun _ => ?_)
      | with_reducible refine qW_ns (fun _ => ?_) (fun _ => ?_)
      | (with_reducible refine qW_goes (fun _ => ?_) (fun _ _ => ?_) (fun _ _ => ?_) <;> (try dsimp only) <;> (try simp only [qw_ap, qfl1_ap, qfl2_ap, qcp1_ap, qcp2_ap, false_and, true_and, and_true, and_false, and_self, if_false, if_true, reduceIte, Nat.reduceEqDiff, Int.reduceEq, Int.reduceNeg]))
      | (with_reducible refine qW_stays (by omega) (fun _ => ?_) (fun _ => ?_) <;> (try dsimp only) <;> (try simp only [qw_ap, qfl1_ap, qfl2_ap, qcp1_ap, qcp2_ap, false_and, true_and, and_true, and_false, and_self, if_false, if_true, reduceIte, Nat.reduceEqDiff, Int.reduceEq, Int.reduceNeg]))
      | (exfalso; omega)
      | with_reducible refine qW_bind ?_
      | (with_reducible refine qW_bnd ?_; try simp only [qw_ap, qfl1_ap, qfl2_ap, qcp1_ap, qcp2_ap, false_and, true_and, and_true, and_false, and_self, if_false, if_true, reduceIte, Nat.reduceEqDiff, Int.reduceEq, Int.reduceNeg])
      | (with_reducible refine qW_some ?_; (try dsimp only); try simp only [qw_ap, qfl1_ap, qfl2_ap, qcp1_ap, qcp2_ap, false_and, true_and, and_true, and_false, and_self, if_false, if_true, reduceIte, Nat.reduceEqDiff, Int.reduceEq, Int.reduceNeg])
      | ((with_reducible refine qW_no ?_); omega)
      | with_reducible refine qW_pos rfl ?_
      | ((with_reducible refine qW_pos ?_ ?_); omega)
      | ((with_reducible refine qW_neg ?_ ?_); (first | omega | decide))
      | with_reducible refine qW_ite (fun _ => ?_) (fun _ => ?_)
      | dsimp only
    all_goals (repeat' with_reducible refine And.intro ?_ ?_)
    all_goals first
      | rfl
      | trivial
      | exact R_portn_x (M := M) (K := K) rfl rfl rfl (fun _ _ => rfl) (fun _ _ => rfl) (fun _ _ => rfl) rfl h_portn
      | exact R_portw_x (M := M) (K := K) rfl rfl (fun _ _ => rfl) rfl (fun _ _ => rfl) (fun _ _ => rfl) (fun _ _ => rfl) (fun _ _ => rfl) h_portw
      | exact R_portc_x (M := M) (K := K) rfl (fun _ _ => rfl) (fun _ _ => rfl) (fun _ _ => rfl) (fun _ _ => rfl) (fun _ _ => rfl) (fun _ _ => rfl) (fun _ _ => rfl) h_portc
      | exact R_porto_x (M := M) (K := K) rfl rfl (fun _ _ => rfl) (fun _ _ => rfl) (fun _ _ => rfl) (fun _ _ => rfl) h_porto
      | exact R_portk_x (M := M) (K := K) rfl rfl (fun _ _ => rfl) (fun _ _ => rfl) (fun _ _ => rfl) h_portk
      | (unfold R_portn; unfold R_portn at h_portn; grind [qw_ap])
      | (unfold R_portw; unfold R_portw at h_portw; grind [qw_ap])
      | (unfold R_portc; unfold R_portc at h_portc; grind [qw_ap])
      | (unfold R_porto; unfold R_porto at h_porto; grind [qw_ap])
      | (unfold R_portk; unfold R_portk at h_portk; grind [qw_ap])
      | (intro hz; exact absurd hz (by decide))
      | (simp [qw_ap, cI, cB, cU]; done)
      | (intro _; simp (disch := omega) [qw_ap, cI, cB, cU, w32_id]; omega)
      | (intro _; simp only [cI, cB, cU]; grind [qw_ap, w32])

  · unfold oK2
    unfold qf_L_two qf_L_two_J16 qf_X11_two qf_X0_setTwo qf_X0_setTwo_J15 qf_X0_setFact qf_X0_factOf qf_X11_isPortal qf_X18_two
    repeat' first
      | with_reducible refine qW_within (fun _ => ?_) (fun _ _ => ?_)
      | with_reducible refine qW_isIn (fun _ => ?_) (fun _ _ => ?_)
      | with_reducible refine qW_na (fun _ => ?_) (fun _ => ?_)
      | with_reducible refine qW_ns (fun _ => ?_) (fun _ => ?_)
      | (with_reducible refine qW_goes (fun _ => ?_) (fun _ _ => ?_) (fun _ _ => ?_) <;> (try dsimp only) <;> (try simp only [qw_ap, qfl1_ap, qfl2_ap, qcp1_ap, qcp2_ap, false_and, true_and, and_true, and_false, and_self, if_false, if_true, reduceIte, Nat.reduceEqDiff, Int.reduceEq, Int.reduceNeg]))
      | (with_reducible refine qW_stays (by omega) (fun _ => ?_) (fun _ => ?_) <;> (try dsimp only) <;> (try simp only [qw_ap, qfl1_ap, qfl2_ap, qcp1_ap, qcp2_ap, false_and, true_and, and_true, and_false, and_self, if_false, if_true, reduceIte, Nat.reduceEqDiff, Int.reduceEq, Int.reduceNeg]))
      | (exfalso; omega)
      | with_reducible refine qW_bind ?_
      | (with_reducible refine qW_bnd ?_; try simp only [qw_ap, qfl1_ap, qfl2_ap, qcp1_ap, qcp2_ap, false_and, true_and, and_true, and_false, and_self, if_false, if_true, reduceIte, Nat.reduceEqDiff, Int.reduceEq, Int.reduceNeg])
      | (with_reducible refine qW_some ?_; (try dsimp only); try simp only [qw_ap, qfl1_ap, qfl2_ap, qcp1_ap, qcp2_ap, false_and, true_and, and_true, and_false, and_self, if_false, if_true, reduceIte, Nat.reduceEqDiff, Int.reduceEq, Int.reduceNeg])
      | ((with_reducible refine qW_no ?_); omega)
      | with_reducible refine qW_pos rfl ?_
      | ((with_reducible refine qW_pos ?_ ?_); omega)
      | ((with_reducible refine qW_neg ?_ ?_); (first | omega | decide))
      | with_reducible refine qW_ite (fun _ => ?_) (fun _ => ?_)
      | dsimp only
    all_goals (repeat' with_reducible refine And.intro ?_ ?_)
    all_goals first
      | rfl
      | trivial
      | exact R_portn_x (M := M) (K := K) rfl rfl rfl (fun _ _ => rfl) (fun _ _ => rfl) (fun _ _ => rfl) rfl h_portn
      | exact R_portw_x (M := M) (K := K) rfl rfl (fun _ _ => rfl) rfl (fun _ _ => rfl) (fun _ _ => rfl) (fun _ _ => rfl) (fun _ _ => rfl) h_portw
      | exact R_portc_x (M := M) (K := K) rfl (fun _ _ => rfl) (fun _ _ => rfl) (fun _ _ => rfl) (fun _ _ => rfl) (fun _ _ => rfl) (fun _ _ => rfl) (fun _ _ => rfl) h_portc
      | exact R_porto_x (M := M) (K := K) rfl rfl (fun _ _ => rfl) (fun _ _ => rfl) (fun _ _ => rfl) (fun _ _ => rfl) h_porto
      | exact R_portk_x (M := M) (K := K) rfl rfl (fun _ _ => rfl) (fun _ _ => rfl) (fun _ _ => rfl) h_portk
      | (unfold R_portn; unfold R_portn at h_portn; grind [qw_ap])
      | (unfold R_portw; unfold R_portw at h_portw; grind [qw_ap])
      | (unfold R_portc; unfold R_portc at h_portc; grind [qw_ap])
      | (unfold R_porto; unfold R_porto at h_porto; grind [qw_ap])
      | (unfold R_portk; unfold R_portk at h_portk; grind [qw_ap])
      | (intro hz; exact absurd hz (by decide))
      | (simp [qw_ap, cI, cB, cU]; done)
      | (intro _; simp (disch := omega) [qw_ap, cI, cB, cU, w32_id]; omega)
      | (intro _; simp only [cI, cB, cU]; grind [qw_ap, w32])


set_option maxHeartbeats 400000 in
set_option maxRecDepth 20000 in
theorem op_stands {M K : qm} {x1 x2 : Int} (b2 : x2 = 0 ∨ x2 = 1) (c1 : -2147483648 ≤ x1 ∧ x1 ≤ 2147483647) (c2 : -2147483648 ≤ x2 ∧ x2 ≤ 2147483647) (h_built : R_built M K) (h_portn : R_portn M K) (h_time : R_time M K) (h_portw : R_portw M K) (h_portc : R_portc M K) (h_porto : R_porto M K) (h_portk : R_portk M K) : oK2 cI (qf_L_stands 20000 x1 x2 M) (qf_X18_stands 20000 x1 x2 K) (fun M' K' => R_portn M' K' ∧ R_portw M' K' ∧ R_portc M' K' ∧ R_porto M' K' ∧ R_portk M' K') := by
  have s_built := h_built
  unfold R_built at s_built
  have s_portn := h_portn
  unfold R_portn at s_portn
  have s_time := h_time
  unfold R_time at s_time
  have w1 : w32 (M 824 3 0 - 1) = M 824 3 0 - 1 := w32_id (by omega) (by omega)
  by_cases hx : 0 ≤ x1 ∧ x1 < M 824 3 0
  · have q0 := h_porto x1 hx.1 hx.2
    have q1 := (w32_id (x := x1 * 13) (by omega) (by omega))
    have q2 := (w32_id (x := x1 * 13 + 8) (by omega) (by omega))
    have q3 := (w32_id (x := x1 * 13 + 9) (by omega) (by omega))
    unfold oK2
    unfold qf_L_stands qf_X11_stands qf_X0_setOpen qf_X0_setOpen_J27 qf_X0_setOpen_J43 qf_X0_setFact qf_X0_factOf qf_X11_isPortal qf_X18_stands qf_X18_stands_J61
    repeat' first
      | with_reducible refine qW_within (fun _ => ?_) (fun _ _ => ?_)
      | with_reducible refine qW_isIn (fun _ => ?_) (fun _ _ => ?_)
      | with_reducible refine qW_na (fun _ => ?_) (fun _ => ?_)
      | with_reducible refine qW_ns (fun _ => ?_) (fun _ => ?_)
      | (with_reducible refine qW_goes (fun _ => ?_) (fun _ _ => ?_) (fun _ _ => ?_) <;> (try dsimp only) <;> (try simp only [qw_ap, qfl1_ap, qfl2_ap, qcp1_ap, qcp2_ap, false_and, true_and, and_true, and_false, and_self, if_false, if_true, reduceIte, Nat.reduceEqDiff, Int.reduceEq, Int.reduceNeg]))
      | (with_reducible refine qW_stays (by omega) (fun _ => ?_) (fun _ => ?_) <;> (try dsimp only) <;> (try simp only [qw_ap, qfl1_ap, qfl2_ap, qcp1_ap, qcp2_ap, false_and, true_and, and_true, and_false, and_self, if_false, if_true, reduceIte, Nat.reduceEqDiff, Int.reduceEq, Int.reduceNeg]))
      | (exfalso; omega)
      | with_reducible refine qW_bind ?_
      | (with_reducible refine qW_bnd ?_; try simp only [qw_ap, qfl1_ap, qfl2_ap, qcp1_ap, qcp2_ap, false_and, true_and, and_true, and_false, and_self, if_false, if_true, reduceIte, Nat.reduceEqDiff, Int.reduceEq, Int.reduceNeg])
      | (with_reducible refine qW_some ?_; (try dsimp only); try simp only [qw_ap, qfl1_ap, qfl2_ap, qcp1_ap, qcp2_ap, false_and, true_and, and_true, and_false, and_self, if_false, if_true, reduceIte, Nat.reduceEqDiff, Int.reduceEq, Int.reduceNeg])
      | ((with_reducible refine qW_no ?_); omega)
      | with_reducible refine qW_pos rfl ?_
      | ((with_reducible refine qW_pos ?_ ?_); omega)
      | ((with_reducible refine qW_neg ?_ ?_); (first | omega | decide))
      | with_reducible refine qW_ite (fun _ => ?_) (fun _ => ?_)
      | dsimp only
    all_goals (repeat' with_reducible refine And.intro ?_ ?_)
    all_goals first
      | rfl
      | trivial
      | exact R_portn_x (M := M) (K := K) rfl rfl rfl (fun _ _ => rfl) (fun _ _ => rfl) (fun _ _ => rfl) rfl h_portn
      | exact R_portw_x (M := M) (K := K) rfl rfl (fun _ _ => rfl) rfl (fun _ _ => rfl) (fun _ _ => rfl) (fun _ _ => rfl) (fun _ _ => rfl) h_portw
      | exact R_portc_x (M := M) (K := K) rfl (fun _ _ => rfl) (fun _ _ => rfl) (fun _ _ => rfl) (fun _ _ => rfl) (fun _ _ => rfl) (fun _ _ => rfl) (fun _ _ => rfl) h_portc
      | exact R_porto_x (M := M) (K := K) rfl rfl (fun _ _ => rfl) (fun _ _ => rfl) (fun _ _ => rfl) (fun _ _ => rfl) h_porto
      | exact R_portk_x (M := M) (K := K) rfl rfl (fun _ _ => rfl) (fun _ _ => rfl) (fun _ _ => rfl) h_portk
      | (unfold R_portn; unfold R_portn at h_portn; grind [qw_ap])
      | (unfold R_portw; unfold R_portw at h_portw; grind [qw_ap])
      | (unfold R_portc; unfold R_portc at h_portc; grind [qw_ap])
      | (unfold R_porto; unfold R_porto at h_porto; grind [qw_ap])
      | (unfold R_portk; unfold R_portk at h_portk; grind [qw_ap])
      | (intro hz; exact absurd hz (by decide))
      | (simp [qw_ap, cI, cB, cU]; done)
      | (intro _; simp (disch := omega) [qw_ap, cI, cB, cU, w32_id]; omega)
      | (intro _; simp only [cI, cB, cU]; grind [qw_ap, w32])

  · unfold oK2
    unfold qf_L_stands qf_X11_stands qf_X0_setOpen qf_X0_setOpen_J27 qf_X0_setOpen_J43 qf_X0_setFact qf_X0_factOf qf_X11_isPortal qf_X18_stands qf_X18_stands_J61
    repeat' first
      | with_reducible refine qW_within (fun _ => ?_) (fun _ _ => ?_)
      | with_reducible refine qW_isIn (fun _ => ?_) (fun _ _ => ?_)
      | with_reducible refine qW_na (fun _ => ?_) (fun _ => ?_)
      | with_reducible refine qW_ns (fun _ => ?_) (fun _ => ?_)
      | (with_reducible refine qW_goes (fun _ => ?_) (fun _ _ => ?_) (fun _ _ => ?_) <;> (try dsimp only) <;> (try simp only [qw_ap, qfl1_ap, qfl2_ap, qcp1_ap, qcp2_ap, false_and, true_and, and_true, and_false, and_self, if_false, if_true, reduceIte, Nat.reduceEqDiff, Int.reduceEq, Int.reduceNeg]))
      | (with_reducible refine qW_stays (by omega) (fun _ => ?_) (fun _ => ?_) <;> (try dsimp only) <;> (try simp only [qw_ap, qfl1_ap, qfl2_ap, qcp1_ap, qcp2_ap, false_and, true_and, and_true, and_false, and_self, if_false, if_true, reduceIte, Nat.reduceEqDiff, Int.reduceEq, Int.reduceNeg]))
      | (exfalso; omega)
      | with_reducible refine qW_bind ?_
      | (with_reducible refine qW_bnd ?_; try simp only [qw_ap, qfl1_ap, qfl2_ap, qcp1_ap, qcp2_ap, false_and, true_and, and_true, and_false, and_self, if_false, if_true, reduceIte, Nat.reduceEqDiff, Int.reduceEq, Int.reduceNeg])
      | (with_reducible refine qW_some ?_; (try dsimp only); try simp only [qw_ap, qfl1_ap, qfl2_ap, qcp1_ap, qcp2_ap, false_and, true_and, and_true, and_false, and_self, if_false, if_true, reduceIte, Nat.reduceEqDiff, Int.reduceEq, Int.reduceNeg])
      | ((with_reducible refine qW_no ?_); omega)
      | with_reducible refine qW_pos rfl ?_
      | ((with_reducible refine qW_pos ?_ ?_); omega)
      | ((with_reducible refine qW_neg ?_ ?_); (first | omega | decide))
      | with_reducible refine qW_ite (fun _ => ?_) (fun _ => ?_)
      | dsimp only
    all_goals (repeat' with_reducible refine And.intro ?_ ?_)
    all_goals first
      | rfl
      | trivial
      | exact R_portn_x (M := M) (K := K) rfl rfl rfl (fun _ _ => rfl) (fun _ _ => rfl) (fun _ _ => rfl) rfl h_portn
      | exact R_portw_x (M := M) (K := K) rfl rfl (fun _ _ => rfl) rfl (fun _ _ => rfl) (fun _ _ => rfl) (fun _ _ => rfl) (fun _ _ => rfl) h_portw
      | exact R_portc_x (M := M) (K := K) rfl (fun _ _ => rfl) (fun _ _ => rfl) (fun _ _ => rfl) (fun _ _ => rfl) (fun _ _ => rfl) (fun _ _ => rfl) (fun _ _ => rfl) h_portc
      | exact R_porto_x (M := M) (K := K) rfl rfl (fun _ _ => rfl) (fun _ _ => rfl) (fun _ _ => rfl) (fun _ _ => rfl) h_porto
      | exact R_portk_x (M := M) (K := K) rfl rfl (fun _ _ => rfl) (fun _ _ => rfl) (fun _ _ => rfl) h_portk
      | (unfold R_portn; unfold R_portn at h_portn; grind [qw_ap])
      | (unfold R_portw; unfold R_portw at h_portw; grind [qw_ap])
      | (unfold R_portc; unfold R_portc at h_portc; grind [qw_ap])
      | (unfold R_porto; unfold R_porto at h_porto; grind [qw_ap])
      | (unfold R_portk; unfold R_portk at h_portk; grind [qw_ap])
      | (intro hz; exact absurd hz (by decide))
      | (simp [qw_ap, cI, cB, cU]; done)
      | (intro _; simp (disch := omega) [qw_ap, cI, cB, cU, w32_id]; omega)
      | (intro _; simp only [cI, cB, cU]; grind [qw_ap, w32])


set_option maxHeartbeats 400000 in
set_option maxRecDepth 20000 in
theorem op_against {M K : qm} {x1 x2 : Int} (c1 : -2147483648 ≤ x1 ∧ x1 ≤ 2147483647) (c2 : -2147483648 ≤ x2 ∧ x2 ≤ 2147483647) (h_built : R_built M K) (h_againstn : R_againstn M K) (h_against : R_against M K) : oK2 cI (qf_L_against 20000 x1 x2 M) (qf_X18_against 20000 x1 x2 K) (fun M' K' => True) := by
  have s_built := h_built
  unfold R_built at s_built
  have s_againstn := h_againstn
  unfold R_againstn at s_againstn
  by_cases hx : 0 ≤ x1 ∧ x1 < 100 ∧ x1 < M 824 15 0
  · have q0 := h_against x1 hx.1 hx.2.1 hx.2.2
    have q1 := (w32_id (x := 4 * x1) (by omega) (by omega))
    have q2 := (w32_id (x := 4 * x1 + x2) (by omega) (by omega))
    unfold oK2
    unfold qf_L_against qf_X11_against qf_X0_keptAgainst qf_X11_against_J30 qf_X11_against_J34 qf_X11_against_J35 qf_X0_againstFact qf_X18_against qf_X18_against_J31 qf_X18_against_J35 qf_X18_against_J36
    repeat' first
      | with_reducible refine qW_within (fun _ => ?_) (fun _ _ => ?_)
      | with_reducible refine qW_isIn (fun _ => ?_) (fun _ _ => ?_)
      | with_reducible refine qW_na (fun _ => ?_) (fun _ => ?_)
      | with_reducible refine qW_ns (fun _ => ?_) (fun _ => ?_)
      | (with_reducible refine qW_goes (fun _ => ?_) (fun _ _ => ?_) (fun _ _ => ?_) <;> (try dsimp only) <;> (try simp only [qw_ap, qfl1_ap, qfl2_ap, qcp1_ap, qcp2_ap, false_and, true_and, and_true, and_false, and_self, if_false, if_true, reduceIte, Nat.reduceEqDiff, Int.reduceEq, Int.reduceNeg]))
      | (with_reducible refine qW_stays (by omega) (fun _ => ?_) (fun _ => ?_) <;> (try dsimp only) <;> (try simp only [qw_ap, qfl1_ap, qfl2_ap, qcp1_ap, qcp2_ap, false_and, true_and, and_true, and_false, and_self, if_false, if_true, reduceIte, Nat.reduceEqDiff, Int.reduceEq, Int.reduceNeg]))
      | (exfalso; omega)
      | with_reducible refine qW_bind ?_
      | (with_reducible refine qW_bnd ?_; try simp only [qw_ap, qfl1_ap, qfl2_ap, qcp1_ap, qcp2_ap, false_and, true_and, and_true, and_false, and_self, if_false, if_true, reduceIte, Nat.reduceEqDiff, Int.reduceEq, Int.reduceNeg])
      | (with_reducible refine qW_some ?_; (try dsimp only); try simp only [qw_ap, qfl1_ap, qfl2_ap, qcp1_ap, qcp2_ap, false_and, true_and, and_true, and_false, and_self, if_false, if_true, reduceIte, Nat.reduceEqDiff, Int.reduceEq, Int.reduceNeg])
      | ((with_reducible refine qW_no ?_); omega)
      | with_reducible refine qW_pos rfl ?_
      | ((with_reducible refine qW_pos ?_ ?_); omega)
      | ((with_reducible refine qW_neg ?_ ?_); (first | omega | decide))
      | with_reducible refine qW_ite (fun _ => ?_) (fun _ => ?_)
      | dsimp only
    all_goals (repeat' with_reducible refine And.intro ?_ ?_)
    all_goals first
      | rfl
      | trivial
      | (intro hz; exact absurd hz (by decide))
      | (simp [qw_ap, cI, cB, cU]; done)
      | (intro _; simp (disch := omega) [qw_ap, cI, cB, cU, w32_id]; omega)
      | (intro _; simp only [cI, cB, cU]; grind [qw_ap, w32])

  · unfold oK2
    unfold qf_L_against qf_X11_against qf_X0_keptAgainst qf_X11_against_J30 qf_X11_against_J34 qf_X11_against_J35 qf_X0_againstFact qf_X18_against qf_X18_against_J31 qf_X18_against_J35 qf_X18_against_J36
    repeat' first
      | with_reducible refine qW_within (fun _ => ?_) (fun _ _ => ?_)
      | with_reducible refine qW_isIn (fun _ => ?_) (fun _ _ => ?_)
      | with_reducible refine qW_na (fun _ => ?_) (fun _ => ?_)
      | with_reducible refine qW_ns (fun _ => ?_) (fun _ => ?_)
      | (with_reducible refine qW_goes (fun _ => ?_) (fun _ _ => ?_) (fun _ _ => ?_) <;> (try dsimp only) <;> (try simp only [qw_ap, qfl1_ap, qfl2_ap, qcp1_ap, qcp2_ap, false_and, true_and, and_true, and_false, and_self, if_false, if_true, reduceIte, Nat.reduceEqDiff, Int.reduceEq, Int.reduceNeg]))
      | (with_reducible refine qW_stays (by omega) (fun _ => ?_) (fun _ => ?_) <;> (try dsimp only) <;> (try simp only [qw_ap, qfl1_ap, qfl2_ap, qcp1_ap, qcp2_ap, false_and, true_and, and_true, and_false, and_self, if_false, if_true, reduceIte, Nat.reduceEqDiff, Int.reduceEq, Int.reduceNeg]))
      | (exfalso; omega)
      | with_reducible refine qW_bind ?_
      | (with_reducible refine qW_bnd ?_; try simp only [qw_ap, qfl1_ap, qfl2_ap, qcp1_ap, qcp2_ap, false_and, true_and, and_true, and_false, and_self, if_false, if_true, reduceIte, Nat.reduceEqDiff, Int.reduceEq, Int.reduceNeg])
      | (with_reducible refine qW_some ?_; (try dsimp only); try simp only [qw_ap, qfl1_ap, qfl2_ap, qcp1_ap, qcp2_ap, false_and, true_and, and_true, and_false, and_self, if_false, if_true, reduceIte, Nat.reduceEqDiff, Int.reduceEq, Int.reduceNeg])
      | ((with_reducible refine qW_no ?_); omega)
      | with_reducible refine qW_pos rfl ?_
      | ((with_reducible refine qW_pos ?_ ?_); omega)
      | ((with_reducible refine qW_neg ?_ ?_); (first | omega | decide))
      | with_reducible refine qW_ite (fun _ => ?_) (fun _ => ?_)
      | dsimp only
    all_goals (repeat' with_reducible refine And.intro ?_ ?_)
    all_goals first
      | rfl
      | trivial
      | (intro hz; exact absurd hz (by decide))
      | (simp [qw_ap, cI, cB, cU]; done)
      | (intro _; simp (disch := omega) [qw_ap, cI, cB, cU, w32_id]; omega)
      | (intro _; simp only [cI, cB, cU]; grind [qw_ap, w32])


set_option maxHeartbeats 400000 in
set_option maxRecDepth 20000 in
theorem op_door {M K : qm} {x1 x2 x3 x4 : Int} (c1 : -2147483648 ≤ x1 ∧ x1 ≤ 2147483647) (c2 : -2147483648 ≤ x2 ∧ x2 ≤ 2147483647) (c3 : -2147483648 ≤ x3 ∧ x3 ≤ 2147483647) (c4 : -2147483648 ≤ x4 ∧ x4 ≤ 2147483647) (h_built : R_built M K) (h_lines : R_lines M K) (h_ends : R_ends M K) (h_doorn : R_doorn M K) (h_doors : R_doors M K) : oK2 cI (qf_L_door 20000 x1 x2 x3 x4 M) (qf_X18_door 20000 x1 x2 x3 x4 K) (fun M' K' => R_doorn M' K' ∧ R_doors M' K') := by
  have s_built := h_built
  unfold R_built at s_built
  have s_lines := h_lines
  unfold R_lines at s_lines
  have w1 : w32 (M 7 0 0 - 1) = M 7 0 0 - 1 := w32_id (by omega) (by omega)
  by_cases hx : 0 ≤ x1 ∧ x1 < M 7 0 0
  · have q0 := h_ends x1 hx.1 hx.2
    have q1 := h_doorn x1 (by omega) (by omega)
    unfold oK2
    unfold qf_L_door qf_X11_door qf_X11_door_J22 qf_X11_door_J23 qf_X8_lengthOf qf_X11_door_J51 qf_X11_door_J52 qf_X11_door_J80 qf_X11_door_J81 qf_X8_addDoor qf_X8_addDoor_J66 qf_X11_isLine qf_X18_door qf_X16_lengthOf qf_X18_door_J51 qf_X18_door_J52 qf_X18_door_J87 qf_X18_door_J83 qf_X18_door_J88 qf_X16_door
    repeat' first
      | with_reducible refine qW_within (fun _ => ?_) (fun _ _ => ?_)
      | with_reducible refine qW_isIn (fun _ => ?_) (fun _ _ => ?_)
      | with_reducible refine qW_na (fun _ => ?_) (fun _ => ?_)
      | with_reducible refine qW_ns (fun _ => ?_) (fun _ => ?_)
      | (with_reducible refine qW_goes (fun _ => ?_) (fun _ _ => ?_) (fun _ _ => ?_) <;> (try dsimp only) <;> (try simp only [qw_ap, qfl1_ap, qfl2_ap, qcp1_ap, qcp2_ap, false_and, true_and, and_true, and_false, and_self, if_false, if_true, reduceIte, Nat.reduceEqDiff, Int.reduceEq, Int.reduceNeg]))
      | (with_reducible refine qW_stays (by omega) (fun _ => ?_) (fun _ => ?_) <;> (try dsimp only) <;> (try simp only [qw_ap, qfl1_ap, qfl2_ap, qcp1_ap, qcp2_ap, false_and, true_and, and_true, and_false, and_self, if_false, if_true, reduceIte, Nat.reduceEqDiff, Int.reduceEq, Int.reduceNeg]))
      | (exfalso; omega)
      | with_reducible refine qW_bind ?_
      | (with_reducible refine qW_bnd ?_; try simp only [qw_ap, qfl1_ap, qfl2_ap, qcp1_ap, qcp2_ap, false_and, true_and, and_true, and_false, and_self, if_false, if_true, reduceIte, Nat.reduceEqDiff, Int.reduceEq, Int.reduceNeg])
      | (with_reducible refine qW_some ?_; (try dsimp only); try simp only [qw_ap, qfl1_ap, qfl2_ap, qcp1_ap, qcp2_ap, false_and, true_and, and_true, and_false, and_self, if_false, if_true, reduceIte, Nat.reduceEqDiff, Int.reduceEq, Int.reduceNeg])
      | ((with_reducible refine qW_no ?_); omega)
      | with_reducible refine qW_pos rfl ?_
      | ((with_reducible refine qW_pos ?_ ?_); omega)
      | ((with_reducible refine qW_neg ?_ ?_); (first | omega | decide))
      | with_reducible refine qW_ite (fun _ => ?_) (fun _ => ?_)
      | dsimp only
    all_goals (repeat' with_reducible refine And.intro ?_ ?_)
    all_goals first
      | rfl
      | trivial
      | exact R_doorn_x (M := M) (K := K) rfl (fun _ _ => rfl) (fun _ _ => rfl) h_doorn
      | exact R_doors_x (M := M) (K := K) (fun _ _ => rfl) (fun _ _ => rfl) (fun _ _ => rfl) (fun _ _ => rfl) (fun _ _ => rfl) (fun _ _ => rfl) h_doors
      | (unfold R_doorn; unfold R_doorn at h_doorn; grind [qw_ap])
      | (unfold R_doors; unfold R_doors at h_doors; grind [qw_ap])
      | (intro hz; exact absurd hz (by decide))
      | (simp [qw_ap, cI, cB, cU]; done)
      | (intro _; simp (disch := omega) [qw_ap, cI, cB, cU, w32_id]; omega)
      | (intro _; simp only [cI, cB, cU]; grind [qw_ap, w32])

  · unfold oK2
    unfold qf_L_door qf_X11_door qf_X11_door_J22 qf_X11_door_J23 qf_X8_lengthOf qf_X11_door_J51 qf_X11_door_J52 qf_X11_door_J80 qf_X11_door_J81 qf_X8_addDoor qf_X8_addDoor_J66 qf_X11_isLine qf_X18_door qf_X16_lengthOf qf_X18_door_J51 qf_X18_door_J52 qf_X18_door_J87 qf_X18_door_J83 qf_X18_door_J88 qf_X16_door
    repeat' first
      | with_reducible refine qW_within (fun _ => ?_) (fun _ _ => ?_)
      | with_reducible refine qW_isIn (fun _ => ?_) (fun _ _ => ?_)
      | with_reducible refine qW_na (fun _ => ?_) (fun _ => ?_)
      | with_reducible refine qW_ns (fun _ => ?_) (fun _ => ?_)
      | (with_reducible refine qW_goes (fun _ => ?_) (fun _ _ => ?_) (fun _ _ => ?_) <;> (try dsimp only) <;> (try simp only [qw_ap, qfl1_ap, qfl2_ap, qcp1_ap, qcp2_ap, false_and, true_and, and_true, and_false, and_self, if_false, if_true, reduceIte, Nat.reduceEqDiff, Int.reduceEq, Int.reduceNeg]))
      | (with_reducible refine qW_stays (by omega) (fun _ => ?_) (fun _ => ?_) <;> (try dsimp only) <;> (try simp only [qw_ap, qfl1_ap, qfl2_ap, qcp1_ap, qcp2_ap, false_and, true_and, and_true, and_false, and_self, if_false, if_true, reduceIte, Nat.reduceEqDiff, Int.reduceEq, Int.reduceNeg]))
      | (exfalso; omega)
      | with_reducible refine qW_bind ?_
      | (with_reducible refine qW_bnd ?_; try simp only [qw_ap, qfl1_ap, qfl2_ap, qcp1_ap, qcp2_ap, false_and, true_and, and_true, and_false, and_self, if_false, if_true, reduceIte, Nat.reduceEqDiff, Int.reduceEq, Int.reduceNeg])
      | (with_reducible refine qW_some ?_; (try dsimp only); try simp only [qw_ap, qfl1_ap, qfl2_ap, qcp1_ap, qcp2_ap, false_and, true_and, and_true, and_false, and_self, if_false, if_true, reduceIte, Nat.reduceEqDiff, Int.reduceEq, Int.reduceNeg])
      | ((with_reducible refine qW_no ?_); omega)
      | with_reducible refine qW_pos rfl ?_
      | ((with_reducible refine qW_pos ?_ ?_); omega)
      | ((with_reducible refine qW_neg ?_ ?_); (first | omega | decide))
      | with_reducible refine qW_ite (fun _ => ?_) (fun _ => ?_)
      | dsimp only
    all_goals (repeat' with_reducible refine And.intro ?_ ?_)
    all_goals first
      | rfl
      | trivial
      | exact R_doorn_x (M := M) (K := K) rfl (fun _ _ => rfl) (fun _ _ => rfl) h_doorn
      | exact R_doors_x (M := M) (K := K) (fun _ _ => rfl) (fun _ _ => rfl) (fun _ _ => rfl) (fun _ _ => rfl) (fun _ _ => rfl) (fun _ _ => rfl) h_doors
      | (unfold R_doorn; unfold R_doorn at h_doorn; grind [qw_ap])
      | (unfold R_doors; unfold R_doors at h_doors; grind [qw_ap])
      | (intro hz; exact absurd hz (by decide))
      | (simp [qw_ap, cI, cB, cU]; done)
      | (intro _; simp (disch := omega) [qw_ap, cI, cB, cU, w32_id]; omega)
      | (intro _; simp only [cI, cB, cU]; grind [qw_ap, w32])


set_option maxHeartbeats 400000 in
set_option maxRecDepth 20000 in
theorem op_fire {M K : qm} {x1 x2 : Int} (c1 : -2147483648 ≤ x1 ∧ x1 ≤ 2147483647) (c2 : -2147483648 ≤ x2 ∧ x2 ≤ 2147483647) (h_built : R_built M K) (h_smoke : R_smoke M K) (h_smoky : R_smoky M K) (h_sroom : R_sroom M K) (h_smoke0 : R_smoke0 M K) : oK2 cB (qf_L_fire 20000 x1 x2 M) (qf_X18_fire 20000 x1 x2 K) (fun M' K' => R_smoke M' K' ∧ R_smoky M' K' ∧ R_sroom M' K' ∧ R_smoke0 M' K') := by
  have s_built := h_built
  unfold R_built at s_built
  have s_smoky := h_smoky
  unfold R_smoky at s_smoky
  by_cases hx : 0 ≤ x1 ∧ x1 < 24 ∧ 0 ≤ x2 ∧ x2 < 24
  · have q0 := h_smoke x1 x2 hx.1 hx.2.1 hx.2.2.1 hx.2.2.2
    unfold oK2
    unfold qf_L_fire qf_L_fire_J16 qf_X11_fire qf_X10_addSmoke qf_X2_cellNumber qf_X11_isCell qf_X18_fire qf_X18_fire_J37 qf_X18_isCell
    repeat' first
      | with_reducible refine qW_within (fun _ => ?_) (fun _ _ => ?_)
      | with_reducible refine qW_isIn (fun _ => ?_) (fun _ _ => ?_)
      | with_reducible refine qW_na (fun _ => ?_) (fun _ => ?_)
      | with_reducible refine qW_ns (fun _ => ?_) (fun _ => ?_)
      | (with_reducible refine qW_goes (fun _ => ?_) (fun _ _ => ?_) (fun _ _ => ?_) <;> (try dsimp only) <;> (try simp only [qw_ap, qfl1_ap, qfl2_ap, qcp1_ap, qcp2_ap, false_and, true_and, and_true, and_false, and_self, if_false, if_true, reduceIte, Nat.reduceEqDiff, Int.reduceEq, Int.reduceNeg]))
      | (with_reducible refine qW_stays (by omega) (fun _ => ?_) (fun _ => ?_) <;> (try dsimp only) <;> (try simp only [qw_ap, qfl1_ap, qfl2_ap, qcp1_ap, qcp2_ap, false_and, true_and, and_true, and_false, and_self, if_false, if_true, reduceIte, Nat.reduceEqDiff, Int.reduceEq, Int.reduceNeg]))
      | (exfalso; omega)
      | with_reducible refine qW_bind ?_
      | (with_reducible refine qW_bnd ?_; try simp only [qw_ap, qfl1_ap, qfl2_ap, qcp1_ap, qcp2_ap, false_and, true_and, and_true, and_false, and_self, if_false, if_true, reduceIte, Nat.reduceEqDiff, Int.reduceEq, Int.reduceNeg])
      | (with_reducible refine qW_some ?_; (try dsimp only); try simp only [qw_ap, qfl1_ap, qfl2_ap, qcp1_ap, qcp2_ap, false_and, true_and, and_true, and_false, and_self, if_false, if_true, reduceIte, Nat.reduceEqDiff, Int.reduceEq, Int.reduceNeg])
      | ((with_reducible refine qW_no ?_); omega)
      | with_reducible refine qW_pos rfl ?_
      | ((with_reducible refine qW_pos ?_ ?_); omega)
      | ((with_reducible refine qW_neg ?_ ?_); (first | omega | decide))
      | with_reducible refine qW_ite (fun _ => ?_) (fun _ => ?_)
      | dsimp only
    all_goals (repeat' with_reducible refine And.intro ?_ ?_)
    all_goals first
      | rfl
      | trivial
      | exact R_smoke_x (M := M) (K := K) (fun _ _ => rfl) (fun _ _ => rfl) h_smoke
      | exact R_smoky_x (M := M) (K := K) rfl (fun _ _ => rfl) h_smoky
      | exact R_sroom_x (M := M) (K := K) (fun _ _ => rfl) (fun _ _ => rfl) (fun _ _ => rfl) h_sroom
      | exact R_smoke0_x (M := M) (K := K) rfl (fun _ _ => rfl) h_smoke0
      | (unfold R_smoke; unfold R_smoke at h_smoke; grind [qw_ap])
      | (unfold R_smoky; unfold R_smoky at h_smoky; grind [qw_ap])
      | (unfold R_sroom; unfold R_sroom at h_sroom; grind [qw_ap])
      | (unfold R_smoke0; unfold R_smoke0 at h_smoke0; grind [qw_ap])
      | (intro hz; exact absurd hz (by decide))
      | (simp [qw_ap, cI, cB, cU]; done)
      | (intro _; simp (disch := omega) [qw_ap, cI, cB, cU, w32_id]; omega)
      | (intro _; simp only [cI, cB, cU]; grind [qw_ap, w32])

  · unfold oK2
    unfold qf_L_fire qf_L_fire_J16 qf_X11_fire qf_X10_addSmoke qf_X2_cellNumber qf_X11_isCell qf_X18_fire qf_X18_fire_J37 qf_X18_isCell
    repeat' first
      | with_reducible refine qW_within (fun _ => ?_) (fun _ _ => ?_)
      | with_reducible refine qW_isIn (fun _ => ?_) (fun _ _ => ?_)
      | with_reducible refine qW_na (fun _ => ?_) (fun _ => ?_)
      | with_reducible refine qW_ns (fun _ => ?_) (fun _ => ?_)
      | (with_reducible refine qW_goes (fun _ => ?_) (fun _ _ => ?_) (fun _ _ => ?_) <;> (try dsimp only) <;> (try simp only [qw_ap, qfl1_ap, qfl2_ap, qcp1_ap, qcp2_ap, false_and, true_and, and_true, and_false, and_self, if_false, if_true, reduceIte, Nat.reduceEqDiff, Int.reduceEq, Int.reduceNeg]))
      | (with_reducible refine qW_stays (by omega) (fun _ => ?_) (fun _ => ?_) <;> (try dsimp only) <;> (try simp only [qw_ap, qfl1_ap, qfl2_ap, qcp1_ap, qcp2_ap, false_and, true_and, and_true, and_false, and_self, if_false, if_true, reduceIte, Nat.reduceEqDiff, Int.reduceEq, Int.reduceNeg]))
      | (exfalso; omega)
      | with_reducible refine qW_bind ?_
      | (with_reducible refine qW_bnd ?_; try simp only [qw_ap, qfl1_ap, qfl2_ap, qcp1_ap, qcp2_ap, false_and, true_and, and_true, and_false, and_self, if_false, if_true, reduceIte, Nat.reduceEqDiff, Int.reduceEq, Int.reduceNeg])
      | (with_reducible refine qW_some ?_; (try dsimp only); try simp only [qw_ap, qfl1_ap, qfl2_ap, qcp1_ap, qcp2_ap, false_and, true_and, and_true, and_false, and_self, if_false, if_true, reduceIte, Nat.reduceEqDiff, Int.reduceEq, Int.reduceNeg])
      | ((with_reducible refine qW_no ?_); omega)
      | with_reducible refine qW_pos rfl ?_
      | ((with_reducible refine qW_pos ?_ ?_); omega)
      | ((with_reducible refine qW_neg ?_ ?_); (first | omega | decide))
      | with_reducible refine qW_ite (fun _ => ?_) (fun _ => ?_)
      | dsimp only
    all_goals (repeat' with_reducible refine And.intro ?_ ?_)
    all_goals first
      | rfl
      | trivial
      | exact R_smoke_x (M := M) (K := K) (fun _ _ => rfl) (fun _ _ => rfl) h_smoke
      | exact R_smoky_x (M := M) (K := K) rfl (fun _ _ => rfl) h_smoky
      | exact R_sroom_x (M := M) (K := K) (fun _ _ => rfl) (fun _ _ => rfl) (fun _ _ => rfl) h_sroom
      | exact R_smoke0_x (M := M) (K := K) rfl (fun _ _ => rfl) h_smoke0
      | (unfold R_smoke; unfold R_smoke at h_smoke; grind [qw_ap])
      | (unfold R_smoky; unfold R_smoky at h_smoky; grind [qw_ap])
      | (unfold R_sroom; unfold R_sroom at h_sroom; grind [qw_ap])
      | (unfold R_smoke0; unfold R_smoke0 at h_smoke0; grind [qw_ap])
      | (intro hz; exact absurd hz (by decide))
      | (simp [qw_ap, cI, cB, cU]; done)
      | (intro _; simp (disch := omega) [qw_ap, cI, cB, cU, w32_id]; omega)
      | (intro _; simp only [cI, cB, cU]; grind [qw_ap, w32])

