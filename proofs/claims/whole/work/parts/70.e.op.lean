/-! ===== two ===== -/
set_option maxHeartbeats 400000 in
set_option maxRecDepth 20000 in
theorem op_two {M K : qm} {x1 x2 : Int} (b2 : x2 = 0 ∨ x2 = 1) (c1 : -2147483648 ≤ x1 ∧ x1 ≤ 2147483647) (c2 : -2147483648 ≤ x2 ∧ x2 ≤ 2147483647) (h_built : R_built M K) (h_portn : R_portn M K) (h_portw : R_portw M K) (h_portc : R_portc M K) (h_porto : R_porto M K) (h_portk : R_portk M K) (h_portq : R_portq M K) : oK2 cB (qf_L_two 20000 x1 x2 M) (qf_X18_two 20000 x1 x2 K) (fun M' K' => R_portn M' K' ∧ R_portw M' K' ∧ R_portc M' K' ∧ R_porto M' K' ∧ R_portk M' K' ∧ R_portq M' K') := by
  have s_built := h_built
  unfold R_built at s_built
  have s_portn := h_portn
  unfold R_portn at s_portn
  have w1 : w32 ((M 824 3 0) - 1) = (M 824 3 0) - 1 := w32_id (by omega) (by omega)
  by_cases hx : 0 ≤ x1 ∧ x1 < (M 824 3 0)
  · have q0 := h_porto x1 hx.1 hx.2
    unfold oK2
    unfold qf_L_two qf_L_two_J16 qf_X11_two qf_X11_isPortal qf_X18_two
    repeat' first
      | (with_reducible refine qW_eq (setTwo_r (pnM_of h_portn) hx.1 hx.2 b2 (by omega)) ?_)
      | with_reducible refine qW_within (fun _ => ?_) (fun _ _ => ?_)
      | with_reducible refine qW_isIn (fun _ => ?_) (fun _ _ => ?_)
      | with_reducible refine qW_na (fun _ => ?_) (fun _ => ?_)
      | with_reducible refine qW_ns (fun _ => ?_) (fun _ => ?_)
      | (with_reducible refine qW_goes (fun _ => ?_) (fun _ _ => ?_) (fun _ _ => ?_) <;> (try dsimp only) <;> (try simp only [qw_ap, qfl1_ap, qfl2_ap, qcp1_ap, qcp2_ap, false_and, true_and, and_true, and_false, and_self, if_false, if_true, reduceIte, Nat.reduceEqDiff, Int.reduceEq, Int.reduceNeg]))
      | (with_reducible refine qW_stays (by omega) (fun _ => ?_) (fun _ => ?_) <;> (try dsimp only) <;> (try simp only [qw_ap, qfl1_ap, qfl2_ap, qcp1_ap, qcp2_ap, false_and, true_and, and_true, and_false, and_self, if_false, if_true, reduceIte, Nat.reduceEqDiff, Int.reduceEq, Int.reduceNeg]))
      | (exfalso; omega)
      | with_reducible refine qW_bind ?_
      | (with_reducible refine qW_bnd ?_; try simp only [qw_ap, qfl1_ap, qfl2_ap, qcp1_ap, qcp2_ap, false_and, true_and, and_true, and_false, and_self, if_false, if_true, reduceIte, Nat.reduceEqDiff, Int.reduceEq, Int.reduceNeg])
      | (with_reducible refine qW_some ?_; (try dsimp only); try simp only [qw_ap, qfl1_ap, qfl2_ap, qcp1_ap, qcp2_ap, false_and, true_and, and_true, and_false, and_self, if_false, if_true, reduceIte, Nat.reduceEqDiff, Int.reduceEq, Int.reduceNeg])
      | ((with_reducible refine qW_no ?_); omega)
      | with_reducible refine qW_pos rfl ?_
      | ((with_reducible refine qW_pos ?_ ?_); omega)
      | ((with_reducible refine qW_neg ?_ ?_); (first | omega | decide))
      | with_reducible refine qW_ite (fun _ => ?_) (fun _ => ?_)
      | dsimp only
    all_goals first
      | exact ⟨fun x => absurd x (by decide), R_portn_x (M := M) (K := K) rfl rfl rfl (fun _ _ => rfl) (fun _ _ => rfl) (fun _ _ => rfl) rfl h_portn, R_portw_x (M := M) (K := K) rfl rfl (fun _ _ => rfl) rfl (fun _ _ => rfl) (fun _ _ => rfl) (fun _ _ => rfl) (fun _ _ => rfl) h_portw, R_portc_x (M := M) (K := K) rfl (fun _ _ => rfl) (fun _ _ => rfl) (fun _ _ => rfl) (fun _ _ => rfl) (fun _ _ => rfl) (fun _ _ => rfl) (fun _ _ => rfl) h_portc, R_porto_x (M := M) (K := K) rfl rfl (fun _ _ => rfl) (fun _ _ => rfl) (fun _ _ => rfl) (fun _ _ => rfl) h_porto, R_portk_x (M := M) (K := K) rfl rfl (fun _ _ => rfl) (fun _ _ => rfl) (fun _ _ => rfl) h_portk, R_portq_x (M := M) (K := K) (fun _ _ => rfl) rfl (fun _ _ => rfl) rfl h_portq⟩
      | exact ⟨rfl, fun x => absurd x (by decide), R_portn_x (M := M) (K := K) rfl rfl rfl (fun _ _ => rfl) (fun _ _ => rfl) (fun _ _ => rfl) rfl h_portn, R_portw_x (M := M) (K := K) rfl rfl (fun _ _ => rfl) rfl (fun _ _ => rfl) (fun _ _ => rfl) (fun _ _ => rfl) (fun _ _ => rfl) h_portw, R_portc_x (M := M) (K := K) rfl (fun _ _ => rfl) (fun _ _ => rfl) (fun _ _ => rfl) (fun _ _ => rfl) (fun _ _ => rfl) (fun _ _ => rfl) (fun _ _ => rfl) h_portc, R_porto_x (M := M) (K := K) rfl rfl (fun _ _ => rfl) (fun _ _ => rfl) (fun _ _ => rfl) (fun _ _ => rfl) h_porto, R_portk_x (M := M) (K := K) rfl rfl (fun _ _ => rfl) (fun _ _ => rfl) (fun _ _ => rfl) h_portk, R_portq_x (M := M) (K := K) (fun _ _ => rfl) rfl (fun _ _ => rfl) rfl h_portq⟩
      | refine ⟨fun _ => ?_, ?_, ?_, ?_, ?_, ?_, ?_⟩
      | refine ⟨rfl, fun _ => ?_, ?_, ?_, ?_, ?_, ?_, ?_⟩
    all_goals first
      | exact R_portn_x (M := M) (K := K) rfl rfl rfl (fun _ _ => rfl) (fun _ _ => rfl) (fun _ _ => rfl) rfl h_portn
      | (unfold R_portn at *; simp (disch := omega) only [qw_ap, false_and, true_and, and_true, and_false, and_self, if_false, if_true, reduceIte, Nat.reduceEqDiff, Int.reduceEq, Int.reduceNeg, if_pos, if_neg, w32_id]; exact h_portn)
      | exact R_portw_x (M := M) (K := K) rfl rfl (fun _ _ => rfl) rfl (fun _ _ => rfl) (fun _ _ => rfl) (fun _ _ => rfl) (fun _ _ => rfl) h_portw
      | (unfold R_portw; intro p z0 z1; have q := h_portw p z0 z1; simp (disch := omega) only [qw_ap, false_and, true_and, and_true, and_false, and_self, if_false, if_true, reduceIte, Nat.reduceEqDiff, Int.reduceEq, Int.reduceNeg, if_pos, if_neg, w32_id]; exact q)
      | exact R_portc_x (M := M) (K := K) rfl (fun _ _ => rfl) (fun _ _ => rfl) (fun _ _ => rfl) (fun _ _ => rfl) (fun _ _ => rfl) (fun _ _ => rfl) (fun _ _ => rfl) h_portc
      | (unfold R_portc; intro p z0 z1; have q := h_portc p z0 z1; simp (disch := omega) only [qw_ap, false_and, true_and, and_true, and_false, and_self, if_false, if_true, reduceIte, Nat.reduceEqDiff, Int.reduceEq, Int.reduceNeg, if_pos, if_neg, w32_id]; exact q)
      | exact R_porto_x (M := M) (K := K) rfl rfl (fun _ _ => rfl) (fun _ _ => rfl) (fun _ _ => rfl) (fun _ _ => rfl) h_porto
      | (unfold R_porto; intro p z0 z1; have q := h_porto p z0 z1; rcases Classical.em (p = x1) with e | e; (subst e; simp (disch := omega) only [qw_ap, false_and, true_and, and_true, and_false, and_self, if_false, if_true, reduceIte, Nat.reduceEqDiff, Int.reduceEq, Int.reduceNeg, if_pos, if_neg, w32_id]; omega); (simp (disch := omega) only [qw_ap, false_and, true_and, and_true, and_false, and_self, if_false, if_true, reduceIte, Nat.reduceEqDiff, Int.reduceEq, Int.reduceNeg, if_pos, if_neg, w32_id]; omega))
      | exact R_portk_x (M := M) (K := K) rfl rfl (fun _ _ => rfl) (fun _ _ => rfl) (fun _ _ => rfl) h_portk
      | (unfold R_portk; intro p z0 z1; have q := h_portk p z0 z1; simp (disch := omega) only [qw_ap, false_and, true_and, and_true, and_false, and_self, if_false, if_true, reduceIte, Nat.reduceEqDiff, Int.reduceEq, Int.reduceNeg, if_pos, if_neg, w32_id]; exact q)
      | exact R_portq_x (M := M) (K := K) (fun _ _ => rfl) rfl (fun _ _ => rfl) rfl h_portq
      | (unfold R_portq; intro p z0 z1; have q := h_portq p z0 z1; simp (disch := omega) only [qw_ap, false_and, true_and, and_true, and_false, and_self, if_false, if_true, reduceIte, Nat.reduceEqDiff, Int.reduceEq, Int.reduceNeg, if_pos, if_neg, w32_id]; exact q)
      | (unfold cB; split <;> omega)
      | (simp only [cI, cB, cU]; done)
      | (simp only [cI]; omega)
      | (unfold cI; grind)

  · unfold oK2
    unfold qf_L_two qf_L_two_J16 qf_X11_two qf_X11_isPortal qf_X18_two
    repeat' first
      | (with_reducible refine qW_eq (setTwo_r (pnM_of h_portn) hx.1 hx.2 b2 (by omega)) ?_)
      | with_reducible refine qW_within (fun _ => ?_) (fun _ _ => ?_)
      | with_reducible refine qW_isIn (fun _ => ?_) (fun _ _ => ?_)
      | with_reducible refine qW_na (fun _ => ?_) (fun _ => ?_)
      | with_reducible refine qW_ns (fun _ => ?_) (fun _ => ?_)
      | (with_reducible refine qW_goes (fun _ => ?_) (fun _ _ => ?_) (fun _ _ => ?_) <;> (try dsimp only) <;> (try simp only [qw_ap, qfl1_ap, qfl2_ap, qcp1_ap, qcp2_ap, false_and, true_and, and_true, and_false, and_self, if_false, if_true, reduceIte, Nat.reduceEqDiff, Int.reduceEq, Int.reduceNeg]))
      | (with_reducible refine qW_stays (by omega) (fun _ => ?_) (fun _ => ?_) <;> (try dsimp only) <;> (try simp only [qw_ap, qfl1_ap, qfl2_ap, qcp1_ap, qcp2_ap, false_and, true_and, and_true, and_false, and_self, if_false, if_true, reduceIte, Nat.reduceEqDiff, Int.reduceEq, Int.reduceNeg]))
      | (exfalso; omega)
      | with_reducible refine qW_bind ?_
      | (with_reducible refine qW_bnd ?_; try simp only [qw_ap, qfl1_ap, qfl2_ap, qcp1_ap, qcp2_ap, false_and, true_and, and_true, and_false, and_self, if_false, if_true, reduceIte, Nat.reduceEqDiff, Int.reduceEq, Int.reduceNeg])
      | (with_reducible refine qW_some ?_; (try dsimp only); try simp only [qw_ap, qfl1_ap, qfl2_ap, qcp1_ap, qcp2_ap, false_and, true_and, and_true, and_false, and_self, if_false, if_true, reduceIte, Nat.reduceEqDiff, Int.reduceEq, Int.reduceNeg])
      | ((with_reducible refine qW_no ?_); omega)
      | with_reducible refine qW_pos rfl ?_
      | ((with_reducible refine qW_pos ?_ ?_); omega)
      | ((with_reducible refine qW_neg ?_ ?_); (first | omega | decide))
      | with_reducible refine qW_ite (fun _ => ?_) (fun _ => ?_)
      | dsimp only
    all_goals first
      | exact ⟨fun x => absurd x (by decide), R_portn_x (M := M) (K := K) rfl rfl rfl (fun _ _ => rfl) (fun _ _ => rfl) (fun _ _ => rfl) rfl h_portn, R_portw_x (M := M) (K := K) rfl rfl (fun _ _ => rfl) rfl (fun _ _ => rfl) (fun _ _ => rfl) (fun _ _ => rfl) (fun _ _ => rfl) h_portw, R_portc_x (M := M) (K := K) rfl (fun _ _ => rfl) (fun _ _ => rfl) (fun _ _ => rfl) (fun _ _ => rfl) (fun _ _ => rfl) (fun _ _ => rfl) (fun _ _ => rfl) h_portc, R_porto_x (M := M) (K := K) rfl rfl (fun _ _ => rfl) (fun _ _ => rfl) (fun _ _ => rfl) (fun _ _ => rfl) h_porto, R_portk_x (M := M) (K := K) rfl rfl (fun _ _ => rfl) (fun _ _ => rfl) (fun _ _ => rfl) h_portk, R_portq_x (M := M) (K := K) (fun _ _ => rfl) rfl (fun _ _ => rfl) rfl h_portq⟩
      | exact ⟨rfl, fun x => absurd x (by decide), R_portn_x (M := M) (K := K) rfl rfl rfl (fun _ _ => rfl) (fun _ _ => rfl) (fun _ _ => rfl) rfl h_portn, R_portw_x (M := M) (K := K) rfl rfl (fun _ _ => rfl) rfl (fun _ _ => rfl) (fun _ _ => rfl) (fun _ _ => rfl) (fun _ _ => rfl) h_portw, R_portc_x (M := M) (K := K) rfl (fun _ _ => rfl) (fun _ _ => rfl) (fun _ _ => rfl) (fun _ _ => rfl) (fun _ _ => rfl) (fun _ _ => rfl) (fun _ _ => rfl) h_portc, R_porto_x (M := M) (K := K) rfl rfl (fun _ _ => rfl) (fun _ _ => rfl) (fun _ _ => rfl) (fun _ _ => rfl) h_porto, R_portk_x (M := M) (K := K) rfl rfl (fun _ _ => rfl) (fun _ _ => rfl) (fun _ _ => rfl) h_portk, R_portq_x (M := M) (K := K) (fun _ _ => rfl) rfl (fun _ _ => rfl) rfl h_portq⟩
      | refine ⟨fun _ => ?_, ?_, ?_, ?_, ?_, ?_, ?_⟩
      | refine ⟨rfl, fun _ => ?_, ?_, ?_, ?_, ?_, ?_, ?_⟩
    all_goals first
      | exact R_portn_x (M := M) (K := K) rfl rfl rfl (fun _ _ => rfl) (fun _ _ => rfl) (fun _ _ => rfl) rfl h_portn
      | (unfold R_portn at *; simp (disch := omega) only [qw_ap, false_and, true_and, and_true, and_false, and_self, if_false, if_true, reduceIte, Nat.reduceEqDiff, Int.reduceEq, Int.reduceNeg, if_pos, if_neg, w32_id]; exact h_portn)
      | exact R_portw_x (M := M) (K := K) rfl rfl (fun _ _ => rfl) rfl (fun _ _ => rfl) (fun _ _ => rfl) (fun _ _ => rfl) (fun _ _ => rfl) h_portw
      | (unfold R_portw; intro p z0 z1; have q := h_portw p z0 z1; simp (disch := omega) only [qw_ap, false_and, true_and, and_true, and_false, and_self, if_false, if_true, reduceIte, Nat.reduceEqDiff, Int.reduceEq, Int.reduceNeg, if_pos, if_neg, w32_id]; exact q)
      | exact R_portc_x (M := M) (K := K) rfl (fun _ _ => rfl) (fun _ _ => rfl) (fun _ _ => rfl) (fun _ _ => rfl) (fun _ _ => rfl) (fun _ _ => rfl) (fun _ _ => rfl) h_portc
      | (unfold R_portc; intro p z0 z1; have q := h_portc p z0 z1; simp (disch := omega) only [qw_ap, false_and, true_and, and_true, and_false, and_self, if_false, if_true, reduceIte, Nat.reduceEqDiff, Int.reduceEq, Int.reduceNeg, if_pos, if_neg, w32_id]; exact q)
      | exact R_porto_x (M := M) (K := K) rfl rfl (fun _ _ => rfl) (fun _ _ => rfl) (fun _ _ => rfl) (fun _ _ => rfl) h_porto
      | (unfold R_porto; intro p z0 z1; have q := h_porto p z0 z1; rcases Classical.em (p = x1) with e | e; (subst e; simp (disch := omega) only [qw_ap, false_and, true_and, and_true, and_false, and_self, if_false, if_true, reduceIte, Nat.reduceEqDiff, Int.reduceEq, Int.reduceNeg, if_pos, if_neg, w32_id]; omega); (simp (disch := omega) only [qw_ap, false_and, true_and, and_true, and_false, and_self, if_false, if_true, reduceIte, Nat.reduceEqDiff, Int.reduceEq, Int.reduceNeg, if_pos, if_neg, w32_id]; omega))
      | exact R_portk_x (M := M) (K := K) rfl rfl (fun _ _ => rfl) (fun _ _ => rfl) (fun _ _ => rfl) h_portk
      | (unfold R_portk; intro p z0 z1; have q := h_portk p z0 z1; simp (disch := omega) only [qw_ap, false_and, true_and, and_true, and_false, and_self, if_false, if_true, reduceIte, Nat.reduceEqDiff, Int.reduceEq, Int.reduceNeg, if_pos, if_neg, w32_id]; exact q)
      | exact R_portq_x (M := M) (K := K) (fun _ _ => rfl) rfl (fun _ _ => rfl) rfl h_portq
      | (unfold R_portq; intro p z0 z1; have q := h_portq p z0 z1; simp (disch := omega) only [qw_ap, false_and, true_and, and_true, and_false, and_self, if_false, if_true, reduceIte, Nat.reduceEqDiff, Int.reduceEq, Int.reduceNeg, if_pos, if_neg, w32_id]; exact q)
      | (unfold cB; split <;> omega)
      | (simp only [cI, cB, cU]; done)
      | (simp only [cI]; omega)
      | (unfold cI; grind)


/-! ===== stands ===== -/
set_option maxHeartbeats 400000 in
set_option maxRecDepth 20000 in
theorem op_stands {M K : qm} {x1 x2 : Int} (b2 : x2 = 0 ∨ x2 = 1) (c1 : -2147483648 ≤ x1 ∧ x1 ≤ 2147483647) (c2 : -2147483648 ≤ x2 ∧ x2 ≤ 2147483647) (h_built : R_built M K) (h_time : R_time M K) (h_portn : R_portn M K) (h_portw : R_portw M K) (h_portc : R_portc M K) (h_porto : R_porto M K) (h_portk : R_portk M K) (h_portq : R_portq M K) : oK2 cI (qf_L_stands 20000 x1 x2 M) (qf_X18_stands 20000 x1 x2 K) (fun M' K' => R_portn M' K' ∧ R_portw M' K' ∧ R_portc M' K' ∧ R_porto M' K' ∧ R_portk M' K' ∧ R_portq M' K') := by
  have s_built := h_built
  unfold R_built at s_built
  have s_time := h_time
  unfold R_time at s_time
  have s_portn := h_portn
  unfold R_portn at s_portn
  have w1 : w32 ((M 824 3 0) - 1) = (M 824 3 0) - 1 := w32_id (by omega) (by omega)
  by_cases hx : 0 ≤ x1 ∧ x1 < (M 824 3 0)
  · have q0 := h_porto x1 hx.1 hx.2
    rcases Classical.em (M 825 (13 * x1 + 8) 0 = x2) with g | g
    all_goals (
      unfold oK2
      unfold qf_L_stands qf_X11_stands qf_X11_isPortal qf_X18_stands qf_X18_stands_J61
      repeat' first
        | (with_reducible refine qW_eq (setOpen_s (pnM_of h_portn) hx.1 hx.2 b2 g (by omega) (by omega) (by omega)) ?_)
        | (with_reducible refine qW_eq (setOpen_d (pnM_of h_portn) hx.1 hx.2 b2 (by omega) g (by omega) (by omega) (by omega)) ?_)
        | with_reducible refine qW_within (fun _ => ?_) (fun _ _ => ?_)
        | with_reducible refine qW_isIn (fun _ => ?_) (fun _ _ => ?_)
        | with_reducible refine qW_na (fun _ => ?_) (fun _ => ?_)
        | with_reducible refine qW_ns (fun _ => ?_) (fun _ => ?_)
        | (with_reducible refine qW_goes (fun _ => ?_) (fun _ _ => ?_) (fun _ _ => ?_) <;> (try dsimp only) <;> (try simp only [qw_ap, qfl1_ap, qfl2_ap, qcp1_ap, qcp2_ap, false_and, true_and, and_true, and_false, and_self, if_false, if_true, reduceIte, Nat.reduceEqDiff, Int.reduceEq, Int.reduceNeg]))
        | (with_reducible refine qW_stays (by omega) (fun _ => ?_) (fun _ => ?_) <;> (try dsimp only) <;> (try simp only [qw_ap, qfl1_ap, qfl2_ap, qcp1_ap, qcp2_ap, false_and, true_and, and_true, and_false, and_self, if_false, if_true, reduceIte, Nat.reduceEqDiff, Int.reduceEq, Int.reduceNeg]))
        | (exfalso; omega)
        | with_reducible refine qW_bind ?_
        | (with_reducible refine qW_bnd ?_; try simp only [qw_ap, qfl1_ap, qfl2_ap, qcp1_ap, qcp2_ap, false_and, true_and, and_true, and_false, and_self, if_false, if_true, reduceIte, Nat.reduceEqDiff, Int.reduceEq, Int.reduceNeg])
        | (with_reducible refine qW_some ?_; (try dsimp only); try simp only [qw_ap, qfl1_ap, qfl2_ap, qcp1_ap, qcp2_ap, false_and, true_and, and_true, and_false, and_self, if_false, if_true, reduceIte, Nat.reduceEqDiff, Int.reduceEq, Int.reduceNeg])
        | ((with_reducible refine qW_no ?_); omega)
        | with_reducible refine qW_pos rfl ?_
        | ((with_reducible refine qW_pos ?_ ?_); omega)
        | ((with_reducible refine qW_neg ?_ ?_); (first | omega | decide))
        | with_reducible refine qW_ite (fun _ => ?_) (fun _ => ?_)
        | dsimp only
      all_goals first
        | exact ⟨fun x => absurd x (by decide), R_portn_x (M := M) (K := K) rfl rfl rfl (fun _ _ => rfl) (fun _ _ => rfl) (fun _ _ => rfl) rfl h_portn, R_portw_x (M := M) (K := K) rfl rfl (fun _ _ => rfl) rfl (fun _ _ => rfl) (fun _ _ => rfl) (fun _ _ => rfl) (fun _ _ => rfl) h_portw, R_portc_x (M := M) (K := K) rfl (fun _ _ => rfl) (fun _ _ => rfl) (fun _ _ => rfl) (fun _ _ => rfl) (fun _ _ => rfl) (fun _ _ => rfl) (fun _ _ => rfl) h_portc, R_porto_x (M := M) (K := K) rfl rfl (fun _ _ => rfl) (fun _ _ => rfl) (fun _ _ => rfl) (fun _ _ => rfl) h_porto, R_portk_x (M := M) (K := K) rfl rfl (fun _ _ => rfl) (fun _ _ => rfl) (fun _ _ => rfl) h_portk, R_portq_x (M := M) (K := K) (fun _ _ => rfl) rfl (fun _ _ => rfl) rfl h_portq⟩
        | exact ⟨rfl, fun x => absurd x (by decide), R_portn_x (M := M) (K := K) rfl rfl rfl (fun _ _ => rfl) (fun _ _ => rfl) (fun _ _ => rfl) rfl h_portn, R_portw_x (M := M) (K := K) rfl rfl (fun _ _ => rfl) rfl (fun _ _ => rfl) (fun _ _ => rfl) (fun _ _ => rfl) (fun _ _ => rfl) h_portw, R_portc_x (M := M) (K := K) rfl (fun _ _ => rfl) (fun _ _ => rfl) (fun _ _ => rfl) (fun _ _ => rfl) (fun _ _ => rfl) (fun _ _ => rfl) (fun _ _ => rfl) h_portc, R_porto_x (M := M) (K := K) rfl rfl (fun _ _ => rfl) (fun _ _ => rfl) (fun _ _ => rfl) (fun _ _ => rfl) h_porto, R_portk_x (M := M) (K := K) rfl rfl (fun _ _ => rfl) (fun _ _ => rfl) (fun _ _ => rfl) h_portk, R_portq_x (M := M) (K := K) (fun _ _ => rfl) rfl (fun _ _ => rfl) rfl h_portq⟩
        | refine ⟨fun _ => ?_, ?_, ?_, ?_, ?_, ?_, ?_⟩
        | refine ⟨rfl, fun _ => ?_, ?_, ?_, ?_, ?_, ?_, ?_⟩
      all_goals first
        | exact R_portn_x (M := M) (K := K) rfl rfl rfl (fun _ _ => rfl) (fun _ _ => rfl) (fun _ _ => rfl) rfl h_portn
        | (unfold R_portn at *; simp (disch := omega) only [qw_ap, false_and, true_and, and_true, and_false, and_self, if_false, if_true, reduceIte, Nat.reduceEqDiff, Int.reduceEq, Int.reduceNeg, if_pos, if_neg, w32_id]; exact h_portn)
        | exact R_portw_x (M := M) (K := K) rfl rfl (fun _ _ => rfl) rfl (fun _ _ => rfl) (fun _ _ => rfl) (fun _ _ => rfl) (fun _ _ => rfl) h_portw
        | (unfold R_portw; intro p z0 z1; have q := h_portw p z0 z1; simp (disch := omega) only [qw_ap, false_and, true_and, and_true, and_false, and_self, if_false, if_true, reduceIte, Nat.reduceEqDiff, Int.reduceEq, Int.reduceNeg, if_pos, if_neg, w32_id]; exact q)
        | exact R_portc_x (M := M) (K := K) rfl (fun _ _ => rfl) (fun _ _ => rfl) (fun _ _ => rfl) (fun _ _ => rfl) (fun _ _ => rfl) (fun _ _ => rfl) (fun _ _ => rfl) h_portc
        | (unfold R_portc; intro p z0 z1; have q := h_portc p z0 z1; simp (disch := omega) only [qw_ap, false_and, true_and, and_true, and_false, and_self, if_false, if_true, reduceIte, Nat.reduceEqDiff, Int.reduceEq, Int.reduceNeg, if_pos, if_neg, w32_id]; exact q)
        | exact R_porto_x (M := M) (K := K) rfl rfl (fun _ _ => rfl) (fun _ _ => rfl) (fun _ _ => rfl) (fun _ _ => rfl) h_porto
        | (unfold R_porto; intro p z0 z1; have q := h_porto p z0 z1; rcases Classical.em (p = x1) with e | e; (subst e; simp (disch := omega) only [qw_ap, false_and, true_and, and_true, and_false, and_self, if_false, if_true, reduceIte, Nat.reduceEqDiff, Int.reduceEq, Int.reduceNeg, if_pos, if_neg, w32_id]; omega); (simp (disch := omega) only [qw_ap, false_and, true_and, and_true, and_false, and_self, if_false, if_true, reduceIte, Nat.reduceEqDiff, Int.reduceEq, Int.reduceNeg, if_pos, if_neg, w32_id]; omega))
        | exact R_portk_x (M := M) (K := K) rfl rfl (fun _ _ => rfl) (fun _ _ => rfl) (fun _ _ => rfl) h_portk
        | (unfold R_portk; intro p z0 z1; have q := h_portk p z0 z1; simp (disch := omega) only [qw_ap, false_and, true_and, and_true, and_false, and_self, if_false, if_true, reduceIte, Nat.reduceEqDiff, Int.reduceEq, Int.reduceNeg, if_pos, if_neg, w32_id]; exact q)
        | exact R_portq_x (M := M) (K := K) (fun _ _ => rfl) rfl (fun _ _ => rfl) rfl h_portq
        | (unfold R_portq; intro p z0 z1; have q := h_portq p z0 z1; simp (disch := omega) only [qw_ap, false_and, true_and, and_true, and_false, and_self, if_false, if_true, reduceIte, Nat.reduceEqDiff, Int.reduceEq, Int.reduceNeg, if_pos, if_neg, w32_id]; exact q)
        | (unfold cI; rw [w32_id (by omega) (by omega)]; omega)
        | (simp only [cI, cB, cU]; done)
        | (simp only [cI]; omega)
        | (unfold cI; grind))

  · unfold oK2
    unfold qf_L_stands qf_X11_stands qf_X11_isPortal qf_X18_stands qf_X18_stands_J61
    repeat' first
      | (with_reducible refine qW_eq (setOpen_s (pnM_of h_portn) hx.1 hx.2 b2 g (by omega) (by omega) (by omega)) ?_)
      | (with_reducible refine qW_eq (setOpen_d (pnM_of h_portn) hx.1 hx.2 b2 (by omega) g (by omega) (by omega) (by omega)) ?_)
      | with_reducible refine qW_within (fun _ => ?_) (fun _ _ => ?_)
      | with_reducible refine qW_isIn (fun _ => ?_) (fun _ _ => ?_)
      | with_reducible refine qW_na (fun _ => ?_) (fun _ => ?_)
      | with_reducible refine qW_ns (fun _ => ?_) (fun _ => ?_)
      | (with_reducible refine qW_goes (fun _ => ?_) (fun _ _ => ?_) (fun _ _ => ?_) <;> (try dsimp only) <;> (try simp only [qw_ap, qfl1_ap, qfl2_ap, qcp1_ap, qcp2_ap, false_and, true_and, and_true, and_false, and_self, if_false, if_true, reduceIte, Nat.reduceEqDiff, Int.reduceEq, Int.reduceNeg]))
      | (with_reducible refine qW_stays (by omega) (fun _ => ?_) (fun _ => ?_) <;> (try dsimp only) <;> (try simp only [qw_ap, qfl1_ap, qfl2_ap, qcp1_ap, qcp2_ap, false_and, true_and, and_true, and_false, and_self, if_false, if_true, reduceIte, Nat.reduceEqDiff, Int.reduceEq, Int.reduceNeg]))
      | (exfalso; omega)
      | with_reducible refine qW_bind ?_
      | (with_reducible refine qW_bnd ?_; try simp only [qw_ap, qfl1_ap, qfl2_ap, qcp1_ap, qcp2_ap, false_and, true_and, and_true, and_false, and_self, if_false, if_true, reduceIte, Nat.reduceEqDiff, Int.reduceEq, Int.reduceNeg])
      | (with_reducible refine qW_some ?_; (try dsimp only); try simp only [qw_ap, qfl1_ap, qfl2_ap, qcp1_ap, qcp2_ap, false_and, true_and, and_true, and_false, and_self, if_false, if_true, reduceIte, Nat.reduceEqDiff, Int.reduceEq, Int.reduceNeg])
      | ((with_reducible refine qW_no ?_); omega)
      | with_reducible refine qW_pos rfl ?_
      | ((with_reducible refine qW_pos ?_ ?_); omega)
      | ((with_reducible refine qW_neg ?_ ?_); (first | omega | decide))
      | with_reducible refine qW_ite (fun _ => ?_) (fun _ => ?_)
      | dsimp only
    all_goals first
      | exact ⟨fun x => absurd x (by decide), R_portn_x (M := M) (K := K) rfl rfl rfl (fun _ _ => rfl) (fun _ _ => rfl) (fun _ _ => rfl) rfl h_portn, R_portw_x (M := M) (K := K) rfl rfl (fun _ _ => rfl) rfl (fun _ _ => rfl) (fun _ _ => rfl) (fun _ _ => rfl) (fun _ _ => rfl) h_portw, R_portc_x (M := M) (K := K) rfl (fun _ _ => rfl) (fun _ _ => rfl) (fun _ _ => rfl) (fun _ _ => rfl) (fun _ _ => rfl) (fun _ _ => rfl) (fun _ _ => rfl) h_portc, R_porto_x (M := M) (K := K) rfl rfl (fun _ _ => rfl) (fun _ _ => rfl) (fun _ _ => rfl) (fun _ _ => rfl) h_porto, R_portk_x (M := M) (K := K) rfl rfl (fun _ _ => rfl) (fun _ _ => rfl) (fun _ _ => rfl) h_portk, R_portq_x (M := M) (K := K) (fun _ _ => rfl) rfl (fun _ _ => rfl) rfl h_portq⟩
      | exact ⟨rfl, fun x => absurd x (by decide), R_portn_x (M := M) (K := K) rfl rfl rfl (fun _ _ => rfl) (fun _ _ => rfl) (fun _ _ => rfl) rfl h_portn, R_portw_x (M := M) (K := K) rfl rfl (fun _ _ => rfl) rfl (fun _ _ => rfl) (fun _ _ => rfl) (fun _ _ => rfl) (fun _ _ => rfl) h_portw, R_portc_x (M := M) (K := K) rfl (fun _ _ => rfl) (fun _ _ => rfl) (fun _ _ => rfl) (fun _ _ => rfl) (fun _ _ => rfl) (fun _ _ => rfl) (fun _ _ => rfl) h_portc, R_porto_x (M := M) (K := K) rfl rfl (fun _ _ => rfl) (fun _ _ => rfl) (fun _ _ => rfl) (fun _ _ => rfl) h_porto, R_portk_x (M := M) (K := K) rfl rfl (fun _ _ => rfl) (fun _ _ => rfl) (fun _ _ => rfl) h_portk, R_portq_x (M := M) (K := K) (fun _ _ => rfl) rfl (fun _ _ => rfl) rfl h_portq⟩
      | refine ⟨fun _ => ?_, ?_, ?_, ?_, ?_, ?_, ?_⟩
      | refine ⟨rfl, fun _ => ?_, ?_, ?_, ?_, ?_, ?_, ?_⟩
    all_goals first
      | exact R_portn_x (M := M) (K := K) rfl rfl rfl (fun _ _ => rfl) (fun _ _ => rfl) (fun _ _ => rfl) rfl h_portn
      | (unfold R_portn at *; simp (disch := omega) only [qw_ap, false_and, true_and, and_true, and_false, and_self, if_false, if_true, reduceIte, Nat.reduceEqDiff, Int.reduceEq, Int.reduceNeg, if_pos, if_neg, w32_id]; exact h_portn)
      | exact R_portw_x (M := M) (K := K) rfl rfl (fun _ _ => rfl) rfl (fun _ _ => rfl) (fun _ _ => rfl) (fun _ _ => rfl) (fun _ _ => rfl) h_portw
      | (unfold R_portw; intro p z0 z1; have q := h_portw p z0 z1; simp (disch := omega) only [qw_ap, false_and, true_and, and_true, and_false, and_self, if_false, if_true, reduceIte, Nat.reduceEqDiff, Int.reduceEq, Int.reduceNeg, if_pos, if_neg, w32_id]; exact q)
      | exact R_portc_x (M := M) (K := K) rfl (fun _ _ => rfl) (fun _ _ => rfl) (fun _ _ => rfl) (fun _ _ => rfl) (fun _ _ => rfl) (fun _ _ => rfl) (fun _ _ => rfl) h_portc
      | (unfold R_portc; intro p z0 z1; have q := h_portc p z0 z1; simp (disch := omega) only [qw_ap, false_and, true_and, and_true, and_false, and_self, if_false, if_true, reduceIte, Nat.reduceEqDiff, Int.reduceEq, Int.reduceNeg, if_pos, if_neg, w32_id]; exact q)
      | exact R_porto_x (M := M) (K := K) rfl rfl (fun _ _ => rfl) (fun _ _ => rfl) (fun _ _ => rfl) (fun _ _ => rfl) h_porto
      | (unfold R_porto; intro p z0 z1; have q := h_porto p z0 z1; rcases Classical.em (p = x1) with e | e; (subst e; simp (disch := omega) only [qw_ap, false_and, true_and, and_true, and_false, and_self, if_false, if_true, reduceIte, Nat.reduceEqDiff, Int.reduceEq, Int.reduceNeg, if_pos, if_neg, w32_id]; omega); (simp (disch := omega) only [qw_ap, false_and, true_and, and_true, and_false, and_self, if_false, if_true, reduceIte, Nat.reduceEqDiff, Int.reduceEq, Int.reduceNeg, if_pos, if_neg, w32_id]; omega))
      | exact R_portk_x (M := M) (K := K) rfl rfl (fun _ _ => rfl) (fun _ _ => rfl) (fun _ _ => rfl) h_portk
      | (unfold R_portk; intro p z0 z1; have q := h_portk p z0 z1; simp (disch := omega) only [qw_ap, false_and, true_and, and_true, and_false, and_self, if_false, if_true, reduceIte, Nat.reduceEqDiff, Int.reduceEq, Int.reduceNeg, if_pos, if_neg, w32_id]; exact q)
      | exact R_portq_x (M := M) (K := K) (fun _ _ => rfl) rfl (fun _ _ => rfl) rfl h_portq
      | (unfold R_portq; intro p z0 z1; have q := h_portq p z0 z1; simp (disch := omega) only [qw_ap, false_and, true_and, and_true, and_false, and_self, if_false, if_true, reduceIte, Nat.reduceEqDiff, Int.reduceEq, Int.reduceNeg, if_pos, if_neg, w32_id]; exact q)
      | (unfold cI; rw [w32_id (by omega) (by omega)]; omega)
      | (simp only [cI, cB, cU]; done)
      | (simp only [cI]; omega)
      | (unfold cI; grind)


/-! ===== portal ===== -/
set_option maxHeartbeats 400000 in
set_option maxRecDepth 20000 in
theorem op_portal {M K : qm} {x1 x2 : Int} (c1 : -2147483648 ≤ x1 ∧ x1 ≤ 2147483647) (c2 : -2147483648 ≤ x2 ∧ x2 ≤ 2147483647) (h_built : R_built M K) (h_portn : R_portn M K) (h_lines : R_lines M K) (h_ends : R_ends M K) (h_portw : R_portw M K) (h_portc : R_portc M K) : oK2 cI (qf_L_portal 20000 x1 x2 M) (qf_X18_portal_ 20000 x1 x2 K) (fun M' K' => True) := by
  have s_built := h_built
  unfold R_built at s_built
  have s_portn := h_portn
  unfold R_portn at s_portn
  have s_lines := h_lines
  unfold R_lines at s_lines
  have w1 : w32 ((M 824 3 0) - 1) = (M 824 3 0) - 1 := w32_id (by omega) (by omega)
  by_cases hx : 0 ≤ x1 ∧ x1 < (M 824 3 0)
  · have q0 := h_portw x1 hx.1 hx.2
    have q1 := (cellAt_r (M := M) (K := qw K 2156 0 0 0) (p := x1) (R_lines_x (M := M) (K := K) rfl rfl h_lines) (R_ends_x (M := M) (K := K) rfl (fun _ _ => rfl) (fun _ _ => rfl) (fun _ _ => rfl) (fun _ _ => rfl) (fun _ _ => rfl) h_ends) (R_portw_x (M := M) (K := K) rfl rfl (fun _ _ => rfl) rfl (fun _ _ => rfl) (fun _ _ => rfl) (fun _ _ => rfl) (fun _ _ => rfl) h_portw) (R_portc_x (M := M) (K := K) rfl (fun _ _ => rfl) (fun _ _ => rfl) (fun _ _ => rfl) (fun _ _ => rfl) (fun _ _ => rfl) (fun _ _ => rfl) (fun _ _ => rfl) h_portc) hx.1 hx.2)
    unfold oK2
    unfold qf_L_portal qf_X11_portal qf_X11_portal_J21 qf_X11_portal_J22 qf_X11_isPortal qf_X18_portal_ qf_X18_portal__J25 qf_X18_portal__J26
    repeat' first
      | (with_reducible refine qW_eq (factOf_r (pnM_of h_portn) hx.1 hx.2 (by omega) (by omega)) ?_)
      | (with_reducible refine qW_eq q1.1 ?_)
      | (with_reducible refine qW_eq q1.2.1 ?_)
      | with_reducible refine qW_within (fun _ => ?_) (fun _ _ => ?_)
      | with_reducible refine qW_isIn (fun _ => ?_) (fun _ _ => ?_)
      | with_reducible refine qW_na (fun _ => ?_) (fun _ => ?_)
      | with_reducible refine qW_ns (fun _ => ?_) (fun _ => ?_)
      | (with_reducible refine qW_goes (fun _ => ?_) (fun _ _ => ?_) (fun _ _ => ?_) <;> (try dsimp only) <;> (try simp only [qw_ap, qfl1_ap, qfl2_ap, qcp1_ap, qcp2_ap, false_and, true_and, and_true, and_false, and_self, if_false, if_true, reduceIte, Nat.reduceEqDiff, Int.reduceEq, Int.reduceNeg]))
      | (with_reducible refine qW_stays (by omega) (fun _ => ?_) (fun _ => ?_) <;> (try dsimp only) <;> (try simp only [qw_ap, qfl1_ap, qfl2_ap, qcp1_ap, qcp2_ap, false_and, true_and, and_true, and_false, and_self, if_false, if_true, reduceIte, Nat.reduceEqDiff, Int.reduceEq, Int.reduceNeg]))
      | (exfalso; omega)
      | with_reducible refine qW_bind ?_
      | (with_reducible refine qW_bnd ?_; try simp only [qw_ap, qfl1_ap, qfl2_ap, qcp1_ap, qcp2_ap, false_and, true_and, and_true, and_false, and_self, if_false, if_true, reduceIte, Nat.reduceEqDiff, Int.reduceEq, Int.reduceNeg])
      | (with_reducible refine qW_some ?_; (try dsimp only); try simp only [qw_ap, qfl1_ap, qfl2_ap, qcp1_ap, qcp2_ap, false_and, true_and, and_true, and_false, and_self, if_false, if_true, reduceIte, Nat.reduceEqDiff, Int.reduceEq, Int.reduceNeg])
      | ((with_reducible refine qW_no ?_); omega)
      | with_reducible refine qW_pos rfl ?_
      | ((with_reducible refine qW_pos ?_ ?_); omega)
      | ((with_reducible refine qW_neg ?_ ?_); (first | omega | decide))
      | with_reducible refine qW_ite (fun _ => ?_) (fun _ => ?_)
      | dsimp only
    all_goals first
      | exact fun x => absurd x (by decide)
      | exact ⟨rfl, fun x => absurd x (by decide)⟩
      | (intro _)
      | (refine ⟨rfl, fun _ => ?_⟩)
    all_goals first
      | (unfold cI; first | omega | (rw [show x2 = 0 by omega]; omega) | (rw [show x2 = 1 by omega]; omega) | (rw [show x2 = 2 by omega]; omega) | (rw [show x2 = 3 by omega]; omega) | (rw [show x2 = 4 by omega]; omega) | (rw [show x2 = 5 by omega]; omega))
      | (simp only [cI, cB, cU]; done)
      | (simp only [cI]; omega)
      | (unfold cI; grind)

  · unfold oK2
    unfold qf_L_portal qf_X11_portal qf_X11_portal_J21 qf_X11_portal_J22 qf_X11_isPortal qf_X18_portal_ qf_X18_portal__J25 qf_X18_portal__J26
    repeat' first
      | (with_reducible refine qW_eq (factOf_r (pnM_of h_portn) hx.1 hx.2 (by omega) (by omega)) ?_)
      | (with_reducible refine qW_eq q1.1 ?_)
      | (with_reducible refine qW_eq q1.2.1 ?_)
      | with_reducible refine qW_within (fun _ => ?_) (fun _ _ => ?_)
      | with_reducible refine qW_isIn (fun _ => ?_) (fun _ _ => ?_)
      | with_reducible refine qW_na (fun _ => ?_) (fun _ => ?_)
      | with_reducible refine qW_ns (fun _ => ?_) (fun _ => ?_)
      | (with_reducible refine qW_goes (fun _ => ?_) (fun _ _ => ?_) (fun _ _ => ?_) <;> (try dsimp only) <;> (try simp only [qw_ap, qfl1_ap, qfl2_ap, qcp1_ap, qcp2_ap, false_and, true_and, and_true, and_false, and_self, if_false, if_true, reduceIte, Nat.reduceEqDiff, Int.reduceEq, Int.reduceNeg]))
      | (with_reducible refine qW_stays (by omega) (fun _ => ?_) (fun _ => ?_) <;> (try dsimp only) <;> (try simp only [qw_ap, qfl1_ap, qfl2_ap, qcp1_ap, qcp2_ap, false_and, true_and, and_true, and_false, and_self, if_false, if_true, reduceIte, Nat.reduceEqDiff, Int.reduceEq, Int.reduceNeg]))
      | (exfalso; omega)
      | with_reducible refine qW_bind ?_
      | (with_reducible refine qW_bnd ?_; try simp only [qw_ap, qfl1_ap, qfl2_ap, qcp1_ap, qcp2_ap, false_and, true_and, and_true, and_false, and_self, if_false, if_true, reduceIte, Nat.reduceEqDiff, Int.reduceEq, Int.reduceNeg])
      | (with_reducible refine qW_some ?_; (try dsimp only); try simp only [qw_ap, qfl1_ap, qfl2_ap, qcp1_ap, qcp2_ap, false_and, true_and, and_true, and_false, and_self, if_false, if_true, reduceIte, Nat.reduceEqDiff, Int.reduceEq, Int.reduceNeg])
      | ((with_reducible refine qW_no ?_); omega)
      | with_reducible refine qW_pos rfl ?_
      | ((with_reducible refine qW_pos ?_ ?_); omega)
      | ((with_reducible refine qW_neg ?_ ?_); (first | omega | decide))
      | with_reducible refine qW_ite (fun _ => ?_) (fun _ => ?_)
      | dsimp only
    all_goals first
      | exact fun x => absurd x (by decide)
      | exact ⟨rfl, fun x => absurd x (by decide)⟩
      | (intro _)
      | (refine ⟨rfl, fun _ => ?_⟩)
    all_goals first
      | (unfold cI; first | omega | (rw [show x2 = 0 by omega]; omega) | (rw [show x2 = 1 by omega]; omega) | (rw [show x2 = 2 by omega]; omega) | (rw [show x2 = 3 by omega]; omega) | (rw [show x2 = 4 by omega]; omega) | (rw [show x2 = 5 by omega]; omega))
      | (simp only [cI, cB, cU]; done)
      | (simp only [cI]; omega)
      | (unfold cI; grind)


