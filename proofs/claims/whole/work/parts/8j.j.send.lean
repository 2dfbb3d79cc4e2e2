/-! ===== the bus: a telegram comes into a queue, both sides, all of it ===== -/
theorem op_sendB {M K : qm} {x1 x2 x3 x4 x5 x6 : Int} (b4 : x4 = 0 ∨ x4 = 1) (h_built : R_built M K) (hB : BQ M K) : oK2 cI (qf_L_send 20000 x1 x2 x3 x4 x5 x6 M) (qf_X18_send 20000 x1 x2 x3 x4 x5 x6 K) (fun M' K' => BQ M' K') := by
  obtain ⟨h_bqueued, h_baddr, h_bbusy, h_bsaying, h_bcounts, h_banswer, h_bqueue, h_bext⟩ := id hB
  have s_built := h_built
  unfold R_built at s_built
  have hq : (0 ≤ x1 ∧ x1 < 8) → (0 ≤ (M 1140 x1 0) ∧ (M 1140 x1 0) ≤ 6 ∧ (K 2258 x1 0) = (M 1140 x1 0)) := fun h => by
    have q := h_bqueued x1 h.1 h.2
    omega
  unfold oK2
  unfold qf_L_send qf_X11_send qf_X11_send_J32 qf_X11_send_J42 qf_X11_send_J43 qf_X11_send_J73 qf_X11_send_J74 qf_X1_hasRoomInQueue qf_X11_send_J99 qf_X11_send_J100 qf_X11_isStation qf_X18_send qf_X18_send_J32 qf_X18_send_J66 qf_X18_send_J67 qf_X18_send_J98 qf_X18_send_J102 qf_X18_send_J103
  by_cases hx : 0 ≤ x1 ∧ x1 < 8
  · have hq2 := hq hx
    repeat' first
      | ((with_reducible show qW ((qf_X1_enqueue 20000 x1 x2 x3 x4 x5 x6 M).bind _) _); obtain ⟨r, er, t, et, hv1, hv2, hv3, hv4, hW⟩ := en_both (M := M) (K := qw K 2156 0 0 0) (s := x1) (p := x2) (m := x3) (n := x5) (b := x6) (g := x4) (R_bqueued_x (M := M) (K := K) (fun _ _ => rfl) (fun _ _ => rfl) h_bqueued) (R_baddr_x (M := M) (K := K) (fun _ _ => rfl) (fun _ _ => rfl) h_baddr) hx.1 hx.2 (by omega) (by omega) (by omega) (by omega) (by omega) (by omega) (by omega) (by omega) (by omega) (by omega); (with_reducible refine qW_eq er ?_); clear er)
      | with_reducible refine qW_eq et ?_
      | with_reducible refine qW_pos (Or.inl trivial) ?_
      | with_reducible refine qW_pos (Or.inr trivial) ?_
      | with_reducible refine qW_within (fun _ => ?_) (fun _ _ => ?_)
      | with_reducible refine qW_isIn (fun _ => ?_) (fun _ _ => ?_)
      | with_reducible refine qW_na (fun _ => ?_) (fun _ => ?_)
      | with_reducible refine qW_ns (fun _ => ?_) (fun _ => ?_)
      | (with_reducible refine qW_goes (fun _ => ?_) (fun _ _ => ?_) (fun _ _ => ?_) <;> (try dsimp only) <;> (try simp only [qw_ap, qfl1_ap, qfl2_ap, qcp1_ap, qcp2_ap, false_and, true_and, and_true, and_false, and_self, if_false, if_true, reduceIte, Nat.reduceEqDiff, Int.reduceEq, Int.reduceNeg]))
      | (with_reducible refine qW_stays (by omega) (fun _ => ?_) (fun _ => ?_) <;> (try dsimp only) <;> (try simp only [qw_ap, qfl1_ap, qfl2_ap, qcp1_ap, qcp2_ap, false_and, true_and, and_true, and_false, and_self, if_false, if_true, reduceIte, Nat.reduceEqDiff, Int.reduceEq, Int.reduceNeg]))
      | (exfalso; omega)
      | with_reducible refine qW_bind ?_
      | (with_reducible refine qW_bnd ?_; try simp only [qw_ap, qfl1_ap, qfl2_ap, qcp1_ap, qcp2_ap, false_and, true_and, and_true, and_false, and_self, if_false, if_true, reduceIte, Nat.reduceEqDiff, Int.reduceEq, Int.reduceNeg])
      | (with_reducible refine qW_some ?_; (try dsimp only); try simp only [qw_ap, qfl1_ap, qfl2_ap, qcp1_ap, qcp2_ap, false_and, true_and, and_true, and_false, and_self, if_false, if_true, reduceIte, Nat.reduceEqDiff, Int.reduceEq, Int.reduceNeg])
      | ((with_reducible refine qW_no ?_); omega)
      | with_reducible refine qW_pos rfl ?_
      | ((with_reducible refine qW_pos ?_ ?_); omega)
      | ((with_reducible refine qW_neg ?_ ?_); (first | omega | decide))
      | with_reducible refine qW_ite (fun _ => ?_) (fun _ => ?_)
      | dsimp only
    all_goals first
      | (refine ⟨fun x => absurd x (by decide), ?_⟩; exact BQ_x (M := M) (K := K) (fun _ _ => rfl) (fun _ _ => rfl) (fun _ _ => rfl) (fun b hb i j => qw_a (by rcases hb with hb | rfl | rfl; rintro rfl; cases hb; decide; decide)) hB)
      | skip
    all_goals (
      have hW2 : enW M (qw K 2156 0 0 0) (qw r.2 2332 0 0 r.1) t.2 x1 (M 1140 x1 0) := hW
      have hk := hq2
      have hB0 : BQ M (qw K 2156 0 0 0) := BQ_x (M := M) (K := K) (fun _ _ => rfl) (fun _ _ => rfl) (fun _ _ => rfl) (fun b hb i j => qw_a (by rcases hb with hb | rfl | rfl; rintro rfl; cases hb; decide; decide)) hB
      refine ⟨hv3, fun _ => ?_, en_BQ hW2 hx.1 hx.2 rfl (by omega) (fun i j => (qw_a (by decide)).trans (hv4 _ _ _ (by decide) (by decide))) hB0⟩
      show r.1 = t.1
      rw [hv1, hv2])
  · clear hq
    repeat' first
      | with_reducible refine qW_pos (Or.inl trivial) ?_
      | with_reducible refine qW_pos (Or.inr trivial) ?_
      | with_reducible refine qW_within (fun _ => ?_) (fun _ _ => ?_)
      | with_reducible refine qW_isIn (fun _ => ?_) (fun _ _ => ?_)
      | with_reducible refine qW_na (fun _ => ?_) (fun _ => ?_)
      | with_reducible refine qW_ns (fun _ => ?_) (fun _ => ?_)
      | (with_reducible refine qW_goes (fun _ => ?_) (fun _ _ => ?_) (fun _ _ => ?_) <;> (try dsimp only) <;> (try simp only [qw_ap, qfl1_ap, qfl2_ap, qcp1_ap, qcp2_ap, false_and, true_and, and_true, and_false, and_self, if_false, if_true, reduceIte, Nat.reduceEqDiff, Int.reduceEq, Int.reduceNeg]))
      | (with_reducible refine qW_stays (by omega) (fun _ => ?_) (fun _ => ?_) <;> (try dsimp only) <;> (try simp only [qw_ap, qfl1_ap, qfl2_ap, qcp1_ap, qcp2_ap, false_and, true_and, and_true, and_false, and_self, if_false, if_true, reduceIte, Nat.reduceEqDiff, Int.reduceEq, Int.reduceNeg]))
      | (exfalso; omega)
      | with_reducible refine qW_bind ?_
      | (with_reducible refine qW_bnd ?_; try simp only [qw_ap, qfl1_ap, qfl2_ap, qcp1_ap, qcp2_ap, false_and, true_and, and_true, and_false, and_self, if_false, if_true, reduceIte, Nat.reduceEqDiff, Int.reduceEq, Int.reduceNeg])
      | (with_reducible refine qW_some ?_; (try dsimp only); try simp only [qw_ap, qfl1_ap, qfl2_ap, qcp1_ap, qcp2_ap, false_and, true_and, and_true, and_false, and_self, if_false, if_true, reduceIte, Nat.reduceEqDiff, Int.reduceEq, Int.reduceNeg])
      | ((with_reducible refine qW_no ?_); omega)
      | with_reducible refine qW_pos rfl ?_
      | ((with_reducible refine qW_pos ?_ ?_); omega)
      | ((with_reducible refine qW_neg ?_ ?_); (first | omega | decide))
      | with_reducible refine qW_ite (fun _ => ?_) (fun _ => ?_)
      | dsimp only
    all_goals first
      | (refine ⟨fun x => absurd x (by decide), ?_⟩; exact BQ_x (M := M) (K := K) (fun _ _ => rfl) (fun _ _ => rfl) (fun _ _ => rfl) (fun b hb i j => qw_a (by rcases hb with hb | rfl | rfl; rintro rfl; cases hb; decide; decide)) hB)
