/-! ===== each function over memories is the one over plain states, by program (wip/tools/q) ===== -/
section QZ
variable {L : Nat} {xs : Nat → Int32}
set_option maxRecDepth 20000 in
theorem qz_X1_takeCharacter_J51 {P : Nat → Nat} {S : zm_S} {M : qm} {i1 : Int32} {qi1 : Int} (hS : Sh L xs P S) (hM : qM P S = M) (ei1 : i1.toInt = qi1) : qs (zf_X1_takeCharacter_J51 20000 1139 i1 S) (qf_X1_takeCharacter_J51 20000 qi1 M) (tO (rr L xs P vu)) := by
  unfold zf_X1_takeCharacter_J51 qf_X1_takeCharacter_J51
  refine qs_pi hS hM pl_1139 ts_1139 (z := 11) rfl rfl k_1 (fun S9426 M9426 hS9426 hM9426 => ?_)
  exact (qz_X1_takeCharacter_J56 hS9426 hM9426 ei1)
set_option maxRecDepth 20000 in
theorem qz_X1_takeCharacter {P : Nat → Nat} {S : zm_S} {M : qm}  (hS : Sh L xs P S) (hM : qM P S = M)  : qs (zf_X1_takeCharacter 20000 1139 S) (qf_X1_takeCharacter 20000 M) (tO (rr L xs P vu)) := by
  unfold zf_X1_takeCharacter qf_X1_takeCharacter
  refine qs_gi hS hM pl_1139 ts_1139 (z := 10) rfl rfl (fun v9427 h9427 => ?_)
  refine qs_gi hS hM pl_1139 ts_1139 (z := 10) rfl rfl (fun v9428 h9428 => ?_)
  refine qs_bp (qz_J6_bitCount_0f7a4 hS hM (p_and (p_shr h9427 k_1) k_255)) (fun v9429 S9429 w9429 h9429 hS9429 hM9429 => ?_)
  refine qs_ite (c_eq (p_and (p_shr h9428 k_9) k_1) (p_and h9429 k_1)) ?_ ?_
  · refine qs_gi hS9429 hM9429 pl_1139 ts_1139 (z := 10) rfl rfl (fun v9430 h9430 => ?_)
    refine qs_ite (c_eq (p_and (p_shr h9430 k_10) k_1) k_0) ?_ ?_
    · exact (qz_X1_takeCharacter_J51 hS9429 hM9429 (p_and (p_shr h9427 k_1) k_255))
    · refine qs_gi hS9429 hM9429 pl_1139 ts_1139 (z := 13) rfl rfl (fun v9431 h9431 => ?_)
      refine qs_ite (c_lt h9431 k_600) ?_ ?_
      · exact (qz_X1_takeCharacter_J56 hS9429 hM9429 (p_and (p_shr h9427 k_1) k_255))
      · exact (qz_X1_takeCharacter_J51 hS9429 hM9429 (p_and (p_shr h9427 k_1) k_255))
  · exact (qz_X1_takeCharacter_J51 hS9429 hM9429 (p_and (p_shr h9427 k_1) k_255))
set_option maxRecDepth 20000 in
theorem qz_X1_hear {P : Nat → Nat} {S : zm_S} {M : qm} {i1 : Int32} {qi1 : Int} (hS : Sh L xs P S) (hM : qM P S = M) (ei1 : i1.toInt = qi1) : qs (zf_X1_hear 20000 1139 i1 S) (qf_X1_hear 20000 qi1 M) (tO (rr L xs P vu)) := by
  unfold zf_X1_hear qf_X1_hear
  refine qs_gi hS hM pl_1139 ts_1139 (z := 9) rfl rfl (fun v9432 h9432 => ?_)
  refine qs_ite (c_eq h9432 k_m1) ?_ ?_
  · refine qs_ite (c_eq ei1 k_0) ?_ ?_
    · refine qs_zi hS pl_1139 ts_1139 ?_
      refine qs_b (qz_X1_beginHearing hS hM ) (fun v9434 S9434 w9434 M9434 h9434 hS9434 hM9434 => ?_)
      exact qs_tr (show vu _ _ from trivial) hS9434 hM9434
    · exact qs_tr (show vu _ _ from trivial) hS hM
  · refine qs_gi hS hM pl_1139 ts_1139 (z := 9) rfl rfl (fun v9435 h9435 => ?_)
    refine qs_ite (c_le k_11 h9435) ?_ ?_
    · refine qs_gi hS hM pl_1139 ts_1139 (z := 9) rfl rfl (fun v9436 h9436 => ?_)
      refine qs_ite (c_le k_13 h9436) ?_ ?_
      · refine qs_ite (c_eq ei1 k_1) ?_ ?_
        · refine qs_zi hS pl_1139 ts_1139 ?_
          refine qs_b (qz_X1_complete hS hM ) (fun v9438 S9438 w9438 M9438 h9438 hS9438 hM9438 => ?_)
          refine qs_pi hS9438 hM9438 pl_1139 ts_1139 (z := 9) rfl rfl k_m1 (fun S9439 M9439 hS9439 hM9439 => ?_)
          exact qs_tr (show vu _ _ from trivial) hS9439 hM9439
        · refine qs_zi hS pl_1139 ts_1139 ?_
          refine qs_b (qz_X1_beginCharacter hS hM ) (fun v9441 S9441 w9441 M9441 h9441 hS9441 hM9441 => ?_)
          exact qs_tr (show vu _ _ from trivial) hS9441 hM9441
      · refine qs_ite (c_eq ei1 k_1) ?_ ?_
        · refine qs_gi hS hM pl_1139 ts_1139 (z := 9) rfl rfl (fun v9442 h9442 => ?_)
          refine qs_pi hS hM pl_1139 ts_1139 (z := 9) rfl rfl (p_add h9442 k_1) (fun S9443 M9443 hS9443 hM9443 => ?_)
          exact qs_tr (show vu _ _ from trivial) hS9443 hM9443
        · refine qs_zi hS pl_1139 ts_1139 ?_
          refine qs_b (qz_X1_complete hS hM ) (fun v9445 S9445 w9445 M9445 h9445 hS9445 hM9445 => ?_)
          refine qs_zi hS9445 pl_1139 ts_1139 ?_
          refine qs_b (qz_X1_beginHearing hS9445 hM9445 ) (fun v9447 S9447 w9447 M9447 h9447 hS9447 hM9447 => ?_)
          exact qs_tr (show vu _ _ from trivial) hS9447 hM9447
    · refine qs_gi hS hM pl_1139 ts_1139 (z := 10) rfl rfl (fun v9448 h9448 => ?_)
      refine qs_gi hS hM pl_1139 ts_1139 (z := 9) rfl rfl (fun v9449 h9449 => ?_)
      refine qs_pi hS hM pl_1139 ts_1139 (z := 10) rfl rfl (p_or h9448 (p_shl ei1 h9449)) (fun S9450 M9450 hS9450 hM9450 => ?_)
      refine qs_gi hS9450 hM9450 pl_1139 ts_1139 (z := 9) rfl rfl (fun v9451 h9451 => ?_)
      refine qs_pi hS9450 hM9450 pl_1139 ts_1139 (z := 9) rfl rfl (p_add h9451 k_1) (fun S9452 M9452 hS9452 hM9452 => ?_)
      refine qs_gi hS9452 hM9452 pl_1139 ts_1139 (z := 9) rfl rfl (fun v9453 h9453 => ?_)
      refine qs_ite (c_eq h9453 k_11) ?_ ?_
      · refine qs_zi hS9452 pl_1139 ts_1139 ?_
        refine qs_b (qz_X1_takeCharacter hS9452 hM9452 ) (fun v9455 S9455 w9455 M9455 h9455 hS9455 hM9455 => ?_)
        exact qs_tr (show vu _ _ from trivial) hS9455 hM9455
      · exact qs_tr (show vu _ _ from trivial) hS9452 hM9452
set_option maxRecDepth 20000 in
theorem qz_X1_dropFirst {P : Nat → Nat} {S : zm_S} {M : qm} {i1 : Int32} {qi1 : Int} (hS : Sh L xs P S) (hM : qM P S = M) (ei1 : i1.toInt = qi1) : qs (zf_X1_dropFirst 20000 1139 i1 S) (qf_X1_dropFirst 20000 qi1 M) (tO (rr L xs P vu)) := by
  unfold zf_X1_dropFirst qf_X1_dropFirst
  refine qs_gr hS pl_1139 ts_1139 rfl ?_
  refine qs_gd (fun g9458 => ?_)
  refine qs_xt hS pl_1149 ts_1149 (Or.inl rfl) ei1 g9458 (fun b9457 r9457 => ?_)
  refine qs_yn hS qt_1149 tq_1149 (by decide) r9457 (x := 42) (by decide) (fun v9459 h9459 => ?_)
  refine qs_cqi hS hM qt_1149 tq_1149 r9457 qt_1149 tq_1149 r9457 k_7 k_0 ((p_sub h9459 k_7).trans (by decide)) (by decide) (fun S9460 M9460 hS9460 hM9460 => ?_)
  refine qs_gr hS9460 pl_1139 ts_1139 rfl ?_
  refine qs_gd (fun g9463 => ?_)
  refine qs_xt hS9460 pl_1140 ts_1140 (Or.inl rfl) ei1 g9463 (fun b9462 r9462 => ?_)
  refine qs_yi (j := 0) hS9460 hM9460 qt_1140 tq_1140 r9462 k_0 (by decide) (fun v9464 h9464 => ?_)
  refine qs_ysi hS9460 hM9460 qt_1140 tq_1140 r9462 k_0 (by decide) (p_sub h9464 k_1) (fun S9465 M9465 hS9465 hM9465 => ?_)
  exact qs_tr (show vu _ _ from trivial) hS9465 hM9465
set_option maxRecDepth 20000 in
theorem qz_X1_endWaiting {P : Nat → Nat} {S : zm_S} {M : qm} {i1 : Int32} {qi1 : Int} (hS : Sh L xs P S) (hM : qM P S = M) (ei1 : i1.toInt = qi1) : qs (zf_X1_endWaiting 20000 1139 i1 S) (qf_X1_endWaiting 20000 qi1 M) (tO (rr L xs P vu)) := by
  unfold zf_X1_endWaiting qf_X1_endWaiting
  refine qs_gr hS pl_1139 ts_1139 rfl ?_
  refine qs_gd (fun g9468 => ?_)
  refine qs_xt hS pl_1140 ts_1140 (Or.inl rfl) ei1 g9468 (fun b9467 r9467 => ?_)
  refine qs_ysi hS hM qt_1140 tq_1140 r9467 k_2 (by decide) k_m1 (fun S9469 M9469 hS9469 hM9469 => ?_)
  refine qs_gi hS9469 hM9469 pl_1139 ts_1139 (z := 18) rfl rfl (fun v9470 h9470 => ?_)
  refine qs_ite (c_eq h9470 k_204) ?_ ?_
  · refine qs_yi (j := 3) hS9469 hM9469 qt_1140 tq_1140 r9467 k_3 (by decide) (fun v9471 h9471 => ?_)
    refine qs_ysi hS9469 hM9469 qt_1140 tq_1140 r9467 k_3 (by decide) (p_add h9471 k_1) (fun S9472 M9472 hS9472 hM9472 => ?_)
    refine qs_zi hS9472 pl_1139 ts_1139 ?_
    refine qs_b (qz_X1_dropFirst hS9472 hM9472 ei1) (fun v9474 S9474 w9474 M9474 h9474 hS9474 hM9474 => ?_)
    exact qs_tr (show vu _ _ from trivial) hS9474 hM9474
  · refine qs_gr hS9469 pl_1139 ts_1139 rfl ?_
    refine qs_gd (fun g9477 => ?_)
    refine qs_xt hS9469 pl_1149 ts_1149 (Or.inl rfl) ei1 g9477 (fun b9476 r9476 => ?_)
    refine qs_yi (j := 6) hS9469 hM9469 qt_1149 tq_1149 r9476 k_6 (by decide) (fun v9478 h9478 => ?_)
    refine qs_ite (c_lt h9478 k_4) ?_ ?_
    · exact qs_tr (show vu _ _ from trivial) hS9469 hM9469
    · refine qs_yi (j := 4) hS9469 hM9469 qt_1140 tq_1140 r9467 k_4 (by decide) (fun v9479 h9479 => ?_)
      refine qs_ysi hS9469 hM9469 qt_1140 tq_1140 r9467 k_4 (by decide) (p_add h9479 k_1) (fun S9480 M9480 hS9480 hM9480 => ?_)
      refine qs_zi hS9480 pl_1139 ts_1139 ?_
      refine qs_b (qz_X1_dropFirst hS9480 hM9480 ei1) (fun v9482 S9482 w9482 M9482 h9482 hS9482 hM9482 => ?_)
      exact qs_tr (show vu _ _ from trivial) hS9482 hM9482
set_option maxRecDepth 20000 in
theorem qz_X1_runBitTime_L110_b (n : Nat) {P : Nat → Nat} {S : zm_S} {M : qm} {i2 : Int32} {qi2 : Int} (hS : Sh L xs P S) (hM : qM P S = M) (ei2 : i2.toInt = qi2) : qs (zf_X1_runBitTime_L110 20000 (n + 1) 1139 i2 S) (qf_X1_runBitTime_L110_b 20000 qi2 M) (tk (vs (rr L xs P vu) (rr L xs P vu)) (qc_X1_runBitTime_L110 L xs P (zf_X1_runBitTime_L110 20000 n))) := by
  refine qs_eq (zf_X1_runBitTime_L110.eq_2 ..) ?_
  unfold qf_X1_runBitTime_L110_b
  refine qs_ite (c_le k_8 ei2) ?_ ?_
  · exact qs_tr2 (show vu _ _ from trivial) hS hM
  · refine qs_gr hS pl_1139 ts_1139 rfl ?_
    refine qs_gd (fun g9485 => ?_)
    refine qs_xt hS pl_1140 ts_1140 (Or.inl rfl) ei2 g9485 (fun b9484 r9484 => ?_)
    refine qs_yi (j := 2) hS hM qt_1140 tq_1140 r9484 k_2 (by decide) (fun v9486 h9486 => ?_)
    refine qs_gi hS hM pl_1139 ts_1139 (z := 5) rfl rfl (fun v9487 h9487 => ?_)
    refine qs_ite (c_eq h9486 h9487) ?_ ?_
    · refine qs_zi hS pl_1139 ts_1139 ?_
      refine qs_b (qz_X1_endWaiting hS hM ei2) (fun v9489 S9489 w9489 M9489 h9489 hS9489 hM9489 => ?_)
      exact qs_tk ⟨_, _, rfl, (p_add ei2 k_1), hS9489, hM9489⟩
    · exact qs_tk ⟨_, _, rfl, (p_add ei2 k_1), hS, hM⟩
theorem qz_X1_runBitTime_L110 (n : Nat) : ∀ {P : Nat → Nat} {S : zm_S} {M : qm} {i2 : Int32} {qi2 : Int} (hS : Sh L xs P S) (hM : qM P S = M) (ei2 : i2.toInt = qi2), qs (zf_X1_runBitTime_L110 20000 n 1139 i2 S) (qf_X1_runBitTime_L110 20000 n qi2 M) (tO (vs (rr L xs P vu) (rr L xs P vu))) := by
  induction n with
  | zero =>
    intros
    exact qs_none
  | succ n ih =>
    intro P S M i2 qi2 hS hM ei2
    unfold qf_X1_runBitTime_L110
    refine qs_loop (C := (qc_X1_runBitTime_L110 L xs P (zf_X1_runBitTime_L110 20000 n))) (qz_X1_runBitTime_L110_b n hS hM ei2) ?_
    rintro x s ⟨_, _, rfl, u0, hS2, hM2⟩
    exact ih hS2 hM2 u0
set_option maxRecDepth 20000 in
theorem qz_X1_runBitTime_J105 {P : Nat → Nat} {S : zm_S} {M : qm} {t1 : Int32} {qt1 : Int} (hS : Sh L xs P S) (hM : qM P S = M) (et1 : t1.toInt = qt1) : qs (zf_X1_runBitTime_J105 20000 1139 1139 t1 S) (qf_X1_runBitTime_J105 20000 qt1 M) (tO (rr L xs P vu)) := by
  unfold zf_X1_runBitTime_J105 qf_X1_runBitTime_J105
  refine qs_pi hS hM pl_1139 ts_1139 (z := 6) rfl rfl et1 (fun S9490 M9490 hS9490 hM9490 => ?_)
  refine qs_lr (qz_X1_runBitTime_L110 20000 hS9490 hM9490 k_0) ?_ ?_
  · intro v9492 S9492 w9492 M9492 h9492 hS9492 hM9492
    dsimp only
    exact qs_tr h9492 hS9492 hM9492
  · intro v9492 S9492 w9492 M9492 h9492 hS9492 hM9492
    dsimp only
    exact qs_tr (show vu _ _ from trivial) hS9492 hM9492
set_option maxRecDepth 20000 in
theorem qz_X1_runBitTime_J35 {P : Nat → Nat} {S : zm_S} {M : qm}  (hS : Sh L xs P S) (hM : qM P S = M)  : qs (zf_X1_runBitTime_J35 20000 1139 S) (qf_X1_runBitTime_J35 20000 M) (tO (rr L xs P vu)) := by
  unfold zf_X1_runBitTime_J35 qf_X1_runBitTime_J35
  refine qs_lr (qz_X1_runBitTime_L37 20000 hS hM k_0) ?_ ?_
  · intro v9494 S9494 w9494 M9494 h9494 hS9494 hM9494
    dsimp only
    exact qs_tr h9494 hS9494 hM9494
  · intro v9494 S9494 w9494 M9494 h9494 hS9494 hM9494
    dsimp only
    refine qs_zi hS9494 pl_1139 ts_1139 ?_
    refine qs_b (qz_X1_lineNow hS9494 hM9494 ) (fun v9496 S9496 w9496 M9496 h9496 hS9496 hM9496 => ?_)
    refine qs_lr (qz_X1_runBitTime_L61 20000 hS9496 hM9496 h9496 k_0) ?_ ?_
    · intro v9498 S9498 w9498 M9498 h9498 hS9498 hM9498
      dsimp only
      exact qs_tr h9498 hS9498 hM9498
    · intro v9498 S9498 w9498 M9498 h9498 hS9498 hM9498
      dsimp only
      refine qs_zi hS9498 pl_1139 ts_1139 ?_
      refine qs_b (qz_X1_hear hS9498 hM9498 h9496) (fun v9500 S9500 w9500 M9500 h9500 hS9500 hM9500 => ?_)
      refine qs_ite (c_eq h9496 k_1) ?_ ?_
      · refine qs_gi hS9500 hM9500 pl_1139 ts_1139 (z := 6) rfl rfl (fun v9501 h9501 => ?_)
        exact (qz_X1_runBitTime_J105 hS9500 hM9500 (p_add h9501 k_1))
      · exact (qz_X1_runBitTime_J105 hS9500 hM9500 k_0)
set_option maxRecDepth 20000 in
theorem qz_X1_isMeantFor {P : Nat → Nat} {S : zm_S} {M : qm} {i1 : Int32} {qi1 : Int} (hS : Sh L xs P S) (hM : qM P S = M) (ei1 : i1.toInt = qi1) : qs (zf_X1_isMeantFor 20000 1139 i1 S) (qf_X1_isMeantFor 20000 qi1 M) (tO (rp L xs P M vi)) := by
  unfold zf_X1_isMeantFor qf_X1_isMeantFor
  refine qs_zi hS pl_1139 ts_1139 ?_
  refine qs_bp (qz_X1_latestAim hS hM ) (fun v9503 S9503 w9503 h9503 hS9503 hM9503 => ?_)
  refine qs_gr hS9503 pl_1139 ts_1139 rfl ?_
  refine qs_xi (i := 5) hM9503 (pa_p hS9503 pl_1170 ts_1170) k_5 (by decide) (fun v9505 h9505 => ?_)
  refine qs_ite (c_le k_128 h9505) ?_ ?_
  · refine qs_ite (c_le k_256 h9503) ?_ ?_
    · exact qs_tp (show vi _ _ from k_0) hS9503 hM9503
    · refine qs_gr hS9503 pl_1139 ts_1139 rfl ?_
      refine qs_gd (fun g9508 => ?_)
      refine qs_xi hM9503 (pa_p hS9503 pl_1167 ts_1167) (p_add (p_mul ei1 k_256) h9503) g9508 (fun v9507 h9507 => ?_)
      refine qs_ite (c_eq h9507 k_0) ?_ ?_
      · exact qs_tp (show vi _ _ from k_0) hS9503 hM9503
      · exact qs_tp (show vi _ _ from k_1) hS9503 hM9503
  · refine qs_gr hS9503 pl_1139 ts_1139 rfl ?_
    refine qs_gd (fun g9511 => ?_)
    refine qs_xt hS9503 pl_1140 ts_1140 (Or.inl rfl) ei1 g9511 (fun b9510 r9510 => ?_)
    refine qs_yi (j := 6) hS9503 hM9503 qt_1140 tq_1140 r9510 k_6 (by decide) (fun v9512 h9512 => ?_)
    refine qs_ite (c_eq h9512 h9503) ?_ ?_
    · exact qs_tp (show vi _ _ from k_1) hS9503 hM9503
    · exact qs_tp (show vi _ _ from k_0) hS9503 hM9503
set_option maxRecDepth 20000 in
theorem qz_X1_beginAnswers_J74 {P : Nat → Nat} {S : zm_S} {M : qm} {i1 : Int32} {qi1 : Int} {i2 : Int32} {qi2 : Int} {a3 : Nat} {qa3 : Int} {t0 : Nat} {qt0 : Int} {t1 : Int32} {qt1 : Int} {t2 : Int32} {qt2 : Int} (hS : Sh L xs P S) (hM : qM P S = M) (ei1 : i1.toInt = qi1) (ei2 : i2.toInt = qi2) (ra3 : pr a3 1141 8 qa3) (rt0 : pr t0 1141 8 qt0) (et1 : t1.toInt = qt1) (et2 : t2.toInt = qt2) {k : Nat → Int32 → Int32 → zm_S → Option ((Unit × zm_S) ⊕ ((Unit) × zm_S))} : qs (zf_X1_beginAnswers_J74 20000 k 1139 i1 i2 a3 t0 t1 t2 S) (qf_X1_beginAnswers_J74 20000 qi1 qi2 qa3 qt0 qt1 qt2 M) (tk (vs (rr L xs P vu) (rr L xs P vu)) (qc_X1_beginAnswers_L7 L xs P k)) := by
  unfold zf_X1_beginAnswers_J74 qf_X1_beginAnswers_J74
  refine qs_gd (fun g9514 => ?_)
  refine qs_ysi hS hM qt_1140 tq_1140 rt0 et1 g9514 et2 (fun S9513 M9513 hS9513 hM9513 => ?_)
  refine qs_ysi hS9513 hM9513 qt_1140 tq_1140 ra3 k_9 (by decide) k_0 (fun S9515 M9515 hS9515 hM9515 => ?_)
  exact qs_tk ⟨_, _, _, rfl, ei1, (p_add ei2 k_1), hS9515, hM9515⟩
set_option maxRecDepth 20000 in
theorem qz_X1_beginAnswers_J58 {P : Nat → Nat} {S : zm_S} {M : qm} {i1 : Int32} {qi1 : Int} {i2 : Int32} {qi2 : Int} {a3 : Nat} {qa3 : Int} {t0 : Int32} {qt0 : Int} (hS : Sh L xs P S) (hM : qM P S = M) (ei1 : i1.toInt = qi1) (ei2 : i2.toInt = qi2) (ra3 : pr a3 1141 8 qa3) (et0 : t0.toInt = qt0) {k : Nat → Int32 → Int32 → zm_S → Option ((Unit × zm_S) ⊕ ((Unit) × zm_S))} : qs (zf_X1_beginAnswers_J58 20000 k 1139 i1 i2 a3 t0 S) (qf_X1_beginAnswers_J58 20000 qi1 qi2 qa3 qt0 M) (tk (vs (rr L xs P vu) (rr L xs P vu)) (qc_X1_beginAnswers_L7 L xs P k)) := by
  unfold zf_X1_beginAnswers_J58 qf_X1_beginAnswers_J58
  refine qs_ite (c_eq ei1 k_0) ?_ ?_
  · exact (qz_X1_beginAnswers_J74 hS hM ei1 ei2 ra3 ra3 k_8 k_12)
  · exact (qz_X1_beginAnswers_J74 hS hM ei1 ei2 ra3 ra3 k_8 et0)
set_option maxRecDepth 20000 in
theorem qz_X1_beginAnswers_L7_b (n : Nat) {P : Nat → Nat} {S : zm_S} {M : qm} {i1 : Int32} {qi1 : Int} {i2 : Int32} {qi2 : Int} (hS : Sh L xs P S) (hM : qM P S = M) (ei1 : i1.toInt = qi1) (ei2 : i2.toInt = qi2) : qs (zf_X1_beginAnswers_L7 20000 (n + 1) 1139 i1 i2 S) (qf_X1_beginAnswers_L7_b 20000 qi1 qi2 M) (tk (vs (rr L xs P vu) (rr L xs P vu)) (qc_X1_beginAnswers_L7 L xs P (zf_X1_beginAnswers_L7 20000 n))) := by
  refine qs_eq (zf_X1_beginAnswers_L7.eq_2 ..) ?_
  unfold qf_X1_beginAnswers_L7_b
  refine qs_ite (c_le k_8 ei2) ?_ ?_
  · exact qs_tr2 (show vu _ _ from trivial) hS hM
  · refine qs_gr hS pl_1139 ts_1139 rfl ?_
    refine qs_gd (fun g9518 => ?_)
    refine qs_xt hS pl_1140 ts_1140 (Or.inl rfl) ei2 g9518 (fun b9517 r9517 => ?_)
    refine qs_zi hS pl_1139 ts_1139 ?_
    refine qs_bp (qz_X1_isMeantFor hS hM ei2) (fun v9520 S9520 w9520 h9520 hS9520 hM9520 => ?_)
    refine qs_ite (c_eq h9520 k_0) ?_ ?_
    · exact qs_tk ⟨_, _, _, rfl, ei1, (p_add ei2 k_1), hS9520, hM9520⟩
    · refine qs_yi (j := 1) hS9520 hM9520 qt_1140 tq_1140 r9517 k_1 (by decide) (fun v9521 h9521 => ?_)
      refine qs_ite (c_eq h9521 k_m1) ?_ ?_
      · refine qs_yi (j := 2) hS9520 hM9520 qt_1140 tq_1140 r9517 k_2 (by decide) (fun v9522 h9522 => ?_)
        refine qs_ite (c_eq h9522 k_m1) ?_ ?_
        · refine qs_yi (j := 7) hS9520 hM9520 qt_1140 tq_1140 r9517 k_7 (by decide) (fun v9523 h9523 => ?_)
          refine qs_ite (c_eq h9523 k_0) ?_ ?_
          · exact (qz_X1_beginAnswers_J58 hS9520 hM9520 ei1 ei2 r9517 k_204)
          · exact (qz_X1_beginAnswers_J58 hS9520 hM9520 ei1 ei2 r9517 k_192)
        · exact qs_tk ⟨_, _, _, rfl, ei1, (p_add ei2 k_1), hS9520, hM9520⟩
      · exact qs_tk ⟨_, _, _, rfl, ei1, (p_add ei2 k_1), hS9520, hM9520⟩
theorem qz_X1_beginAnswers_L7 (n : Nat) : ∀ {P : Nat → Nat} {S : zm_S} {M : qm} {i1 : Int32} {qi1 : Int} {i2 : Int32} {qi2 : Int} (hS : Sh L xs P S) (hM : qM P S = M) (ei1 : i1.toInt = qi1) (ei2 : i2.toInt = qi2), qs (zf_X1_beginAnswers_L7 20000 n 1139 i1 i2 S) (qf_X1_beginAnswers_L7 20000 n qi1 qi2 M) (tO (vs (rr L xs P vu) (rr L xs P vu))) := by
  induction n with
  | zero =>
    intros
    exact qs_none
  | succ n ih =>
    intro P S M i1 qi1 i2 qi2 hS hM ei1 ei2
    unfold qf_X1_beginAnswers_L7
    refine qs_loop (C := (qc_X1_beginAnswers_L7 L xs P (zf_X1_beginAnswers_L7 20000 n))) (qz_X1_beginAnswers_L7_b n hS hM ei1 ei2) ?_
    rintro x s ⟨_, _, _, rfl, u0, u1, hS2, hM2⟩
    exact ih hS2 hM2 u0 u1
set_option maxRecDepth 20000 in
theorem qz_X1_beginAnswers {P : Nat → Nat} {S : zm_S} {M : qm}  (hS : Sh L xs P S) (hM : qM P S = M)  : qs (zf_X1_beginAnswers 20000 1139 S) (qf_X1_beginAnswers 20000 M) (tO (rr L xs P vu)) := by
  unfold zf_X1_beginAnswers qf_X1_beginAnswers
  refine qs_zi hS pl_1139 ts_1139 ?_
  refine qs_bp (qz_X1_isLatestRight hS hM ) (fun v9525 S9525 w9525 h9525 hS9525 hM9525 => ?_)
  refine qs_lr (qz_X1_beginAnswers_L7 20000 hS9525 hM9525 h9525 k_0) ?_ ?_
  · intro v9527 S9527 w9527 M9527 h9527 hS9527 hM9527
    dsimp only
    exact qs_tr h9527 hS9527 hM9527
  · intro v9527 S9527 w9527 M9527 h9527 hS9527 hM9527
    dsimp only
    exact qs_tr (show vu _ _ from trivial) hS9527 hM9527
set_option maxRecDepth 20000 in
theorem qz_X1_runBitTime {P : Nat → Nat} {S : zm_S} {M : qm}  (hS : Sh L xs P S) (hM : qM P S = M)  : qs (zf_X1_runBitTime 20000 1139 S) (qf_X1_runBitTime 20000 M) (tO (rr L xs P vu)) := by
  unfold zf_X1_runBitTime qf_X1_runBitTime
  refine qs_gi hS hM pl_1139 ts_1139 (z := 5) rfl rfl (fun v9528 h9528 => ?_)
  refine qs_pi hS hM pl_1139 ts_1139 (z := 5) rfl rfl (p_add h9528 k_1) (fun S9529 M9529 hS9529 hM9529 => ?_)
  refine qs_gi hS9529 hM9529 pl_1139 ts_1139 (z := 5) rfl rfl (fun v9530 h9530 => ?_)
  refine qs_gi hS9529 hM9529 pl_1139 ts_1139 (z := 16) rfl rfl (fun v9531 h9531 => ?_)
  refine qs_ite (c_eq h9530 (p_add h9531 k_14)) ?_ ?_
  · refine qs_gi hS9529 hM9529 pl_1139 ts_1139 (z := 17) rfl rfl (fun v9532 h9532 => ?_)
    refine qs_ite (c_eq h9532 k_0) ?_ ?_
    · exact (qz_X1_runBitTime_J35 hS9529 hM9529 )
    · refine qs_zi hS9529 pl_1139 ts_1139 ?_
      refine qs_b (qz_X1_beginAnswers hS9529 hM9529 ) (fun v9534 S9534 w9534 M9534 h9534 hS9534 hM9534 => ?_)
      exact (qz_X1_runBitTime_J35 hS9534 hM9534 )
  · exact (qz_X1_runBitTime_J35 hS9529 hM9529 )
set_option maxRecDepth 20000 in
theorem qz_X11_passSecond_L211_b (n : Nat) {P : Nat → Nat} {S : zm_S} {M : qm} {i1 : Int32} {qi1 : Int} (hS : Sh L xs P S) (hM : qM P S = M) (ei1 : i1.toInt = qi1) : qs (zf_X11_passSecond_L211 20000 (n + 1) 6 i1 S) (qf_X11_passSecond_L211_b 20000 qi1 M) (tk (vs (rr L xs P vu) (rr L xs P vu)) (qc_X11_passSecond_L211 L xs P (zf_X11_passSecond_L211 20000 n))) := by
  refine qs_eq (zf_X11_passSecond_L211.eq_2 ..) ?_
  unfold qf_X11_passSecond_L211_b
  refine qs_ite (c_le k_30 ei1) ?_ ?_
  · exact qs_tr2 (show vu _ _ from trivial) hS hM
  · refine qs_gr hS pl_6 ts_6 rfl ?_
    refine qs_zi hS pl_1139 ts_1139 ?_
    refine qs_b (qz_X1_runBitTime hS hM ) (fun v9537 S9537 w9537 M9537 h9537 hS9537 hM9537 => ?_)
    exact qs_tk ⟨_, _, rfl, (p_add ei1 k_1), hS9537, hM9537⟩
theorem qz_X11_passSecond_L211 (n : Nat) : ∀ {P : Nat → Nat} {S : zm_S} {M : qm} {i1 : Int32} {qi1 : Int} (hS : Sh L xs P S) (hM : qM P S = M) (ei1 : i1.toInt = qi1), qs (zf_X11_passSecond_L211 20000 n 6 i1 S) (qf_X11_passSecond_L211 20000 n qi1 M) (tO (vs (rr L xs P vu) (rr L xs P vu))) := by
  induction n with
  | zero =>
    intros
    exact qs_none
  | succ n ih =>
    intro P S M i1 qi1 hS hM ei1
    unfold qf_X11_passSecond_L211
    refine qs_loop (C := (qc_X11_passSecond_L211 L xs P (zf_X11_passSecond_L211 20000 n))) (qz_X11_passSecond_L211_b n hS hM ei1) ?_
    rintro x s ⟨_, _, rfl, u0, hS2, hM2⟩
    exact ih hS2 hM2 u0
set_option maxRecDepth 20000 in
theorem qz_X10_catchPersons_L2_b (n : Nat) {P : Nat → Nat} {S : zm_S} {M : qm} {i1 : Int32} {qi1 : Int} {i2 : Int32} {qi2 : Int} (hS : Sh L xs P S) (hM : qM P S = M) (ei1 : i1.toInt = qi1) (ei2 : i2.toInt = qi2) : qs (zf_X10_catchPersons_L2 20000 (n + 1) 756 i1 i2 S) (qf_X10_catchPersons_L2_b 20000 qi1 qi2 M) (tk (vs (rr L xs P vu) (rr L xs P vu)) (qc_X10_catchPersons_L2 L xs P (zf_X10_catchPersons_L2 20000 n))) := by
  refine qs_eq (zf_X10_catchPersons_L2.eq_2 ..) ?_
  unfold qf_X10_catchPersons_L2_b
  refine qs_gi hS hM pl_756 ts_756 (z := 7) rfl rfl (fun v9538 h9538 => ?_)
  refine qs_ite (c_le h9538 ei2) ?_ ?_
  · exact qs_tr2 (show vu _ _ from trivial) hS hM
  · refine qs_zi hS pl_756 ts_756 ?_
    refine qs_bp (qz_X10_isFreeInside hS hM ei2) (fun v9540 S9540 w9540 h9540 hS9540 hM9540 => ?_)
    refine qs_ite (c_eq h9540 k_0) ?_ ?_
    · exact qs_tk ⟨_, _, _, rfl, ei1, (p_add ei2 k_1), hS9540, hM9540⟩
    · refine qs_gr hS9540 pl_756 ts_756 rfl ?_
      refine qs_zi hS9540 pl_756 ts_756 ?_
      refine qs_bp (qz_X10_cellOf hS9540 hM9540 ei2) (fun v9543 S9543 w9543 h9543 hS9543 hM9543 => ?_)
      refine qs_gd (fun g9545 => ?_)
      refine qs_xi hM9543 (pa_p hS9543 pl_757 ts_757) h9543 g9545 (fun v9544 h9544 => ?_)
      refine qs_ite (c_eq h9544 k_0) ?_ ?_
      · exact qs_tk ⟨_, _, _, rfl, ei1, (p_add ei2 k_1), hS9543, hM9543⟩
      · refine qs_gr hS9543 pl_756 ts_756 rfl ?_
        refine qs_gd (fun g9548 => ?_)
        refine qs_xt hS9543 pl_761 ts_761 (Or.inl rfl) ei2 g9548 (fun b9547 r9547 => ?_)
        refine qs_ysi hS9543 hM9543 qt_761 tq_761 r9547 k_3 (by decide) ei1 (fun S9549 M9549 hS9549 hM9549 => ?_)
        exact qs_tk ⟨_, _, _, rfl, ei1, (p_add ei2 k_1), hS9549, hM9549⟩
theorem qz_X10_catchPersons_L2 (n : Nat) : ∀ {P : Nat → Nat} {S : zm_S} {M : qm} {i1 : Int32} {qi1 : Int} {i2 : Int32} {qi2 : Int} (hS : Sh L xs P S) (hM : qM P S = M) (ei1 : i1.toInt = qi1) (ei2 : i2.toInt = qi2), qs (zf_X10_catchPersons_L2 20000 n 756 i1 i2 S) (qf_X10_catchPersons_L2 20000 n qi1 qi2 M) (tO (vs (rr L xs P vu) (rr L xs P vu))) := by
  induction n with
  | zero =>
    intros
    exact qs_none
  | succ n ih =>
    intro P S M i1 qi1 i2 qi2 hS hM ei1 ei2
    unfold qf_X10_catchPersons_L2
    refine qs_loop (C := (qc_X10_catchPersons_L2 L xs P (zf_X10_catchPersons_L2 20000 n))) (qz_X10_catchPersons_L2_b n hS hM ei1 ei2) ?_
    rintro x s ⟨_, _, _, rfl, u0, u1, hS2, hM2⟩
    exact ih hS2 hM2 u0 u1
set_option maxRecDepth 20000 in
theorem qz_X10_catchPersons {P : Nat → Nat} {S : zm_S} {M : qm} {i1 : Int32} {qi1 : Int} (hS : Sh L xs P S) (hM : qM P S = M) (ei1 : i1.toInt = qi1) : qs (zf_X10_catchPersons 20000 756 i1 S) (qf_X10_catchPersons 20000 qi1 M) (tO (rr L xs P vu)) := by
  unfold zf_X10_catchPersons qf_X10_catchPersons
  refine qs_lr (qz_X10_catchPersons_L2 20000 hS hM ei1 k_0) ?_ ?_
  · intro v9551 S9551 w9551 M9551 h9551 hS9551 hM9551
    dsimp only
    exact qs_tr h9551 hS9551 hM9551
  · intro v9551 S9551 w9551 M9551 h9551 hS9551 hM9551
    dsimp only
    exact qs_tr (show vu _ _ from trivial) hS9551 hM9551
set_option maxRecDepth 20000 in
theorem qz_X11_doPersonsLeave {P : Nat → Nat} {S : zm_S} {M : qm}  (hS : Sh L xs P S) (hM : qM P S = M)  : qs (zf_X11_doPersonsLeave 20000 6 S) (qf_X11_doPersonsLeave 20000 M) (tO (rp L xs P M vi)) := by
  unfold zf_X11_doPersonsLeave qf_X11_doPersonsLeave
  refine qs_gr hS pl_6 ts_6 rfl ?_
  refine qs_zi hS pl_1172 ts_1172 ?_
  refine qs_bp (qz_X4_isKindDone hS hM k_4) (fun v9554 S9554 w9554 h9554 hS9554 hM9554 => ?_)
  refine qs_ite (or_congr (c_eq h9554 k_0) (c_eq h9554 k_1)) ?_ ?_
  · exact qs_tp (show vi _ _ from h9554) hS9554 hM9554
  · exact qs_none
set_option maxRecDepth 20000 in
theorem qz_X10_movePersons_L2_b (n : Nat) {P : Nat → Nat} {S : zm_S} {M : qm} {i1 : Int32} {qi1 : Int} {i2 : Int32} {qi2 : Int} (hS : Sh L xs P S) (hM : qM P S = M) (ei1 : i1.toInt = qi1) (ei2 : i2.toInt = qi2) : qs (zf_X10_movePersons_L2 20000 (n + 1) 756 i1 i2 S) (qf_X10_movePersons_L2_b 20000 qi1 qi2 M) (tk (vs (rr L xs P vu) (rr L xs P vu)) (qc_X10_movePersons_L2 L xs P (zf_X10_movePersons_L2 20000 n))) := by
  refine qs_eq (zf_X10_movePersons_L2.eq_2 ..) ?_
  unfold qf_X10_movePersons_L2_b
  refine qs_gr hS pl_756 ts_756 rfl ?_
  refine qs_gi hS hM pl_7 ts_7 (z := 0) rfl rfl (fun v9556 h9556 => ?_)
  refine qs_ite (c_le h9556 ei2) ?_ ?_
  · exact qs_tr2 (show vu _ _ from trivial) hS hM
  · refine qs_gr hS pl_756 ts_756 rfl ?_
    refine qs_gd (fun g9559 => ?_)
    refine qs_xt hS pl_803 ts_803 (Or.inl rfl) ei2 g9559 (fun b9558 r9558 => ?_)
    refine qs_fyi hS hM qt_803 tq_803 r9558 (by decide) k_0 (fun S9560 M9560 hS9560 hM9560 => ?_)
    exact qs_tk ⟨_, _, _, rfl, ei1, (p_add ei2 k_1), hS9560, hM9560⟩
theorem qz_X10_movePersons_L2 (n : Nat) : ∀ {P : Nat → Nat} {S : zm_S} {M : qm} {i1 : Int32} {qi1 : Int} {i2 : Int32} {qi2 : Int} (hS : Sh L xs P S) (hM : qM P S = M) (ei1 : i1.toInt = qi1) (ei2 : i2.toInt = qi2), qs (zf_X10_movePersons_L2 20000 n 756 i1 i2 S) (qf_X10_movePersons_L2 20000 n qi1 qi2 M) (tO (vs (rr L xs P vu) (rr L xs P vu))) := by
  induction n with
  | zero =>
    intros
    exact qs_none
  | succ n ih =>
    intro P S M i1 qi1 i2 qi2 hS hM ei1 ei2
    unfold qf_X10_movePersons_L2
    refine qs_loop (C := (qc_X10_movePersons_L2 L xs P (zf_X10_movePersons_L2 20000 n))) (qz_X10_movePersons_L2_b n hS hM ei1 ei2) ?_
    rintro x s ⟨_, _, _, rfl, u0, u1, hS2, hM2⟩
    exact ih hS2 hM2 u0 u1
set_option maxRecDepth 20000 in
theorem qz_X10_urgencyOf {P : Nat → Nat} {S : zm_S} {M : qm} {i1 : Int32} {qi1 : Int} (hS : Sh L xs P S) (hM : qM P S = M) (ei1 : i1.toInt = qi1) : qs (zf_X10_urgencyOf 20000 756 i1 S) (qf_X10_urgencyOf 20000 qi1 M) (tO (rp L xs P M vi)) := by
  unfold zf_X10_urgencyOf qf_X10_urgencyOf
  refine qs_gr hS pl_756 ts_756 rfl ?_
  refine qs_zi hS pl_756 ts_756 ?_
  refine qs_bp (qz_X10_cellOf hS hM ei1) (fun v9563 S9563 w9563 h9563 hS9563 hM9563 => ?_)
  refine qs_gd (fun g9565 => ?_)
  refine qs_xi hM9563 (pa_p hS9563 pl_759 ts_759) h9563 g9565 (fun v9564 h9564 => ?_)
  refine qs_ite (c_eq h9564 k_m1) ?_ ?_
  · exact qs_tp (show vi _ _ from k_2147483647) hS9563 hM9563
  · exact qs_tp (show vi _ _ from h9564) hS9563 hM9563
set_option maxRecDepth 20000 in
theorem qz_X10_lineUp_L45_b (n : Nat) {P : Nat → Nat} {S : zm_S} {M : qm} {i1 : Int32} {qi1 : Int} {i2 : Int32} {qi2 : Int} {i3 : Int32} {qi3 : Int} {i5 : Int32} {qi5 : Int} (hS : Sh L xs P S) (hM : qM P S = M) (ei1 : i1.toInt = qi1) (ei2 : i2.toInt = qi2) (ei3 : i3.toInt = qi3) (ei5 : i5.toInt = qi5) : qs (zf_X10_lineUp_L45 20000 (n + 1) 756 i1 i2 i3 i5 S) (qf_X10_lineUp_L45_b 20000 qi1 qi2 qi3 qi5 M) (tk (vs (rr L xs P vi) (rr L xs P vi)) (qc_X10_lineUp_L45 L xs P (zf_X10_lineUp_L45 20000 n))) := by
  refine qs_eq (zf_X10_lineUp_L45.eq_2 ..) ?_
  unfold qf_X10_lineUp_L45_b
  refine qs_ite (c_le ei5 k_0) ?_ ?_
  · exact qs_tr2 (show vi _ _ from ei5) hS hM
  · refine qs_gr hS pl_756 ts_756 rfl ?_
    refine qs_gd (fun g9568 => ?_)
    refine qs_xi hM (pa_p hS pl_802 ts_802) (p_sub ei5 k_1) g9568 (fun v9567 h9567 => ?_)
    refine qs_zi hS pl_756 ts_756 ?_
    refine qs_bp (qz_X10_urgencyOf hS hM h9567) (fun v9570 S9570 w9570 h9570 hS9570 hM9570 => ?_)
    refine qs_zi hS9570 pl_756 ts_756 ?_
    refine qs_bp (qz_X10_urgencyOf hS9570 hM9570 ei3) (fun v9572 S9572 w9572 h9572 hS9572 hM9572 => ?_)
    refine qs_ite (c_le h9570 h9572) ?_ ?_
    · exact qs_tr2 (show vi _ _ from ei5) hS9572 hM9572
    · refine qs_gr hS9572 pl_756 ts_756 rfl ?_
      refine qs_gr hS9572 pl_756 ts_756 rfl ?_
      refine qs_gd (fun g9576 => ?_)
      refine qs_xi hM9572 (pa_p hS9572 pl_802 ts_802) (p_sub ei5 k_1) g9576 (fun v9575 h9575 => ?_)
      refine qs_gd (fun g9578 => ?_)
      refine qs_si hS9572 hM9572 (pa_p hS9572 pl_802 ts_802) ei5 g9578 h9575 (fun S9577 M9577 hS9577 hM9577 => ?_)
      exact qs_tk ⟨_, _, _, _, _, rfl, ei1, ei2, ei3, (p_addm ei5 k_m1), hS9577, hM9577⟩
theorem qz_X10_lineUp_L45 (n : Nat) : ∀ {P : Nat → Nat} {S : zm_S} {M : qm} {i1 : Int32} {qi1 : Int} {i2 : Int32} {qi2 : Int} {i3 : Int32} {qi3 : Int} {i5 : Int32} {qi5 : Int} (hS : Sh L xs P S) (hM : qM P S = M) (ei1 : i1.toInt = qi1) (ei2 : i2.toInt = qi2) (ei3 : i3.toInt = qi3) (ei5 : i5.toInt = qi5), qs (zf_X10_lineUp_L45 20000 n 756 i1 i2 i3 i5 S) (qf_X10_lineUp_L45 20000 n qi1 qi2 qi3 qi5 M) (tO (vs (rr L xs P vi) (rr L xs P vi))) := by
  induction n with
  | zero =>
    intros
    exact qs_none
  | succ n ih =>
    intro P S M i1 qi1 i2 qi2 i3 qi3 i5 qi5 hS hM ei1 ei2 ei3 ei5
    unfold qf_X10_lineUp_L45
    refine qs_loop (C := (qc_X10_lineUp_L45 L xs P (zf_X10_lineUp_L45 20000 n))) (qz_X10_lineUp_L45_b n hS hM ei1 ei2 ei3 ei5) ?_
    rintro x s ⟨_, _, _, _, _, rfl, u0, u1, u2, u3, hS2, hM2⟩
    exact ih hS2 hM2 u0 u1 u2 u3
set_option maxRecDepth 20000 in
theorem qz_X10_lineUp_J93 {P : Nat → Nat} {S : zm_S} {M : qm} {i1 : Int32} {qi1 : Int} {i2 : Int32} {qi2 : Int} {i3 : Int32} {qi3 : Int} {i5 : Int32} {qi5 : Int} (hS : Sh L xs P S) (hM : qM P S = M) (ei1 : i1.toInt = qi1) (ei2 : i2.toInt = qi2) (ei3 : i3.toInt = qi3) (ei5 : i5.toInt = qi5) {k : Nat → Int32 → Int32 → Int32 → zm_S → Option ((Int32 × zm_S) ⊕ ((Int32) × zm_S))} : qs (zf_X10_lineUp_J93 20000 k 756 i1 i2 i3 i5 S) (qf_X10_lineUp_J93 20000 qi1 qi2 qi3 qi5 M) (tk (vs (rr L xs P vi) (rr L xs P vi)) (qc_X10_lineUp_L4 L xs P k)) := by
  unfold zf_X10_lineUp_J93 qf_X10_lineUp_J93
  refine qs_gr hS pl_756 ts_756 rfl ?_
  refine qs_gd (fun g9581 => ?_)
  refine qs_si hS hM (pa_p hS pl_802 ts_802) ei5 g9581 ei3 (fun S9580 M9580 hS9580 hM9580 => ?_)
  exact qs_tk ⟨_, _, _, _, rfl, ei1, (p_add ei2 k_1), (p_add ei3 k_1), hS9580, hM9580⟩
set_option maxRecDepth 20000 in
theorem qz_X10_lineUp_L4_b (n : Nat) {P : Nat → Nat} {S : zm_S} {M : qm} {i1 : Int32} {qi1 : Int} {i2 : Int32} {qi2 : Int} {i3 : Int32} {qi3 : Int} (hS : Sh L xs P S) (hM : qM P S = M) (ei1 : i1.toInt = qi1) (ei2 : i2.toInt = qi2) (ei3 : i3.toInt = qi3) : qs (zf_X10_lineUp_L4 20000 (n + 1) 756 i1 i2 i3 S) (qf_X10_lineUp_L4_b 20000 qi1 qi2 qi3 M) (tk (vs (rr L xs P vi) (rr L xs P vi)) (qc_X10_lineUp_L4 L xs P (zf_X10_lineUp_L4 20000 n))) := by
  refine qs_eq (zf_X10_lineUp_L4.eq_2 ..) ?_
  unfold qf_X10_lineUp_L4_b
  refine qs_gi hS hM pl_756 ts_756 (z := 7) rfl rfl (fun v9582 h9582 => ?_)
  refine qs_ite (c_le h9582 ei3) ?_ ?_
  · exact qs_tr2 (show vi _ _ from ei2) hS hM
  · refine qs_gr hS pl_756 ts_756 rfl ?_
    refine qs_gd (fun g9585 => ?_)
    refine qs_xt hS pl_761 ts_761 (Or.inl rfl) ei3 g9585 (fun b9584 r9584 => ?_)
    refine qs_zi hS pl_756 ts_756 ?_
    refine qs_bp (qz_X10_isFreeInside hS hM ei3) (fun v9587 S9587 w9587 h9587 hS9587 hM9587 => ?_)
    refine qs_ite (c_eq h9587 k_0) ?_ ?_
    · exact qs_tk ⟨_, _, _, _, rfl, ei1, ei2, (p_add ei3 k_1), hS9587, hM9587⟩
    · refine qs_yi (j := 5) hS9587 hM9587 qt_761 tq_761 r9584 k_5 (by decide) (fun v9588 h9588 => ?_)
      refine qs_yi (j := 7) hS9587 hM9587 qt_761 tq_761 r9584 k_7 (by decide) (fun v9589 h9589 => ?_)
      refine qs_ite (c_lt (p_sub ei1 h9588) h9589) ?_ ?_
      · exact qs_tk ⟨_, _, _, _, rfl, ei1, ei2, (p_add ei3 k_1), hS9587, hM9587⟩
      · refine qs_lr (qz_X10_lineUp_L45 20000 hS9587 hM9587 ei1 ei2 ei3 ei2) ?_ ?_
        · intro v9591 S9591 w9591 M9591 h9591 hS9591 hM9591
          dsimp only
          exact qs_tr1 h9591 hS9591 hM9591
        · intro v9591 S9591 w9591 M9591 h9591 hS9591 hM9591
          dsimp only
          exact (qz_X10_lineUp_J93 hS9591 hM9591 ei1 ei2 ei3 h9591)
theorem qz_X10_lineUp_L4 (n : Nat) : ∀ {P : Nat → Nat} {S : zm_S} {M : qm} {i1 : Int32} {qi1 : Int} {i2 : Int32} {qi2 : Int} {i3 : Int32} {qi3 : Int} (hS : Sh L xs P S) (hM : qM P S = M) (ei1 : i1.toInt = qi1) (ei2 : i2.toInt = qi2) (ei3 : i3.toInt = qi3), qs (zf_X10_lineUp_L4 20000 n 756 i1 i2 i3 S) (qf_X10_lineUp_L4 20000 n qi1 qi2 qi3 M) (tO (vs (rr L xs P vi) (rr L xs P vi))) := by
  induction n with
  | zero =>
    intros
    exact qs_none
  | succ n ih =>
    intro P S M i1 qi1 i2 qi2 i3 qi3 hS hM ei1 ei2 ei3
    unfold qf_X10_lineUp_L4
    refine qs_loop (C := (qc_X10_lineUp_L4 L xs P (zf_X10_lineUp_L4 20000 n))) (qz_X10_lineUp_L4_b n hS hM ei1 ei2 ei3) ?_
    rintro x s ⟨_, _, _, _, rfl, u0, u1, u2, hS2, hM2⟩
    exact ih hS2 hM2 u0 u1 u2
set_option maxRecDepth 20000 in
theorem qz_X10_lineUp {P : Nat → Nat} {S : zm_S} {M : qm} {i1 : Int32} {qi1 : Int} (hS : Sh L xs P S) (hM : qM P S = M) (ei1 : i1.toInt = qi1) : qs (zf_X10_lineUp 20000 756 i1 S) (qf_X10_lineUp 20000 qi1 M) (tO (rr L xs P vi)) := by
  unfold zf_X10_lineUp qf_X10_lineUp
  refine qs_lr (qz_X10_lineUp_L4 20000 hS hM ei1 k_0 k_0) ?_ ?_
  · intro v9593 S9593 w9593 M9593 h9593 hS9593 hM9593
    dsimp only
    exact qs_tr h9593 hS9593 hM9593
  · intro v9593 S9593 w9593 M9593 h9593 hS9593 hM9593
    dsimp only
    exact qs_tr (show vi _ _ from h9593) hS9593 hM9593
set_option maxRecDepth 20000 in
theorem qz_X10_isBetter_J34 {P : Nat → Nat} {S : zm_S} {M : qm} {i3 : Int32} {qi3 : Int} {i4 : Int32} {qi4 : Int} (hS : Sh L xs P S) (hM : qM P S = M) (ei3 : i3.toInt = qi3) (ei4 : i4.toInt = qi4) : qs (zf_X10_isBetter_J34 20000 756 i3 i4 S) (qf_X10_isBetter_J34 20000 qi3 qi4 M) (tO (rp L xs P M vi)) := by
  unfold zf_X10_isBetter_J34 qf_X10_isBetter_J34
  refine qs_zi hS pl_756 ts_756 ?_
  refine qs_bp (qz_X10_isInSpace hS hM ei3) (fun v9595 S9595 w9595 h9595 hS9595 hM9595 => ?_)
  refine qs_ite (c_eq h9595 k_0) ?_ ?_
  · refine qs_ite (c_eq ei4 k_1) ?_ ?_
    · exact qs_tp (show vi _ _ from k_1) hS9595 hM9595
    · exact qs_tp (show vi _ _ from k_0) hS9595 hM9595
  · refine qs_gr hS9595 pl_756 ts_756 rfl ?_
    refine qs_gd (fun g9598 => ?_)
    refine qs_xi hM9595 (pa_p hS9595 pl_759 ts_759) ei3 g9598 (fun v9597 h9597 => ?_)
    refine qs_ite (c_eq h9597 k_m1) ?_ ?_
    · exact qs_tp (show vi _ _ from k_0) hS9595 hM9595
    · refine qs_gr hS9595 pl_756 ts_756 rfl ?_
      refine qs_gd (fun g9601 => ?_)
      refine qs_xi hM9595 (pa_p hS9595 pl_759 ts_759) ei3 g9601 (fun v9600 h9600 => ?_)
      refine qs_ite (c_le ei4 h9600) ?_ ?_
      · exact qs_tp (show vi _ _ from k_0) hS9595 hM9595
      · exact qs_tp (show vi _ _ from k_1) hS9595 hM9595
set_option maxRecDepth 20000 in
theorem qz_X10_isBetter {P : Nat → Nat} {S : zm_S} {M : qm} {i1 : Int32} {qi1 : Int} {i2 : Int32} {qi2 : Int} (hS : Sh L xs P S) (hM : qM P S = M) (ei1 : i1.toInt = qi1) (ei2 : i2.toInt = qi2) : qs (zf_X10_isBetter 20000 756 i1 i2 S) (qf_X10_isBetter 20000 qi1 qi2 M) (tO (rp L xs P M vi)) := by
  unfold zf_X10_isBetter qf_X10_isBetter
  refine qs_gr hS pl_756 ts_756 rfl ?_
  refine qs_zi hS pl_51 ts_51 ?_
  refine qs_bp (qz_X2_cellBeside hS hM ei1 ei2) (fun v9604 S9604 w9604 h9604 hS9604 hM9604 => ?_)
  refine qs_gr hS9604 pl_756 ts_756 rfl ?_
  refine qs_gd (fun g9607 => ?_)
  refine qs_xi hM9604 (pa_p hS9604 pl_759 ts_759) ei1 g9607 (fun v9606 h9606 => ?_)
  refine qs_ite (c_eq h9604 k_m1) ?_ ?_
  · exact (qz_X10_isBetter_J34 hS9604 hM9604 h9604 h9606)
  · refine qs_gr hS9604 pl_756 ts_756 rfl ?_
    refine qs_gd (fun g9610 => ?_)
    refine qs_xi hM9604 (pa_p hS9604 pl_757 ts_757) h9604 g9610 (fun v9609 h9609 => ?_)
    refine qs_ite (c_eq h9609 k_0) ?_ ?_
    · exact (qz_X10_isBetter_J34 hS9604 hM9604 h9604 h9606)
    · exact qs_tp (show vi _ _ from k_0) hS9604 hM9604
set_option maxRecDepth 20000 in
theorem qz_X8_rateOf {P : Nat → Nat} {S : zm_S} {M : qm} {i1 : Int32} {qi1 : Int} {i2 : Int32} {qi2 : Int} (hS : Sh L xs P S) (hM : qM P S = M) (ei1 : i1.toInt = qi1) (ei2 : i2.toInt = qi2) : qs (zf_X8_rateOf 20000 7 i1 i2 S) (qf_X8_rateOf 20000 qi1 qi2 M) (tO (rp L xs P M vi)) := by
  unfold zf_X8_rateOf qf_X8_rateOf
  refine qs_gr hS pl_7 ts_7 rfl ?_
  refine qs_gd (fun g9613 => ?_)
  refine qs_xt hS pl_30 ts_30 (Or.inl rfl) ei1 g9613 (fun b9612 r9612 => ?_)
  refine qs_gd (fun g9615 => ?_)
  refine qs_yi hS hM qt_30 tq_30 r9612 (p_add (p_mul k_3 ei2) k_2) g9615 (fun v9614 h9614 => ?_)
  exact qs_tp (show vi _ _ from h9614) hS hM
set_option maxRecDepth 20000 in
theorem qz_X10_goesThrough_L32_b (n : Nat) {P : Nat → Nat} {S : zm_S} {M : qm} {i3 : Int32} {qi3 : Int} {i4 : Int32} {qi4 : Int} {i5 : Int32} {qi5 : Int} (hS : Sh L xs P S) (hM : qM P S = M) (ei3 : i3.toInt = qi3) (ei4 : i4.toInt = qi4) (ei5 : i5.toInt = qi5) : qs (zf_X10_goesThrough_L32 20000 (n + 1) 756 i3 i4 i5 S) (qf_X10_goesThrough_L32_b 20000 qi3 qi4 qi5 M) (tk (vs (rr L xs P vi) (rr L xs P vu)) (qc_X10_goesThrough_L32 L xs P (zf_X10_goesThrough_L32 20000 n))) := by
  refine qs_eq (zf_X10_goesThrough_L32.eq_2 ..) ?_
  unfold qf_X10_goesThrough_L32_b
  refine qs_gr hS pl_756 ts_756 rfl ?_
  refine qs_gr hS pl_7 ts_7 rfl ?_
  refine qs_gd (fun g9619 => ?_)
  refine qs_xi hM (pa_p hS pl_29 ts_29) ei3 g9619 (fun v9618 h9618 => ?_)
  refine qs_ite (c_le h9618 ei5) ?_ ?_
  · exact qs_tr2 (show vu _ _ from trivial) hS hM
  · refine qs_gr hS pl_756 ts_756 rfl ?_
    refine qs_zi hS pl_7 ts_7 ?_
    refine qs_bp (qz_X8_isDoorAt hS hM ei3 ei5 ei4) (fun v9622 S9622 w9622 h9622 hS9622 hM9622 => ?_)
    refine qs_ite (c_eq h9622 k_0) ?_ ?_
    · exact qs_tk ⟨_, _, _, _, rfl, ei3, ei4, (p_add ei5 k_1), hS9622, hM9622⟩
    · refine qs_gr hS9622 pl_756 ts_756 rfl ?_
      refine qs_gd (fun g9625 => ?_)
      refine qs_xt hS9622 pl_803 ts_803 (Or.inl rfl) ei3 g9625 (fun b9624 r9624 => ?_)
      refine qs_gd (fun g9627 => ?_)
      refine qs_yi hS9622 hM9622 qt_803 tq_803 r9624 ei5 g9627 (fun v9626 h9626 => ?_)
      refine qs_gr hS9622 pl_756 ts_756 rfl ?_
      refine qs_zi hS9622 pl_7 ts_7 ?_
      refine qs_bp (qz_X8_rateOf hS9622 hM9622 ei3 ei5) (fun v9630 S9630 w9630 h9630 hS9630 hM9630 => ?_)
      refine qs_ite (c_le h9630 h9626) ?_ ?_
      · exact qs_tk ⟨_, _, _, _, rfl, ei3, ei4, (p_add ei5 k_1), hS9630, hM9630⟩
      · refine qs_gr hS9630 pl_756 ts_756 rfl ?_
        refine qs_gd (fun g9633 => ?_)
        refine qs_xt hS9630 pl_803 ts_803 (Or.inl rfl) ei3 g9633 (fun b9632 r9632 => ?_)
        refine qs_gd (fun g9635 => ?_)
        refine qs_yi hS9630 hM9630 qt_803 tq_803 r9632 ei5 g9635 (fun v9634 h9634 => ?_)
        refine qs_gd (fun g9637 => ?_)
        refine qs_ysi hS9630 hM9630 qt_803 tq_803 r9632 ei5 g9637 (p_add h9634 k_1) (fun S9636 M9636 hS9636 hM9636 => ?_)
        exact qs_tr1 (show vi _ _ from k_1) hS9636 hM9636
theorem qz_X10_goesThrough_L32 (n : Nat) : ∀ {P : Nat → Nat} {S : zm_S} {M : qm} {i3 : Int32} {qi3 : Int} {i4 : Int32} {qi4 : Int} {i5 : Int32} {qi5 : Int} (hS : Sh L xs P S) (hM : qM P S = M) (ei3 : i3.toInt = qi3) (ei4 : i4.toInt = qi4) (ei5 : i5.toInt = qi5), qs (zf_X10_goesThrough_L32 20000 n 756 i3 i4 i5 S) (qf_X10_goesThrough_L32 20000 n qi3 qi4 qi5 M) (tO (vs (rr L xs P vi) (rr L xs P vu))) := by
  induction n with
  | zero =>
    intros
    exact qs_none
  | succ n ih =>
    intro P S M i3 qi3 i4 qi4 i5 qi5 hS hM ei3 ei4 ei5
    unfold qf_X10_goesThrough_L32
    refine qs_loop (C := (qc_X10_goesThrough_L32 L xs P (zf_X10_goesThrough_L32 20000 n))) (qz_X10_goesThrough_L32_b n hS hM ei3 ei4 ei5) ?_
    rintro x s ⟨_, _, _, _, rfl, u0, u1, u2, hS2, hM2⟩
    exact ih hS2 hM2 u0 u1 u2
set_option maxRecDepth 20000 in
theorem qz_X10_goesThrough {P : Nat → Nat} {S : zm_S} {M : qm} {i1 : Int32} {qi1 : Int} {i2 : Int32} {qi2 : Int} (hS : Sh L xs P S) (hM : qM P S = M) (ei1 : i1.toInt = qi1) (ei2 : i2.toInt = qi2) : qs (zf_X10_goesThrough 20000 756 i1 i2 S) (qf_X10_goesThrough 20000 qi1 qi2 M) (tO (rr L xs P vi)) := by
  unfold zf_X10_goesThrough qf_X10_goesThrough
  refine qs_gr hS pl_756 ts_756 rfl ?_
  refine qs_zi hS pl_51 ts_51 ?_
  refine qs_bp (qz_X2_wallBeside hS hM ei1 ei2) (fun v9640 S9640 w9640 h9640 hS9640 hM9640 => ?_)
  refine qs_ite (c_eq h9640 k_m1) ?_ ?_
  · exact qs_tr (show vi _ _ from k_1) hS9640 hM9640
  · refine qs_gr hS9640 pl_756 ts_756 rfl ?_
    refine qs_zi hS9640 pl_51 ts_51 ?_
    refine qs_bp (qz_X2_distanceBeside hS9640 hM9640 ei1 ei2 h9640) (fun v9643 S9643 w9643 h9643 hS9643 hM9643 => ?_)
    refine qs_lr (qz_X10_goesThrough_L32 20000 hS9643 hM9643 h9640 h9643 k_0) ?_ ?_
    · intro v9645 S9645 w9645 M9645 h9645 hS9645 hM9645
      dsimp only
      exact qs_tr h9645 hS9645 hM9645
    · intro v9645 S9645 w9645 M9645 h9645 hS9645 hM9645
      dsimp only
      exact qs_tr (show vi _ _ from k_0) hS9645 hM9645
set_option maxRecDepth 20000 in
theorem qz_X10_step {P : Nat → Nat} {S : zm_S} {M : qm} {i1 : Int32} {qi1 : Int} {i2 : Int32} {qi2 : Int} {i3 : Int32} {qi3 : Int} (hS : Sh L xs P S) (hM : qM P S = M) (ei1 : i1.toInt = qi1) (ei2 : i2.toInt = qi2) (ei3 : i3.toInt = qi3) : qs (zf_X10_step 20000 756 i1 i2 i3 S) (qf_X10_step 20000 qi1 qi2 qi3 M) (tO (rr L xs P vu)) := by
  unfold zf_X10_step qf_X10_step
  refine qs_gr hS pl_756 ts_756 rfl ?_
  refine qs_gd (fun g9648 => ?_)
  refine qs_xt hS pl_761 ts_761 (Or.inl rfl) ei1 g9648 (fun b9647 r9647 => ?_)
  refine qs_yi (j := 4) hS hM qt_761 tq_761 r9647 k_4 (by decide) (fun v9649 h9649 => ?_)
  refine qs_ysi hS hM qt_761 tq_761 r9647 k_4 (by decide) (p_add h9649 k_1) (fun S9650 M9650 hS9650 hM9650 => ?_)
  refine qs_zi hS9650 pl_756 ts_756 ?_
  refine qs_bp (qz_X10_isInSpace hS9650 hM9650 ei2) (fun v9652 S9652 w9652 h9652 hS9652 hM9652 => ?_)
  refine qs_ite (c_eq h9652 k_0) ?_ ?_
  · refine qs_zi hS9652 pl_756 ts_756 ?_
    refine qs_bp (qz_X10_outside hS9652 hM9652 ) (fun v9654 S9654 w9654 h9654 hS9654 hM9654 => ?_)
    refine qs_zi hS9654 pl_756 ts_756 ?_
    refine qs_b (qz_X10_putInto hS9654 hM9654 ei1 h9654 k_m1 k_m1 ei3) (fun v9656 S9656 w9656 M9656 h9656 hS9656 hM9656 => ?_)
    exact qs_tr (show vu _ _ from trivial) hS9656 hM9656
  · refine qs_gr hS9652 pl_756 ts_756 rfl ?_
    refine qs_gr hS9652 pl_51 ts_51 rfl ?_
    refine qs_gd (fun g9660 => ?_)
    refine qs_xi hM9652 (pa_s hS9652 (d := 56) rfl (by decide) (by decide) sf_56) ei2 g9660 (fun v9659 h9659 => ?_)
    refine qs_zi hS9652 pl_756 ts_756 ?_
    refine qs_b (qz_X10_putInto hS9652 hM9652 ei1 h9659 (p_div ei2 k_24 (by decide)) (p_mod ei2 k_24) ei3) (fun v9662 S9662 w9662 M9662 h9662 hS9662 hM9662 => ?_)
    exact qs_tr (show vu _ _ from trivial) hS9662 hM9662
set_option maxRecDepth 20000 in
theorem qz_X10_moveOne_L9_b (n : Nat) {P : Nat → Nat} {S : zm_S} {M : qm} {i1 : Int32} {qi1 : Int} {i2 : Int32} {qi2 : Int} {i3 : Int32} {qi3 : Int} {i4 : Int32} {qi4 : Int} (hS : Sh L xs P S) (hM : qM P S = M) (ei1 : i1.toInt = qi1) (ei2 : i2.toInt = qi2) (ei3 : i3.toInt = qi3) (ei4 : i4.toInt = qi4) : qs (zf_X10_moveOne_L9 20000 (n + 1) 756 i1 i2 i3 i4 S) (qf_X10_moveOne_L9_b 20000 qi1 qi2 qi3 qi4 M) (tk (vs (rr L xs P vu) (rr L xs P vu)) (qc_X10_moveOne_L9 L xs P (zf_X10_moveOne_L9 20000 n))) := by
  refine qs_eq (zf_X10_moveOne_L9.eq_2 ..) ?_
  unfold qf_X10_moveOne_L9_b
  refine qs_ite (c_le k_4 ei4) ?_ ?_
  · exact qs_tr2 (show vu _ _ from trivial) hS hM
  · refine qs_zi hS pl_756 ts_756 ?_
    refine qs_bp (qz_X10_isBetter hS hM ei3 ei4) (fun v9664 S9664 w9664 h9664 hS9664 hM9664 => ?_)
    refine qs_ite (c_eq h9664 k_0) ?_ ?_
    · exact qs_tk ⟨_, _, _, _, _, rfl, ei1, ei2, ei3, (p_add ei4 k_1), hS9664, hM9664⟩
    · refine qs_zi hS9664 pl_756 ts_756 ?_
      refine qs_b (qz_X10_goesThrough hS9664 hM9664 ei3 ei4) (fun v9666 S9666 w9666 M9666 h9666 hS9666 hM9666 => ?_)
      refine qs_ite (c_eq h9666 k_0) ?_ ?_
      · exact qs_tk ⟨_, _, _, _, _, rfl, ei1, ei2, ei3, (p_add ei4 k_1), hS9666, hM9666⟩
      · refine qs_gr hS9666 pl_756 ts_756 rfl ?_
        refine qs_zi hS9666 pl_51 ts_51 ?_
        refine qs_bp (qz_X2_cellBeside hS9666 hM9666 ei3 ei4) (fun v9669 S9669 w9669 h9669 hS9669 hM9669 => ?_)
        refine qs_zi hS9669 pl_756 ts_756 ?_
        refine qs_b (qz_X10_step hS9669 hM9669 ei1 h9669 ei2) (fun v9671 S9671 w9671 M9671 h9671 hS9671 hM9671 => ?_)
        exact qs_tr1 (show vu _ _ from trivial) hS9671 hM9671
theorem qz_X10_moveOne_L9 (n : Nat) : ∀ {P : Nat → Nat} {S : zm_S} {M : qm} {i1 : Int32} {qi1 : Int} {i2 : Int32} {qi2 : Int} {i3 : Int32} {qi3 : Int} {i4 : Int32} {qi4 : Int} (hS : Sh L xs P S) (hM : qM P S = M) (ei1 : i1.toInt = qi1) (ei2 : i2.toInt = qi2) (ei3 : i3.toInt = qi3) (ei4 : i4.toInt = qi4), qs (zf_X10_moveOne_L9 20000 n 756 i1 i2 i3 i4 S) (qf_X10_moveOne_L9 20000 n qi1 qi2 qi3 qi4 M) (tO (vs (rr L xs P vu) (rr L xs P vu))) := by
  induction n with
  | zero =>
    intros
    exact qs_none
  | succ n ih =>
    intro P S M i1 qi1 i2 qi2 i3 qi3 i4 qi4 hS hM ei1 ei2 ei3 ei4
    unfold qf_X10_moveOne_L9
    refine qs_loop (C := (qc_X10_moveOne_L9 L xs P (zf_X10_moveOne_L9 20000 n))) (qz_X10_moveOne_L9_b n hS hM ei1 ei2 ei3 ei4) ?_
    rintro x s ⟨_, _, _, _, _, rfl, u0, u1, u2, u3, hS2, hM2⟩
    exact ih hS2 hM2 u0 u1 u2 u3
set_option maxRecDepth 20000 in
theorem qz_X10_moveOne {P : Nat → Nat} {S : zm_S} {M : qm} {i1 : Int32} {qi1 : Int} {i2 : Int32} {qi2 : Int} (hS : Sh L xs P S) (hM : qM P S = M) (ei1 : i1.toInt = qi1) (ei2 : i2.toInt = qi2) : qs (zf_X10_moveOne 20000 756 i1 i2 S) (qf_X10_moveOne 20000 qi1 qi2 M) (tO (rr L xs P vu)) := by
  unfold zf_X10_moveOne qf_X10_moveOne
  refine qs_zi hS pl_756 ts_756 ?_
  refine qs_bp (qz_X10_cellOf hS hM ei1) (fun v9673 S9673 w9673 h9673 hS9673 hM9673 => ?_)
  refine qs_lr (qz_X10_moveOne_L9 20000 hS9673 hM9673 ei1 ei2 h9673 k_0) ?_ ?_
  · intro v9675 S9675 w9675 M9675 h9675 hS9675 hM9675
    dsimp only
    exact qs_tr h9675 hS9675 hM9675
  · intro v9675 S9675 w9675 M9675 h9675 hS9675 hM9675
    dsimp only
    exact qs_tr (show vu _ _ from trivial) hS9675 hM9675
set_option maxRecDepth 20000 in
theorem qz_X10_movePersons_L37_b (n : Nat) {P : Nat → Nat} {S : zm_S} {M : qm} {i1 : Int32} {qi1 : Int} {i2 : Int32} {qi2 : Int} {i3 : Int32} {qi3 : Int} (hS : Sh L xs P S) (hM : qM P S = M) (ei1 : i1.toInt = qi1) (ei2 : i2.toInt = qi2) (ei3 : i3.toInt = qi3) : qs (zf_X10_movePersons_L37 20000 (n + 1) 756 i1 i2 i3 S) (qf_X10_movePersons_L37_b 20000 qi1 qi2 qi3 M) (tk (vs (rr L xs P vu) (rr L xs P vu)) (qc_X10_movePersons_L37 L xs P (zf_X10_movePersons_L37 20000 n))) := by
  refine qs_eq (zf_X10_movePersons_L37.eq_2 ..) ?_
  unfold qf_X10_movePersons_L37_b
  refine qs_ite (c_le ei2 ei3) ?_ ?_
  · exact qs_tr2 (show vu _ _ from trivial) hS hM
  · refine qs_gr hS pl_756 ts_756 rfl ?_
    refine qs_gd (fun g9678 => ?_)
    refine qs_xi hM (pa_p hS pl_802 ts_802) ei3 g9678 (fun v9677 h9677 => ?_)
    refine qs_zi hS pl_756 ts_756 ?_
    refine qs_b (qz_X10_moveOne hS hM h9677 ei1) (fun v9680 S9680 w9680 M9680 h9680 hS9680 hM9680 => ?_)
    exact qs_tk ⟨_, _, _, _, rfl, ei1, ei2, (p_add ei3 k_1), hS9680, hM9680⟩
theorem qz_X10_movePersons_L37 (n : Nat) : ∀ {P : Nat → Nat} {S : zm_S} {M : qm} {i1 : Int32} {qi1 : Int} {i2 : Int32} {qi2 : Int} {i3 : Int32} {qi3 : Int} (hS : Sh L xs P S) (hM : qM P S = M) (ei1 : i1.toInt = qi1) (ei2 : i2.toInt = qi2) (ei3 : i3.toInt = qi3), qs (zf_X10_movePersons_L37 20000 n 756 i1 i2 i3 S) (qf_X10_movePersons_L37 20000 n qi1 qi2 qi3 M) (tO (vs (rr L xs P vu) (rr L xs P vu))) := by
  induction n with
  | zero =>
    intros
    exact qs_none
  | succ n ih =>
    intro P S M i1 qi1 i2 qi2 i3 qi3 hS hM ei1 ei2 ei3
    unfold qf_X10_movePersons_L37
    refine qs_loop (C := (qc_X10_movePersons_L37 L xs P (zf_X10_movePersons_L37 20000 n))) (qz_X10_movePersons_L37_b n hS hM ei1 ei2 ei3) ?_
    rintro x s ⟨_, _, _, _, rfl, u0, u1, u2, hS2, hM2⟩
    exact ih hS2 hM2 u0 u1 u2
set_option maxRecDepth 20000 in
theorem qz_X10_movePersons {P : Nat → Nat} {S : zm_S} {M : qm} {i1 : Int32} {qi1 : Int} (hS : Sh L xs P S) (hM : qM P S = M) (ei1 : i1.toInt = qi1) : qs (zf_X10_movePersons 20000 756 i1 S) (qf_X10_movePersons 20000 qi1 M) (tO (rr L xs P vu)) := by
  unfold zf_X10_movePersons qf_X10_movePersons
  refine qs_lr (qz_X10_movePersons_L2 20000 hS hM ei1 k_0) ?_ ?_
  · intro v9682 S9682 w9682 M9682 h9682 hS9682 hM9682
    dsimp only
    exact qs_tr h9682 hS9682 hM9682
  · intro v9682 S9682 w9682 M9682 h9682 hS9682 hM9682
    dsimp only
    refine qs_zi hS9682 pl_756 ts_756 ?_
    refine qs_b (qz_X10_lineUp hS9682 hM9682 ei1) (fun v9684 S9684 w9684 M9684 h9684 hS9684 hM9684 => ?_)
    refine qs_lr (qz_X10_movePersons_L37 20000 hS9684 hM9684 ei1 h9684 k_0) ?_ ?_
    · intro v9686 S9686 w9686 M9686 h9686 hS9686 hM9686
      dsimp only
      exact qs_tr h9686 hS9686 hM9686
    · intro v9686 S9686 w9686 M9686 h9686 hS9686 hM9686
      dsimp only
      exact qs_tr (show vu _ _ from trivial) hS9686 hM9686
set_option maxRecDepth 20000 in
theorem qz_X11_passSecond_J72 {P : Nat → Nat} {S : zm_S} {M : qm}  (hS : Sh L xs P S) (hM : qM P S = M)  : qs (zf_X11_passSecond_J72 20000 6 S) (qf_X11_passSecond_J72 20000 M) (tO (rr L xs P vu)) := by
  unfold zf_X11_passSecond_J72 qf_X11_passSecond_J72
  refine qs_lr (qz_X11_passSecond_L74 20000 hS hM k_0) ?_ ?_
  · intro v9688 S9688 w9688 M9688 h9688 hS9688 hM9688
    dsimp only
    exact qs_tr h9688 hS9688 hM9688
  · intro v9688 S9688 w9688 M9688 h9688 hS9688 hM9688
    dsimp only
    refine qs_gr hS9688 pl_6 ts_6 rfl ?_
    refine qs_gi hS9688 hM9688 pl_6 ts_6 (z := 12) rfl rfl (fun v9690 h9690 => ?_)
    refine qs_zi hS9688 pl_1172 ts_1172 ?_
    refine qs_b (qz_X4_runActs hS9688 hM9688 h9690) (fun v9692 S9692 w9692 M9692 h9692 hS9692 hM9692 => ?_)
    refine qs_gr hS9692 pl_6 ts_6 rfl ?_
    refine qs_gr hS9692 pl_1003 ts_1003 rfl ?_
    refine qs_gr hS9692 pl_6 ts_6 rfl ?_
    refine qs_zi hS9692 pl_756 ts_756 ?_
    refine qs_bp (qz_X10_countFreeInside hS9692 hM9692 ) (fun v9697 S9697 w9697 h9697 hS9697 hM9697 => ?_)
    refine qs_si hS9697 hM9697 (pa_p hS9697 pl_1135 ts_1135) k_0 (by decide) h9697 (fun S9698 M9698 hS9698 hM9698 => ?_)
    refine qs_gr hS9698 pl_6 ts_6 rfl ?_
    refine qs_gr hS9698 pl_1003 ts_1003 rfl ?_
    refine qs_gr hS9698 pl_6 ts_6 rfl ?_
    refine qs_zi hS9698 pl_1172 ts_1172 ?_
    refine qs_bp (qz_X4_countDone hS9698 hM9698 ) (fun v9703 S9703 w9703 h9703 hS9703 hM9703 => ?_)
    refine qs_si hS9703 hM9703 (pa_p hS9703 pl_1135 ts_1135) k_1 (by decide) h9703 (fun S9704 M9704 hS9704 hM9704 => ?_)
    refine qs_gr hS9704 pl_6 ts_6 rfl ?_
    refine qs_gr hS9704 pl_1003 ts_1003 rfl ?_
    refine qs_gr hS9704 pl_6 ts_6 rfl ?_
    refine qs_gi hS9704 hM9704 pl_756 ts_756 (z := 4) rfl rfl (fun v9708 h9708 => ?_)
    refine qs_si hS9704 hM9704 (pa_p hS9704 pl_1135 ts_1135) k_2 (by decide) h9708 (fun S9709 M9709 hS9709 hM9709 => ?_)
    refine qs_gr hS9709 pl_6 ts_6 rfl ?_
    refine qs_gr hS9709 pl_1003 ts_1003 rfl ?_
    refine qs_gr hS9709 pl_6 ts_6 rfl ?_
    refine qs_gi hS9709 hM9709 pl_1337 ts_1337 (z := 4) rfl rfl (fun v9713 h9713 => ?_)
    refine qs_si hS9709 hM9709 (pa_p hS9709 pl_1135 ts_1135) k_3 (by decide) h9713 (fun S9714 M9714 hS9714 hM9714 => ?_)
    refine qs_gr hS9714 pl_6 ts_6 rfl ?_
    refine qs_gi hS9714 hM9714 pl_6 ts_6 (z := 12) rfl rfl (fun v9716 h9716 => ?_)
    refine qs_zi hS9714 pl_1003 ts_1003 ?_
    refine qs_b (qz_X9_reckonBlocks hS9714 hM9714 (p_mod (p_div h9716 k_60 (by decide)) k_1440)) (fun v9718 S9718 w9718 M9718 h9718 hS9718 hM9718 => ?_)
    refine qs_lr (qz_X11_passSecond_L211 20000 hS9718 hM9718 k_0) ?_ ?_
    · intro v9720 S9720 w9720 M9720 h9720 hS9720 hM9720
      dsimp only
      exact qs_tr h9720 hS9720 hM9720
    · intro v9720 S9720 w9720 M9720 h9720 hS9720 hM9720
      dsimp only
      refine qs_gr hS9720 pl_6 ts_6 rfl ?_
      refine qs_gi hS9720 hM9720 pl_6 ts_6 (z := 12) rfl rfl (fun v9722 h9722 => ?_)
      refine qs_zi hS9720 pl_756 ts_756 ?_
      refine qs_b (qz_X10_catchPersons hS9720 hM9720 h9722) (fun v9724 S9724 w9724 M9724 h9724 hS9724 hM9724 => ?_)
      refine qs_zi hS9724 pl_6 ts_6 ?_
      refine qs_bp (qz_X11_doPersonsLeave hS9724 hM9724 ) (fun v9726 S9726 w9726 h9726 hS9726 hM9726 => ?_)
      refine qs_ite (c_eq h9726 k_0) ?_ ?_
      · exact qs_tr (show vu _ _ from trivial) hS9726 hM9726
      · refine qs_gr hS9726 pl_6 ts_6 rfl ?_
        refine qs_gi hS9726 hM9726 pl_6 ts_6 (z := 12) rfl rfl (fun v9728 h9728 => ?_)
        refine qs_zi hS9726 pl_756 ts_756 ?_
        refine qs_b (qz_X10_movePersons hS9726 hM9726 h9728) (fun v9730 S9730 w9730 M9730 h9730 hS9730 hM9730 => ?_)
        exact qs_tr (show vu _ _ from trivial) hS9730 hM9730
set_option maxRecDepth 20000 in
theorem qz_X11_passSecond {P : Nat → Nat} {S : zm_S} {M : qm}  (hS : Sh L xs P S) (hM : qM P S = M)  : qs (zf_X11_passSecond 20000 6 S) (qf_X11_passSecond 20000 M) (tO (rr L xs P vu)) := by
  unfold zf_X11_passSecond qf_X11_passSecond
  refine qs_gi hS hM pl_6 ts_6 (z := 12) rfl rfl (fun v9731 h9731 => ?_)
  refine qs_pi hS hM pl_6 ts_6 (z := 12) rfl rfl (p_add h9731 k_1) (fun S9732 M9732 hS9732 hM9732 => ?_)
  refine qs_gr hS9732 pl_6 ts_6 rfl ?_
  refine qs_gi hS9732 hM9732 pl_6 ts_6 (z := 12) rfl rfl (fun v9734 h9734 => ?_)
  refine qs_zi hS9732 pl_756 ts_756 ?_
  refine qs_b (qz_X10_spreadSmoke hS9732 hM9732 h9734) (fun v9736 S9736 w9736 M9736 h9736 hS9736 hM9736 => ?_)
  refine qs_lr (qz_X11_passSecond_L23 20000 hS9736 hM9736 k_0) ?_ ?_
  · intro v9738 S9738 w9738 M9738 h9738 hS9738 hM9738
    dsimp only
    exact qs_tr h9738 hS9738 hM9738
  · intro v9738 S9738 w9738 M9738 h9738 hS9738 hM9738
    dsimp only
    exact (qz_X11_passSecond_J72 hS9738 hM9738 )
set_option maxRecDepth 20000 in
theorem qz_X11_pass_L39_b (n : Nat) {P : Nat → Nat} {S : zm_S} {M : qm} {i1 : Int32} {qi1 : Int} {i2 : Int32} {qi2 : Int} (hS : Sh L xs P S) (hM : qM P S = M) (ei1 : i1.toInt = qi1) (ei2 : i2.toInt = qi2) : qs (zf_X11_pass_L39 20000 (n + 1) 6 i1 i2 S) (qf_X11_pass_L39_b 20000 qi1 qi2 M) (tk (vs (rr L xs P (vs vi ve)) (rr L xs P vu)) (qc_X11_pass_L39 L xs P (zf_X11_pass_L39 20000 n))) := by
  refine qs_eq (zf_X11_pass_L39.eq_2 ..) ?_
  unfold qf_X11_pass_L39_b
  refine qs_ite (c_le ei1 ei2) ?_ ?_
  · exact qs_tr2 (show vu _ _ from trivial) hS hM
  · refine qs_zi hS pl_6 ts_6 ?_
    refine qs_b (qz_X11_passSecond hS hM ) (fun v9740 S9740 w9740 M9740 h9740 hS9740 hM9740 => ?_)
    exact qs_tk ⟨_, _, _, rfl, ei1, (p_add ei2 k_1), hS9740, hM9740⟩
theorem qz_X11_pass_L39 (n : Nat) : ∀ {P : Nat → Nat} {S : zm_S} {M : qm} {i1 : Int32} {qi1 : Int} {i2 : Int32} {qi2 : Int} (hS : Sh L xs P S) (hM : qM P S = M) (ei1 : i1.toInt = qi1) (ei2 : i2.toInt = qi2), qs (zf_X11_pass_L39 20000 n 6 i1 i2 S) (qf_X11_pass_L39 20000 n qi1 qi2 M) (tO (vs (rr L xs P (vs vi ve)) (rr L xs P vu))) := by
  induction n with
  | zero =>
    intros
    exact qs_none
  | succ n ih =>
    intro P S M i1 qi1 i2 qi2 hS hM ei1 ei2
    unfold qf_X11_pass_L39
    refine qs_loop (C := (qc_X11_pass_L39 L xs P (zf_X11_pass_L39 20000 n))) (qz_X11_pass_L39_b n hS hM ei1 ei2) ?_
    rintro x s ⟨_, _, _, rfl, u0, u1, hS2, hM2⟩
    exact ih hS2 hM2 u0 u1
set_option maxRecDepth 20000 in
theorem qz_X11_pass_J34 {P : Nat → Nat} {S : zm_S} {M : qm} {i1 : Int32} {qi1 : Int} {t0 : Int32} {qt0 : Int} (hS : Sh L xs P S) (hM : qM P S = M) (ei1 : i1.toInt = qi1) (et0 : t0.toInt = qt0) : qs (zf_X11_pass_J34 20000 6 i1 t0 S) (qf_X11_pass_J34 20000 qi1 qt0 M) (tO (rr L xs P (vs vi ve))) := by
  unfold zf_X11_pass_J34 qf_X11_pass_J34
  refine qs_xp (qz_X11_needState hS hM et0) ?_ ?_
  · intro v9742 S9742 w9742 h9742 hS9742 hM9742
    dsimp only
    refine qs_lr (qz_X11_pass_L39 20000 hS9742 hM9742 ei1 k_0) ?_ ?_
    · intro v9744 S9744 w9744 M9744 h9744 hS9744 hM9744
      dsimp only
      exact qs_tr h9744 hS9744 hM9744
    · intro v9744 S9744 w9744 M9744 h9744 hS9744 hM9744
      dsimp only
      refine qs_gi hS9744 hM9744 pl_6 ts_6 (z := 12) rfl rfl (fun v9745 h9745 => ?_)
      exact qs_tr (show (vs vi ve) _ _ from h9745) hS9744 hM9744
  · intro v9742 S9742 hS9742 hM9742
    dsimp only
    exact qs_tr (show (vs vi ve) _ _ from rfl) hS9742 hM9742
set_option maxRecDepth 20000 in
theorem qz_X11_pass_J33 {P : Nat → Nat} {S : zm_S} {M : qm} {i1 : Int32} {qi1 : Int} (hS : Sh L xs P S) (hM : qM P S = M) (ei1 : i1.toInt = qi1) : qs (zf_X11_pass_J33 20000 6 i1 S) (qf_X11_pass_J33 20000 qi1 M) (tO (rr L xs P (vs vi ve))) := by
  unfold zf_X11_pass_J33 qf_X11_pass_J33
  exact (qz_X11_pass_J34 hS hM ei1 k_0)
set_option maxRecDepth 20000 in
theorem qz_X11_pass {P : Nat → Nat} {S : zm_S} {M : qm} {i1 : Int32} {qi1 : Int} (hS : Sh L xs P S) (hM : qM P S = M) (ei1 : i1.toInt = qi1) : qs (zf_X11_pass 20000 6 i1 S) (qf_X11_pass 20000 qi1 M) (tO (rr L xs P (vs vi ve))) := by
  unfold zf_X11_pass qf_X11_pass
  refine qs_bp (qz_X11_isWithin hS hM ei1 k_1 k_60) (fun v9746 S9746 w9746 h9746 hS9746 hM9746 => ?_)
  refine qs_xp (qz_X11_needArgument hS9746 hM9746 h9746) ?_ ?_
  · intro v9748 S9748 w9748 h9748 hS9748 hM9748
    dsimp only
    refine qs_gi hS9748 hM9748 pl_6 ts_6 (z := 11) rfl rfl (fun v9749 h9749 => ?_)
    refine qs_ite (c_eq h9749 k_0) ?_ ?_
    · exact (qz_X11_pass_J33 hS9748 hM9748 ei1)
    · refine qs_gi hS9748 hM9748 pl_6 ts_6 (z := 12) rfl rfl (fun v9750 h9750 => ?_)
      refine qs_ite (c_lt k_6000 (p_add h9750 ei1)) ?_ ?_
      · exact (qz_X11_pass_J33 hS9748 hM9748 ei1)
      · exact (qz_X11_pass_J34 hS9748 hM9748 ei1 k_1)
  · intro v9748 S9748 hS9748 hM9748
    dsimp only
    exact qs_tr (show (vs vi ve) _ _ from rfl) hS9748 hM9748
set_option maxRecDepth 20000 in
theorem qz_L_pass {P : Nat → Nat} {S : zm_S} {M : qm} {i1 : Int32} {qi1 : Int} (hS : Sh L xs P S) (hM : qM P S = M) (ei1 : i1.toInt = qi1) : qs (zf_L_pass 20000 6 i1 2332 S) (qf_L_pass 20000 qi1 M) (tO (rr L xs P vi)) := by
  unfold zf_L_pass qf_L_pass
  refine qs_zi hS pl_6 ts_6 ?_
  refine qs_xr (qz_X11_pass hS hM ei1) ?_ ?_
  · intro v9753 S9753 w9753 M9753 h9753 hS9753 hM9753
    dsimp only
    refine qs_sl hS9753 hM9753 (pa_p hS9753 pl_2332 ts_2332) k_0 (by decide) (p_64 h9753) (fun S9754 M9754 hS9754 hM9754 => ?_)
    exact qs_tr (show vi _ _ from k_0) hS9754 hM9754
  · intro v9753 S9753 M9753 hS9753 hM9753
    dsimp only
    refine qs_ite Iff.rfl ?_ ?_
    · exact qs_tr (show vi _ _ from k_1) hS9753 hM9753
    · refine qs_ite Iff.rfl ?_ ?_
      · exact qs_tr (show vi _ _ from k_2) hS9753 hM9753
      · exact qs_none
set_option maxRecDepth 20000 in
theorem qz_X18_spread_J105 {P : Nat → Nat} {S : zm_S} {M : qm} {i1 : Int32} {qi1 : Int} {i2 : Int32} {qi2 : Int} {t1 : Int32} {qt1 : Int} (hS : Sh L xs P S) (hM : qM P S = M) (ei1 : i1.toInt = qi1) (ei2 : i2.toInt = qi2) (et1 : t1.toInt = qt1) {k : Nat → Int32 → Int32 → zm_S → Option ((Unit × zm_S) ⊕ ((Unit) × zm_S))} : qs (zf_X18_spread_J105 20000 k 2156 i1 i2 2327 t1 S) (qf_X18_spread_J105 20000 qi1 qi2 qt1 M) (tk (vs (rr L xs P vu) (rr L xs P vu)) (qc_X18_spread_L23 L xs P k)) := by
  unfold zf_X18_spread_J105 qf_X18_spread_J105
  refine qs_gd (fun g9756 => ?_)
  refine qs_sz hS hM (pa_p hS pl_2327 ts_2327) et1 g9756 k_0 (by decide) (fun S9755 M9755 hS9755 hM9755 => ?_)
  exact qs_tk ⟨_, _, _, rfl, ei1, (p_add ei2 k_1), hS9755, hM9755⟩
set_option maxRecDepth 20000 in
theorem qz_X18_spread_J101 {P : Nat → Nat} {S : zm_S} {M : qm} {i1 : Int32} {qi1 : Int} {i2 : Int32} {qi2 : Int} {t1 : Int32} {qt1 : Int} (hS : Sh L xs P S) (hM : qM P S = M) (ei1 : i1.toInt = qi1) (ei2 : i2.toInt = qi2) (et1 : t1.toInt = qt1) {k : Nat → Int32 → Int32 → zm_S → Option ((Unit × zm_S) ⊕ ((Unit) × zm_S))} : qs (zf_X18_spread_J101 20000 k 2156 i1 i2 2327 t1 S) (qf_X18_spread_J101 20000 qi1 qi2 qt1 M) (tk (vs (rr L xs P vu) (rr L xs P vu)) (qc_X18_spread_L23 L xs P k)) := by
  unfold zf_X18_spread_J101 qf_X18_spread_J101
  refine qs_gd (fun g9758 => ?_)
  refine qs_sz hS hM (pa_p hS pl_2327 ts_2327) et1 g9758 k_1 (by decide) (fun S9757 M9757 hS9757 hM9757 => ?_)
  exact qs_tk ⟨_, _, _, rfl, ei1, (p_add ei2 k_1), hS9757, hM9757⟩
set_option maxRecDepth 20000 in
theorem qz_X18_spread_L23_b (n : Nat) {P : Nat → Nat} {S : zm_S} {M : qm} {i1 : Int32} {qi1 : Int} {i2 : Int32} {qi2 : Int} (hS : Sh L xs P S) (hM : qM P S = M) (ei1 : i1.toInt = qi1) (ei2 : i2.toInt = qi2) : qs (zf_X18_spread_L23 20000 (n + 1) 2156 i1 i2 S) (qf_X18_spread_L23_b 20000 qi1 qi2 M) (tk (vs (rr L xs P vu) (rr L xs P vu)) (qc_X18_spread_L23 L xs P (zf_X18_spread_L23 20000 n))) := by
  refine qs_eq (zf_X18_spread_L23.eq_2 ..) ?_
  unfold qf_X18_spread_L23_b
  refine qs_ite (c_le k_4 ei2) ?_ ?_
  · exact qs_tr2 (show vu _ _ from trivial) hS hM
  · refine qs_bp (qz_X18_nextX hS hM (p_mod ei1 k_24) ei2) (fun v9759 S9759 w9759 h9759 hS9759 hM9759 => ?_)
    refine qs_bp (qz_X18_nextY hS9759 hM9759 (p_div ei1 k_24 (by decide)) ei2) (fun v9760 S9760 w9760 h9760 hS9760 hM9760 => ?_)
    refine qs_gr hS9760 pl_2156 ts_2156 rfl ?_
    refine qs_gr hS9760 pl_2156 ts_2156 rfl ?_
    refine qs_gd (fun g9764 => ?_)
    refine qs_xi hM9760 (pa_p hS9760 pl_2327 ts_2327) ei1 g9764 (fun v9763 h9763 => ?_)
    refine qs_ite (c_eq h9763 k_0) ?_ ?_
    · refine qs_bp (qz_X18_isCell hS9760 hM9760 h9759 h9760) (fun v9765 S9765 w9765 h9765 hS9765 hM9765 => ?_)
      refine qs_ite (c_eq h9765 k_0) ?_ ?_
      · exact (qz_X18_spread_J105 hS9765 hM9765 ei1 ei2 ei1)
      · refine qs_gr hS9765 pl_2156 ts_2156 rfl ?_
        refine qs_gd (fun g9768 => ?_)
        refine qs_xi hM9765 (pa_p hS9765 pl_2326 ts_2326) (p_add (p_mul k_24 h9760) h9759) g9768 (fun v9767 h9767 => ?_)
        refine qs_ite (c_eq h9767 k_0) ?_ ?_
        · exact (qz_X18_spread_J105 hS9765 hM9765 ei1 ei2 ei1)
        · refine qs_zi hS9765 pl_2156 ts_2156 ?_
          refine qs_bp (qz_X18_passes hS9765 hM9765 (p_mod ei1 k_24) (p_div ei1 k_24 (by decide)) ei2) (fun v9770 S9770 w9770 h9770 hS9770 hM9770 => ?_)
          refine qs_ite (c_eq h9770 k_0) ?_ ?_
          · exact (qz_X18_spread_J105 hS9770 hM9770 ei1 ei2 ei1)
          · exact (qz_X18_spread_J101 hS9770 hM9770 ei1 ei2 ei1)
    · exact (qz_X18_spread_J101 hS9760 hM9760 ei1 ei2 ei1)
theorem qz_X18_spread_L23 (n : Nat) : ∀ {P : Nat → Nat} {S : zm_S} {M : qm} {i1 : Int32} {qi1 : Int} {i2 : Int32} {qi2 : Int} (hS : Sh L xs P S) (hM : qM P S = M) (ei1 : i1.toInt = qi1) (ei2 : i2.toInt = qi2), qs (zf_X18_spread_L23 20000 n 2156 i1 i2 S) (qf_X18_spread_L23 20000 n qi1 qi2 M) (tO (vs (rr L xs P vu) (rr L xs P vu))) := by
  induction n with
  | zero =>
    intros
    exact qs_none
  | succ n ih =>
    intro P S M i1 qi1 i2 qi2 hS hM ei1 ei2
    unfold qf_X18_spread_L23
    refine qs_loop (C := (qc_X18_spread_L23 L xs P (zf_X18_spread_L23 20000 n))) (qz_X18_spread_L23_b n hS hM ei1 ei2) ?_
    rintro x s ⟨_, _, _, rfl, u0, u1, hS2, hM2⟩
    exact ih hS2 hM2 u0 u1
set_option maxRecDepth 20000 in
theorem qz_X18_spread_L2_b (n : Nat) {P : Nat → Nat} {S : zm_S} {M : qm} {i1 : Int32} {qi1 : Int} (hS : Sh L xs P S) (hM : qM P S = M) (ei1 : i1.toInt = qi1) : qs (zf_X18_spread_L2 20000 (n + 1) 2156 i1 S) (qf_X18_spread_L2_b 20000 qi1 M) (tk (vs (rr L xs P vu) (rr L xs P vu)) (qc_X18_spread_L2 L xs P (zf_X18_spread_L2 20000 n))) := by
  refine qs_eq (zf_X18_spread_L2.eq_2 ..) ?_
  unfold qf_X18_spread_L2_b
  refine qs_ite (c_le k_576 ei1) ?_ ?_
  · exact qs_tr2 (show vu _ _ from trivial) hS hM
  · refine qs_gr hS pl_2156 ts_2156 rfl ?_
    refine qs_gr hS pl_2156 ts_2156 rfl ?_
    refine qs_gd (fun g9774 => ?_)
    refine qs_xi hM (pa_p hS pl_2326 ts_2326) ei1 g9774 (fun v9773 h9773 => ?_)
    refine qs_gd (fun g9776 => ?_)
    refine qs_sz hS hM (pa_p hS pl_2327 ts_2327) ei1 g9776.1 h9773 g9776.2 (fun S9775 M9775 hS9775 hM9775 => ?_)
    refine qs_lr (qz_X18_spread_L23 20000 hS9775 hM9775 ei1 k_0) ?_ ?_
    · intro v9778 S9778 w9778 M9778 h9778 hS9778 hM9778
      dsimp only
      exact qs_tr1 h9778 hS9778 hM9778
    · intro v9778 S9778 w9778 M9778 h9778 hS9778 hM9778
      dsimp only
      exact qs_tk ⟨_, _, rfl, (p_add ei1 k_1), hS9778, hM9778⟩
theorem qz_X18_spread_L2 (n : Nat) : ∀ {P : Nat → Nat} {S : zm_S} {M : qm} {i1 : Int32} {qi1 : Int} (hS : Sh L xs P S) (hM : qM P S = M) (ei1 : i1.toInt = qi1), qs (zf_X18_spread_L2 20000 n 2156 i1 S) (qf_X18_spread_L2 20000 n qi1 M) (tO (vs (rr L xs P vu) (rr L xs P vu))) := by
  induction n with
  | zero =>
    intros
    exact qs_none
  | succ n ih =>
    intro P S M i1 qi1 hS hM ei1
    unfold qf_X18_spread_L2
    refine qs_loop (C := (qc_X18_spread_L2 L xs P (zf_X18_spread_L2 20000 n))) (qz_X18_spread_L2_b n hS hM ei1) ?_
    rintro x s ⟨_, _, rfl, u0, hS2, hM2⟩
    exact ih hS2 hM2 u0
set_option maxRecDepth 20000 in
theorem qz_X18_spread_L121_b (n : Nat) {P : Nat → Nat} {S : zm_S} {M : qm} {i1 : Int32} {qi1 : Int} (hS : Sh L xs P S) (hM : qM P S = M) (ei1 : i1.toInt = qi1) : qs (zf_X18_spread_L121 20000 (n + 1) 2156 i1 S) (qf_X18_spread_L121_b 20000 qi1 M) (tk (vs (rr L xs P vu) (rr L xs P vu)) (qc_X18_spread_L121 L xs P (zf_X18_spread_L121 20000 n))) := by
  refine qs_eq (zf_X18_spread_L121.eq_2 ..) ?_
  unfold qf_X18_spread_L121_b
  refine qs_ite (c_le k_576 ei1) ?_ ?_
  · exact qs_tr2 (show vu _ _ from trivial) hS hM
  · refine qs_gr hS pl_2156 ts_2156 rfl ?_
    refine qs_gr hS pl_2156 ts_2156 rfl ?_
    refine qs_gd (fun g9782 => ?_)
    refine qs_xi hM (pa_p hS pl_2327 ts_2327) ei1 g9782 (fun v9781 h9781 => ?_)
    refine qs_gd (fun g9784 => ?_)
    refine qs_sz hS hM (pa_p hS pl_2326 ts_2326) ei1 g9784.1 h9781 g9784.2 (fun S9783 M9783 hS9783 hM9783 => ?_)
    exact qs_tk ⟨_, _, rfl, (p_add ei1 k_1), hS9783, hM9783⟩
theorem qz_X18_spread_L121 (n : Nat) : ∀ {P : Nat → Nat} {S : zm_S} {M : qm} {i1 : Int32} {qi1 : Int} (hS : Sh L xs P S) (hM : qM P S = M) (ei1 : i1.toInt = qi1), qs (zf_X18_spread_L121 20000 n 2156 i1 S) (qf_X18_spread_L121 20000 n qi1 M) (tO (vs (rr L xs P vu) (rr L xs P vu))) := by
  induction n with
  | zero =>
    intros
    exact qs_none
  | succ n ih =>
    intro P S M i1 qi1 hS hM ei1
    unfold qf_X18_spread_L121
    refine qs_loop (C := (qc_X18_spread_L121 L xs P (zf_X18_spread_L121 20000 n))) (qz_X18_spread_L121_b n hS hM ei1) ?_
    rintro x s ⟨_, _, rfl, u0, hS2, hM2⟩
    exact ih hS2 hM2 u0
set_option maxRecDepth 20000 in
theorem qz_X18_spread {P : Nat → Nat} {S : zm_S} {M : qm}  (hS : Sh L xs P S) (hM : qM P S = M)  : qs (zf_X18_spread 20000 2156 S) (qf_X18_spread 20000 M) (tO (rr L xs P vu)) := by
  unfold zf_X18_spread qf_X18_spread
  refine qs_lr (qz_X18_spread_L2 20000 hS hM k_0) ?_ ?_
  · intro v9786 S9786 w9786 M9786 h9786 hS9786 hM9786
    dsimp only
    exact qs_tr h9786 hS9786 hM9786
  · intro v9786 S9786 w9786 M9786 h9786 hS9786 hM9786
    dsimp only
    refine qs_lr (qz_X18_spread_L121 20000 hS9786 hM9786 k_0) ?_ ?_
    · intro v9788 S9788 w9788 M9788 h9788 hS9788 hM9788
      dsimp only
      exact qs_tr h9788 hS9788 hM9788
    · intro v9788 S9788 w9788 M9788 h9788 hS9788 hM9788
      dsimp only
      exact qs_tr (show vu _ _ from trivial) hS9788 hM9788
set_option maxRecDepth 20000 in
theorem qz_X18_smokes_J40 {P : Nat → Nat} {S : zm_S} {M : qm} {i1 : Int32} {qi1 : Int} {i3 : Int32} {qi3 : Int} {t0 : Int32} {qt0 : Int} {t1 : Int32} {qt1 : Int} (hS : Sh L xs P S) (hM : qM P S = M) (ei1 : i1.toInt = qi1) (ei3 : i3.toInt = qi3) (et0 : t0.toInt = qt0) (et1 : t1.toInt = qt1) {k : Nat → Int32 → Int32 → Int32 → zm_S → Option ((Int32 × zm_S) ⊕ ((Int32) × zm_S))} : qs (zf_X18_smokes_J40 20000 k 2156 i1 i3 t0 t1 S) (qf_X18_smokes_J40 20000 qi1 qi3 qt0 qt1 M) (tk (vs (rp L xs P M vi) (rp L xs P M vi)) (qc_X18_smokes_L4 L xs P M k)) := by
  unfold zf_X18_smokes_J40 qf_X18_smokes_J40
  exact qs_tk ⟨_, _, _, _, rfl, ei1, (p_add et0 et1), (p_add ei3 k_1), hS, hM⟩
set_option maxRecDepth 20000 in
theorem qz_X18_smokes_J39 {P : Nat → Nat} {S : zm_S} {M : qm} {i1 : Int32} {qi1 : Int} {i3 : Int32} {qi3 : Int} {t0 : Int32} {qt0 : Int} (hS : Sh L xs P S) (hM : qM P S = M) (ei1 : i1.toInt = qi1) (ei3 : i3.toInt = qi3) (et0 : t0.toInt = qt0) {k : Nat → Int32 → Int32 → Int32 → zm_S → Option ((Int32 × zm_S) ⊕ ((Int32) × zm_S))} : qs (zf_X18_smokes_J39 20000 k 2156 i1 i3 t0 S) (qf_X18_smokes_J39 20000 qi1 qi3 qt0 M) (tk (vs (rp L xs P M vi) (rp L xs P M vi)) (qc_X18_smokes_L4 L xs P M k)) := by
  unfold zf_X18_smokes_J39 qf_X18_smokes_J39
  exact (qz_X18_smokes_J40 hS hM ei1 ei3 et0 k_0)
set_option maxRecDepth 20000 in
theorem qz_X18_smokes_J35 {P : Nat → Nat} {S : zm_S} {M : qm} {i1 : Int32} {qi1 : Int} {i3 : Int32} {qi3 : Int} {t0 : Int32} {qt0 : Int} (hS : Sh L xs P S) (hM : qM P S = M) (ei1 : i1.toInt = qi1) (ei3 : i3.toInt = qi3) (et0 : t0.toInt = qt0) {k : Nat → Int32 → Int32 → Int32 → zm_S → Option ((Int32 × zm_S) ⊕ ((Int32) × zm_S))} : qs (zf_X18_smokes_J35 20000 k 2156 i1 i3 t0 S) (qf_X18_smokes_J35 20000 qi1 qi3 qt0 M) (tk (vs (rp L xs P M vi) (rp L xs P M vi)) (qc_X18_smokes_L4 L xs P M k)) := by
  unfold zf_X18_smokes_J35 qf_X18_smokes_J35
  exact (qz_X18_smokes_J40 hS hM ei1 ei3 et0 k_1)
set_option maxRecDepth 20000 in
theorem qz_X18_smokes_L4_b (n : Nat) {P : Nat → Nat} {S : zm_S} {M : qm} {i1 : Int32} {qi1 : Int} {i2 : Int32} {qi2 : Int} {i3 : Int32} {qi3 : Int} (hS : Sh L xs P S) (hM : qM P S = M) (ei1 : i1.toInt = qi1) (ei2 : i2.toInt = qi2) (ei3 : i3.toInt = qi3) : qs (zf_X18_smokes_L4 20000 (n + 1) 2156 i1 i2 i3 S) (qf_X18_smokes_L4_b 20000 qi1 qi2 qi3 M) (tk (vs (rp L xs P M vi) (rp L xs P M vi)) (qc_X18_smokes_L4 L xs P M (zf_X18_smokes_L4 20000 n))) := by
  refine qs_eq (zf_X18_smokes_L4.eq_2 ..) ?_
  unfold qf_X18_smokes_L4_b
  refine qs_ite (c_le k_576 ei3) ?_ ?_
  · exact qs_tp2 (show vi _ _ from ei2) hS hM
  · refine qs_gr hS pl_2156 ts_2156 rfl ?_
    refine qs_gd (fun g9791 => ?_)
    refine qs_xi hM (pa_p hS pl_2326 ts_2326) ei3 g9791 (fun v9790 h9790 => ?_)
    refine qs_ite (c_eq h9790 k_0) ?_ ?_
    · exact (qz_X18_smokes_J39 hS hM ei1 ei3 ei2)
    · refine qs_ite (c_lt ei1 k_0) ?_ ?_
      · exact (qz_X18_smokes_J35 hS hM ei1 ei3 ei2)
      · refine qs_gr hS pl_2156 ts_2156 rfl ?_
        refine qs_gd (fun g9794 => ?_)
        refine qs_xi hM (pa_p hS pl_2329 ts_2329) ei3 g9794 (fun v9793 h9793 => ?_)
        refine qs_ite (c_eq h9793 ei1) ?_ ?_
        · exact (qz_X18_smokes_J35 hS hM ei1 ei3 ei2)
        · exact (qz_X18_smokes_J39 hS hM ei1 ei3 ei2)
theorem qz_X18_smokes_L4 (n : Nat) : ∀ {P : Nat → Nat} {S : zm_S} {M : qm} {i1 : Int32} {qi1 : Int} {i2 : Int32} {qi2 : Int} {i3 : Int32} {qi3 : Int} (hS : Sh L xs P S) (hM : qM P S = M) (ei1 : i1.toInt = qi1) (ei2 : i2.toInt = qi2) (ei3 : i3.toInt = qi3), qs (zf_X18_smokes_L4 20000 n 2156 i1 i2 i3 S) (qf_X18_smokes_L4 20000 n qi1 qi2 qi3 M) (tO (vs (rp L xs P M vi) (rp L xs P M vi))) := by
  induction n with
  | zero =>
    intros
    exact qs_none
  | succ n ih =>
    intro P S M i1 qi1 i2 qi2 i3 qi3 hS hM ei1 ei2 ei3
    unfold qf_X18_smokes_L4
    refine qs_loop (C := (qc_X18_smokes_L4 L xs P M (zf_X18_smokes_L4 20000 n))) (qz_X18_smokes_L4_b n hS hM ei1 ei2 ei3) ?_
    rintro x s ⟨_, _, _, _, rfl, u0, u1, u2, hS2, hM2⟩
    exact ih hS2 hM2 u0 u1 u2
set_option maxRecDepth 20000 in
theorem qz_X18_smokes {P : Nat → Nat} {S : zm_S} {M : qm} {i1 : Int32} {qi1 : Int} (hS : Sh L xs P S) (hM : qM P S = M) (ei1 : i1.toInt = qi1) : qs (zf_X18_smokes 20000 2156 i1 S) (qf_X18_smokes 20000 qi1 M) (tO (rp L xs P M vi)) := by
  unfold zf_X18_smokes qf_X18_smokes
  refine qs_lp (qz_X18_smokes_L4 20000 hS hM ei1 k_0 k_0) ?_ ?_
  · intro v9796 S9796 w9796 h9796 hS9796 hM9796
    dsimp only
    exact qs_tp h9796 hS9796 hM9796
  · intro v9796 S9796 w9796 h9796 hS9796 hM9796
    dsimp only
    exact qs_tp (show vi _ _ from h9796) hS9796 hM9796
set_option maxRecDepth 20000 in
theorem qz_X18_detect_L2_b (n : Nat) {P : Nat → Nat} {S : zm_S} {M : qm} {i1 : Int32} {qi1 : Int} (hS : Sh L xs P S) (hM : qM P S = M) (ei1 : i1.toInt = qi1) : qs (zf_X18_detect_L2 20000 (n + 1) 2156 i1 S) (qf_X18_detect_L2_b 20000 qi1 M) (tk (vs (rr L xs P vu) (rr L xs P vu)) (qc_X18_detect_L2 L xs P (zf_X18_detect_L2 20000 n))) := by
  refine qs_eq (zf_X18_detect_L2.eq_2 ..) ?_
  unfold qf_X18_detect_L2_b
  refine qs_gi hS hM pl_2156 ts_2156 (z := 9) rfl rfl (fun v9797 h9797 => ?_)
  refine qs_ite (c_le h9797 ei1) ?_ ?_
  · exact qs_tr2 (show vu _ _ from trivial) hS hM
  · refine qs_zi hS pl_2156 ts_2156 ?_
    refine qs_bp (qz_X18_smokes hS hM ei1) (fun v9799 S9799 w9799 h9799 hS9799 hM9799 => ?_)
    refine qs_gr hS9799 pl_2156 ts_2156 rfl ?_
    refine qs_gr hS9799 pl_2208 ts_2208 rfl ?_
    refine qs_ite (c_le (p_mul k_10 h9799) k_100) ?_ ?_
    · refine qs_gd (fun g9803 => ?_)
      refine qs_si hS9799 hM9799 (pa_p hS9799 pl_2209 ts_2209) ei1 g9803 (p_mul k_10 h9799) (fun S9802 M9802 hS9802 hM9802 => ?_)
      exact qs_tk ⟨_, _, rfl, (p_add ei1 k_1), hS9802, hM9802⟩
    · refine qs_gd (fun g9805 => ?_)
      refine qs_si hS9799 hM9799 (pa_p hS9799 pl_2209 ts_2209) ei1 g9805 k_100 (fun S9804 M9804 hS9804 hM9804 => ?_)
      exact qs_tk ⟨_, _, rfl, (p_add ei1 k_1), hS9804, hM9804⟩
theorem qz_X18_detect_L2 (n : Nat) : ∀ {P : Nat → Nat} {S : zm_S} {M : qm} {i1 : Int32} {qi1 : Int} (hS : Sh L xs P S) (hM : qM P S = M) (ei1 : i1.toInt = qi1), qs (zf_X18_detect_L2 20000 n 2156 i1 S) (qf_X18_detect_L2 20000 n qi1 M) (tO (vs (rr L xs P vu) (rr L xs P vu))) := by
  induction n with
  | zero =>
    intros
    exact qs_none
  | succ n ih =>
    intro P S M i1 qi1 hS hM ei1
    unfold qf_X18_detect_L2
    refine qs_loop (C := (qc_X18_detect_L2 L xs P (zf_X18_detect_L2 20000 n))) (qz_X18_detect_L2_b n hS hM ei1) ?_
    rintro x s ⟨_, _, rfl, u0, hS2, hM2⟩
    exact ih hS2 hM2 u0
set_option maxRecDepth 20000 in
theorem qz_X18_detect_L48_b (n : Nat) {P : Nat → Nat} {S : zm_S} {M : qm} {i1 : Int32} {qi1 : Int} (hS : Sh L xs P S) (hM : qM P S = M) (ei1 : i1.toInt = qi1) : qs (zf_X18_detect_L48 20000 (n + 1) 2156 i1 S) (qf_X18_detect_L48_b 20000 qi1 M) (tk (vs (rr L xs P vu) (rr L xs P vu)) (qc_X18_detect_L48 L xs P (zf_X18_detect_L48 20000 n))) := by
  refine qs_eq (zf_X18_detect_L48.eq_2 ..) ?_
  unfold qf_X18_detect_L48_b
  refine qs_gr hS pl_2156 ts_2156 rfl ?_
  refine qs_gi hS hM pl_2235 ts_2235 (z := 0) rfl rfl (fun v9807 h9807 => ?_)
  refine qs_ite (c_le h9807 ei1) ?_ ?_
  · exact qs_tr2 (show vu _ _ from trivial) hS hM
  · refine qs_gr hS pl_2156 ts_2156 rfl ?_
    refine qs_gr hS pl_2235 ts_2235 rfl ?_
    refine qs_gd (fun g9811 => ?_)
    refine qs_xi hM (pa_p hS pl_2248 ts_2248) ei1 g9811 (fun v9810 h9810 => ?_)
    refine qs_ite (c_le h9810 k_0) ?_ ?_
    · exact qs_tk ⟨_, _, rfl, (p_add ei1 k_1), hS, hM⟩
    · refine qs_gr hS pl_2156 ts_2156 rfl ?_
      refine qs_gr hS pl_2235 ts_2235 rfl ?_
      refine qs_gd (fun g9815 => ?_)
      refine qs_xi hM (pa_p hS pl_2242 ts_2242) ei1 g9815 (fun v9814 h9814 => ?_)
      refine qs_gr hS pl_2156 ts_2156 rfl ?_
      refine qs_gr hS pl_2208 ts_2208 rfl ?_
      refine qs_gi hS hM pl_2156 ts_2156 (z := 9) rfl rfl (fun v9818 h9818 => ?_)
      refine qs_gr hS pl_2156 ts_2156 rfl ?_
      refine qs_gr hS pl_2235 ts_2235 rfl ?_
      refine qs_gd (fun g9822 => ?_)
      refine qs_xi hM (pa_p hS pl_2248 ts_2248) ei1 g9822 (fun v9821 h9821 => ?_)
      refine qs_ite (c_le k_0 h9814) ?_ ?_
      · refine qs_ite (c_le h9814 k_100) ?_ ?_
        · refine qs_gd (fun g9824 => ?_)
          refine qs_si hS hM (pa_p hS pl_2209 ts_2209) (p_sub (p_add h9818 h9821) k_1) g9824 h9814 (fun S9823 M9823 hS9823 hM9823 => ?_)
          exact qs_tk ⟨_, _, rfl, (p_add ei1 k_1), hS9823, hM9823⟩
        · refine qs_gd (fun g9826 => ?_)
          refine qs_si hS hM (pa_p hS pl_2209 ts_2209) (p_sub (p_add h9818 h9821) k_1) g9826 k_100 (fun S9825 M9825 hS9825 hM9825 => ?_)
          exact qs_tk ⟨_, _, rfl, (p_add ei1 k_1), hS9825, hM9825⟩
      · refine qs_gd (fun g9828 => ?_)
        refine qs_si hS hM (pa_p hS pl_2209 ts_2209) (p_sub (p_add h9818 h9821) k_1) g9828 k_0 (fun S9827 M9827 hS9827 hM9827 => ?_)
        exact qs_tk ⟨_, _, rfl, (p_add ei1 k_1), hS9827, hM9827⟩
theorem qz_X18_detect_L48 (n : Nat) : ∀ {P : Nat → Nat} {S : zm_S} {M : qm} {i1 : Int32} {qi1 : Int} (hS : Sh L xs P S) (hM : qM P S = M) (ei1 : i1.toInt = qi1), qs (zf_X18_detect_L48 20000 n 2156 i1 S) (qf_X18_detect_L48 20000 n qi1 M) (tO (vs (rr L xs P vu) (rr L xs P vu))) := by
  induction n with
  | zero =>
    intros
    exact qs_none
  | succ n ih =>
    intro P S M i1 qi1 hS hM ei1
    unfold qf_X18_detect_L48
    refine qs_loop (C := (qc_X18_detect_L48 L xs P (zf_X18_detect_L48 20000 n))) (qz_X18_detect_L48_b n hS hM ei1) ?_
    rintro x s ⟨_, _, rfl, u0, hS2, hM2⟩
    exact ih hS2 hM2 u0
set_option maxRecDepth 20000 in
theorem qz_X18_detect {P : Nat → Nat} {S : zm_S} {M : qm}  (hS : Sh L xs P S) (hM : qM P S = M)  : qs (zf_X18_detect 20000 2156 S) (qf_X18_detect 20000 M) (tO (rr L xs P vu)) := by
  unfold zf_X18_detect qf_X18_detect
  refine qs_lr (qz_X18_detect_L2 20000 hS hM k_0) ?_ ?_
  · intro v9830 S9830 w9830 M9830 h9830 hS9830 hM9830
    dsimp only
    exact qs_tr h9830 hS9830 hM9830
  · intro v9830 S9830 w9830 M9830 h9830 hS9830 hM9830
    dsimp only
    refine qs_lr (qz_X18_detect_L48 20000 hS9830 hM9830 k_0) ?_ ?_
    · intro v9832 S9832 w9832 M9832 h9832 hS9832 hM9832
      dsimp only
      exact qs_tr h9832 hS9832 hM9832
    · intro v9832 S9832 w9832 M9832 h9832 hS9832 hM9832
      dsimp only
      exact qs_tr (show vu _ _ from trivial) hS9832 hM9832
set_option maxRecDepth 20000 in
theorem qz_X14_go_J63 {P : Nat → Nat} {S : zm_S} {M : qm} {i2 : Int32} {qi2 : Int} (hS : Sh L xs P S) (hM : qM P S = M) (ei2 : i2.toInt = qi2) : qs (zf_X14_go_J63 20000 i2 S) (qf_X14_go_J63 20000 qi2 M) (tO (rr L xs P vi)) := by
  unfold zf_X14_go_J63 qf_X14_go_J63
  refine qs_ite (c_eq ei2 k_0) ?_ ?_
  · exact qs_tr (show vi _ _ from k_m1) hS hM
  · exact qs_tr (show vi _ _ from k_0) hS hM
set_option maxRecDepth 20000 in
theorem qz_X14_go_J58 {P : Nat → Nat} {S : zm_S} {M : qm} {i1 : Int32} {qi1 : Int} {i2 : Int32} {qi2 : Int} (hS : Sh L xs P S) (hM : qM P S = M) (ei1 : i1.toInt = qi1) (ei2 : i2.toInt = qi2) : qs (zf_X14_go_J58 20000 2208 i1 i2 S) (qf_X14_go_J58 20000 qi1 qi2 M) (tO (rr L xs P vi)) := by
  unfold zf_X14_go_J58 qf_X14_go_J58
  refine qs_zi hS pl_2208 ts_2208 ?_
  refine qs_b (qz_X14_rests hS hM ei1) (fun v9834 S9834 w9834 M9834 h9834 hS9834 hM9834 => ?_)
  exact (qz_X14_go_J63 hS9834 hM9834 ei2)
set_option maxRecDepth 20000 in
theorem qz_X14_go_J44 {P : Nat → Nat} {S : zm_S} {M : qm} {i1 : Int32} {qi1 : Int} {i2 : Int32} {qi2 : Int} (hS : Sh L xs P S) (hM : qM P S = M) (ei1 : i1.toInt = qi1) (ei2 : i2.toInt = qi2) : qs (zf_X14_go_J44 20000 2208 i1 i2 S) (qf_X14_go_J44 20000 qi1 qi2 M) (tO (rr L xs P vi)) := by
  unfold zf_X14_go_J44 qf_X14_go_J44
  refine qs_ite (c_eq ei2 k_0) ?_ ?_
  · refine qs_gr hS pl_2208 ts_2208 rfl ?_
    refine qs_gd (fun g9837 => ?_)
    refine qs_xi hM (pa_p hS pl_2227 ts_2227) ei1 g9837 (fun v9836 h9836 => ?_)
    refine qs_ite (c_eq h9836 k_1) ?_ ?_
    · exact (qz_X14_go_J58 hS hM ei1 ei2)
    · exact (qz_X14_go_J63 hS hM ei2)
  · exact (qz_X14_go_J58 hS hM ei1 ei2)
set_option maxRecDepth 20000 in
theorem qz_X14_go_J33 {P : Nat → Nat} {S : zm_S} {M : qm} {i1 : Int32} {qi1 : Int} {t0 : Int32} {qt0 : Int} (hS : Sh L xs P S) (hM : qM P S = M) (ei1 : i1.toInt = qi1) (et0 : t0.toInt = qt0) : qs (zf_X14_go_J33 20000 2208 i1 t0 S) (qf_X14_go_J33 20000 qi1 qt0 M) (tO (rr L xs P vi)) := by
  unfold zf_X14_go_J33 qf_X14_go_J33
  refine qs_ite (c_eq et0 k_0) ?_ ?_
  · exact (qz_X14_go_J44 hS hM ei1 et0)
  · refine qs_zi hS pl_2208 ts_2208 ?_
    refine qs_b (qz_X14_tell hS hM ei1 k_0) (fun v9839 S9839 w9839 M9839 h9839 hS9839 hM9839 => ?_)
    exact (qz_X14_go_J44 hS9839 hM9839 ei1 et0)
set_option maxRecDepth 20000 in
theorem qz_X14_go_J32 {P : Nat → Nat} {S : zm_S} {M : qm} {i1 : Int32} {qi1 : Int} (hS : Sh L xs P S) (hM : qM P S = M) (ei1 : i1.toInt = qi1) : qs (zf_X14_go_J32 20000 2208 i1 S) (qf_X14_go_J32 20000 qi1 M) (tO (rr L xs P vi)) := by
  unfold zf_X14_go_J32 qf_X14_go_J32
  exact (qz_X14_go_J33 hS hM ei1 k_0)
set_option maxRecDepth 20000 in
theorem qz_X14_go_J151 {P : Nat → Nat} {S : zm_S} {M : qm} {i1 : Int32} {qi1 : Int} (hS : Sh L xs P S) (hM : qM P S = M) (ei1 : i1.toInt = qi1) : qs (zf_X14_go_J151 20000 2208 i1 S) (qf_X14_go_J151 20000 qi1 M) (tO (rr L xs P vi)) := by
  unfold zf_X14_go_J151 qf_X14_go_J151
  refine qs_zi hS pl_2208 ts_2208 ?_
  refine qs_b (qz_X14_rests hS hM ei1) (fun v9841 S9841 w9841 M9841 h9841 hS9841 hM9841 => ?_)
  refine qs_gr hS9841 pl_2208 ts_2208 rfl ?_
  refine qs_gd (fun g9844 => ?_)
  refine qs_si hS9841 hM9841 (pa_p hS9841 pl_2227 ts_2227) ei1 g9844 k_2 (fun S9843 M9843 hS9843 hM9843 => ?_)
  refine qs_zi hS9843 pl_2208 ts_2208 ?_
  refine qs_b (qz_X14_tell hS9843 hM9843 ei1 k_1) (fun v9846 S9846 w9846 M9846 h9846 hS9846 hM9846 => ?_)
  exact qs_tr (show vi _ _ from k_1) hS9846 hM9846
set_option maxRecDepth 20000 in
theorem qz_X14_go_J111 {P : Nat → Nat} {S : zm_S} {M : qm} {i1 : Int32} {qi1 : Int} (hS : Sh L xs P S) (hM : qM P S = M) (ei1 : i1.toInt = qi1) : qs (zf_X14_go_J111 20000 2208 i1 S) (qf_X14_go_J111 20000 qi1 M) (tO (rr L xs P vi)) := by
  unfold zf_X14_go_J111 qf_X14_go_J111
  refine qs_gi hS hM pl_2208 ts_2208 (z := 1) rfl rfl (fun v9847 h9847 => ?_)
  refine qs_gr hS pl_2208 ts_2208 rfl ?_
  refine qs_gd (fun g9850 => ?_)
  refine qs_xi hM (pa_p hS pl_2228 ts_2228) ei1 g9850 (fun v9849 h9849 => ?_)
  refine qs_gr hS pl_2208 ts_2208 rfl ?_
  refine qs_gd (fun g9853 => ?_)
  refine qs_xi hM (pa_p hS pl_2222 ts_2222) ei1 g9853 (fun v9852 h9852 => ?_)
  refine qs_ite (c_le (p_add h9849 h9852) h9847) ?_ ?_
  · exact (qz_X14_go_J151 hS hM ei1)
  · refine qs_gr hS pl_2208 ts_2208 rfl ?_
    refine qs_gd (fun g9856 => ?_)
    refine qs_xi hM (pa_p hS pl_2230 ts_2230) ei1 g9856 (fun v9855 h9855 => ?_)
    refine qs_ite (c_eq h9855 k_0) ?_ ?_
    · refine qs_zi hS pl_2208 ts_2208 ?_
      refine qs_bp (qz_X14_isCalled hS hM ei1 k_1) (fun v9858 S9858 w9858 h9858 hS9858 hM9858 => ?_)
      refine qs_ite (c_eq h9858 k_0) ?_ ?_
      · exact qs_tr (show vi _ _ from k_m1) hS9858 hM9858
      · exact (qz_X14_go_J151 hS9858 hM9858 ei1)
    · exact (qz_X14_go_J151 hS hM ei1)
set_option maxRecDepth 20000 in
theorem qz_X14_go {P : Nat → Nat} {S : zm_S} {M : qm} {i1 : Int32} {qi1 : Int} (hS : Sh L xs P S) (hM : qM P S = M) (ei1 : i1.toInt = qi1) : qs (zf_X14_go 20000 2208 i1 S) (qf_X14_go 20000 qi1 M) (tO (rr L xs P vi)) := by
  unfold zf_X14_go qf_X14_go
  refine qs_zi hS pl_2208 ts_2208 ?_
  refine qs_bp (qz_X14_isCalled hS hM ei1 k_0) (fun v9860 S9860 w9860 h9860 hS9860 hM9860 => ?_)
  refine qs_ite (c_eq h9860 k_0) ?_ ?_
  · refine qs_gr hS9860 pl_2208 ts_2208 rfl ?_
    refine qs_gd (fun g9863 => ?_)
    refine qs_xi hM9860 (pa_p hS9860 pl_2227 ts_2227) ei1 g9863 (fun v9862 h9862 => ?_)
    refine qs_ite (c_eq h9862 k_2) ?_ ?_
    · refine qs_gr hS9860 pl_2208 ts_2208 rfl ?_
      refine qs_gd (fun g9866 => ?_)
      refine qs_xi hM9860 (pa_p hS9860 pl_2223 ts_2223) ei1 g9866 (fun v9865 h9865 => ?_)
      refine qs_ite (c_eq h9865 k_0) ?_ ?_
      · exact (qz_X14_go_J33 hS9860 hM9860 ei1 k_1)
      · exact (qz_X14_go_J32 hS9860 hM9860 ei1)
    · exact (qz_X14_go_J32 hS9860 hM9860 ei1)
  · refine qs_gr hS9860 pl_2208 ts_2208 rfl ?_
    refine qs_gd (fun g9869 => ?_)
    refine qs_xi hM9860 (pa_p hS9860 pl_2227 ts_2227) ei1 g9869 (fun v9868 h9868 => ?_)
    refine qs_ite (c_eq h9868 k_2) ?_ ?_
    · exact qs_tr (show vi _ _ from k_m1) hS9860 hM9860
    · refine qs_gr hS9860 pl_2208 ts_2208 rfl ?_
      refine qs_gd (fun g9872 => ?_)
      refine qs_xi hM9860 (pa_p hS9860 pl_2227 ts_2227) ei1 g9872 (fun v9871 h9871 => ?_)
      refine qs_ite (c_eq h9871 k_0) ?_ ?_
      · refine qs_gr hS9860 pl_2208 ts_2208 rfl ?_
        refine qs_gd (fun g9875 => ?_)
        refine qs_si hS9860 hM9860 (pa_p hS9860 pl_2227 ts_2227) ei1 g9875 k_1 (fun S9874 M9874 hS9874 hM9874 => ?_)
        refine qs_gr hS9874 pl_2208 ts_2208 rfl ?_
        refine qs_gi hS9874 hM9874 pl_2208 ts_2208 (z := 1) rfl rfl (fun v9877 h9877 => ?_)
        refine qs_gd (fun g9879 => ?_)
        refine qs_si hS9874 hM9874 (pa_p hS9874 pl_2228 ts_2228) ei1 g9879 h9877 (fun S9878 M9878 hS9878 hM9878 => ?_)
        exact (qz_X14_go_J111 hS9878 hM9878 ei1)
      · exact (qz_X14_go_J111 hS9860 hM9860 ei1)
set_option maxRecDepth 20000 in
theorem qz_X18_second_J84 {P : Nat → Nat} {S : zm_S} {M : qm} {i2 : Int32} {qi2 : Int} (hS : Sh L xs P S) (hM : qM P S = M) (ei2 : i2.toInt = qi2) {k : Nat → Int32 → Int32 → zm_S → Option ((Unit × zm_S) ⊕ ((Unit) × zm_S))} : qs (zf_X18_second_J84 20000 k 2156 i2 S) (qf_X18_second_J84 20000 qi2 M) (tk (vs (rr L xs P vu) (rr L xs P vu)) (qc_X18_second_L61 L xs P k)) := by
  unfold zf_X18_second_J84 qf_X18_second_J84
  refine qs_gr hS pl_2156 ts_2156 rfl ?_
  refine qs_zi hS pl_2208 ts_2208 ?_
  refine qs_bp (qz_X14_rankedOne hS hM ei2) (fun v9882 S9882 w9882 h9882 hS9882 hM9882 => ?_)
  exact qs_tk ⟨_, _, _, rfl, h9882, (p_add ei2 k_1), hS9882, hM9882⟩
set_option maxRecDepth 20000 in
theorem qz_X18_second_L61_b (n : Nat) {P : Nat → Nat} {S : zm_S} {M : qm} {i1 : Int32} {qi1 : Int} {i2 : Int32} {qi2 : Int} (hS : Sh L xs P S) (hM : qM P S = M) (ei1 : i1.toInt = qi1) (ei2 : i2.toInt = qi2) : qs (zf_X18_second_L61 20000 (n + 1) 2156 i1 i2 S) (qf_X18_second_L61_b 20000 qi1 qi2 M) (tk (vs (rr L xs P vu) (rr L xs P vu)) (qc_X18_second_L61 L xs P (zf_X18_second_L61 20000 n))) := by
  refine qs_eq (zf_X18_second_L61.eq_2 ..) ?_
  unfold qf_X18_second_L61_b
  refine qs_ite (c_lt ei1 k_0) ?_ ?_
  · exact qs_tr2 (show vu _ _ from trivial) hS hM
  · refine qs_gr hS pl_2156 ts_2156 rfl ?_
    refine qs_zi hS pl_2208 ts_2208 ?_
    refine qs_b (qz_X14_go hS hM ei1) (fun v9885 S9885 w9885 M9885 h9885 hS9885 hM9885 => ?_)
    refine qs_ite (c_lt h9885 k_0) ?_ ?_
    · exact (qz_X18_second_J84 hS9885 hM9885 ei2)
    · refine qs_zi hS9885 pl_2156 ts_2156 ?_
      refine qs_b (qz_X18_does hS9885 hM9885 ei1 h9885) (fun v9887 S9887 w9887 M9887 h9887 hS9887 hM9887 => ?_)
      exact (qz_X18_second_J84 hS9887 hM9887 ei2)
theorem qz_X18_second_L61 (n : Nat) : ∀ {P : Nat → Nat} {S : zm_S} {M : qm} {i1 : Int32} {qi1 : Int} {i2 : Int32} {qi2 : Int} (hS : Sh L xs P S) (hM : qM P S = M) (ei1 : i1.toInt = qi1) (ei2 : i2.toInt = qi2), qs (zf_X18_second_L61 20000 n 2156 i1 i2 S) (qf_X18_second_L61 20000 n qi1 qi2 M) (tO (vs (rr L xs P vu) (rr L xs P vu))) := by
  induction n with
  | zero =>
    intros
    exact qs_none
  | succ n ih =>
    intro P S M i1 qi1 i2 qi2 hS hM ei1 ei2
    unfold qf_X18_second_L61
    refine qs_loop (C := (qc_X18_second_L61 L xs P (zf_X18_second_L61 20000 n))) (qz_X18_second_L61_b n hS hM ei1 ei2) ?_
    rintro x s ⟨_, _, _, rfl, u0, u1, hS2, hM2⟩
    exact ih hS2 hM2 u0 u1
set_option maxRecDepth 20000 in
theorem qz_X18_inSpaces_J40 {P : Nat → Nat} {S : zm_S} {M : qm} {i2 : Int32} {qi2 : Int} {t0 : Int32} {qt0 : Int} {t1 : Int32} {qt1 : Int} (hS : Sh L xs P S) (hM : qM P S = M) (ei2 : i2.toInt = qi2) (et0 : t0.toInt = qt0) (et1 : t1.toInt = qt1) {k : Nat → Int32 → Int32 → zm_S → Option ((Int32 × zm_S) ⊕ ((Int32) × zm_S))} : qs (zf_X18_inSpaces_J40 20000 k 2156 i2 t0 t1 S) (qf_X18_inSpaces_J40 20000 qi2 qt0 qt1 M) (tk (vs (rp L xs P M vi) (rp L xs P M vi)) (qc_X18_inSpaces_L4 L xs P M k)) := by
  unfold zf_X18_inSpaces_J40 qf_X18_inSpaces_J40
  exact qs_tk ⟨_, _, _, rfl, (p_add et0 et1), (p_add ei2 k_1), hS, hM⟩
set_option maxRecDepth 20000 in
theorem qz_X18_inSpaces_J39 {P : Nat → Nat} {S : zm_S} {M : qm} {i2 : Int32} {qi2 : Int} {t0 : Int32} {qt0 : Int} (hS : Sh L xs P S) (hM : qM P S = M) (ei2 : i2.toInt = qi2) (et0 : t0.toInt = qt0) {k : Nat → Int32 → Int32 → zm_S → Option ((Int32 × zm_S) ⊕ ((Int32) × zm_S))} : qs (zf_X18_inSpaces_J39 20000 k 2156 i2 t0 S) (qf_X18_inSpaces_J39 20000 qi2 qt0 M) (tk (vs (rp L xs P M vi) (rp L xs P M vi)) (qc_X18_inSpaces_L4 L xs P M k)) := by
  unfold zf_X18_inSpaces_J39 qf_X18_inSpaces_J39
  exact (qz_X18_inSpaces_J40 hS hM ei2 et0 k_0)
set_option maxRecDepth 20000 in
theorem qz_X18_inSpaces_L4_b (n : Nat) {P : Nat → Nat} {S : zm_S} {M : qm} {i1 : Int32} {qi1 : Int} {i2 : Int32} {qi2 : Int} (hS : Sh L xs P S) (hM : qM P S = M) (ei1 : i1.toInt = qi1) (ei2 : i2.toInt = qi2) : qs (zf_X18_inSpaces_L4 20000 (n + 1) 2156 i1 i2 S) (qf_X18_inSpaces_L4_b 20000 qi1 qi2 M) (tk (vs (rp L xs P M vi) (rp L xs P M vi)) (qc_X18_inSpaces_L4 L xs P M (zf_X18_inSpaces_L4 20000 n))) := by
  refine qs_eq (zf_X18_inSpaces_L4.eq_2 ..) ?_
  unfold qf_X18_inSpaces_L4_b
  refine qs_gi hS hM pl_2156 ts_2156 (z := 27) rfl rfl (fun v9888 h9888 => ?_)
  refine qs_ite (c_le h9888 ei2) ?_ ?_
  · exact qs_tp2 (show vi _ _ from ei1) hS hM
  · refine qs_gr hS pl_2156 ts_2156 rfl ?_
    refine qs_gd (fun g9891 => ?_)
    refine qs_xi hM (pa_p hS pl_2306 ts_2306) ei2 g9891 (fun v9890 h9890 => ?_)
    refine qs_gi hS hM pl_2156 ts_2156 (z := 9) rfl rfl (fun v9892 h9892 => ?_)
    refine qs_ite (c_le h9892 h9890) ?_ ?_
    · exact (qz_X18_inSpaces_J39 hS hM ei2 ei1)
    · refine qs_gr hS pl_2156 ts_2156 rfl ?_
      refine qs_gd (fun g9895 => ?_)
      refine qs_xi hM (pa_p hS pl_2309 ts_2309) ei2 g9895 (fun v9894 h9894 => ?_)
      refine qs_ite (c_le k_0 h9894) ?_ ?_
      · exact (qz_X18_inSpaces_J39 hS hM ei2 ei1)
      · exact (qz_X18_inSpaces_J40 hS hM ei2 ei1 k_1)
theorem qz_X18_inSpaces_L4 (n : Nat) : ∀ {P : Nat → Nat} {S : zm_S} {M : qm} {i1 : Int32} {qi1 : Int} {i2 : Int32} {qi2 : Int} (hS : Sh L xs P S) (hM : qM P S = M) (ei1 : i1.toInt = qi1) (ei2 : i2.toInt = qi2), qs (zf_X18_inSpaces_L4 20000 n 2156 i1 i2 S) (qf_X18_inSpaces_L4 20000 n qi1 qi2 M) (tO (vs (rp L xs P M vi) (rp L xs P M vi))) := by
  induction n with
  | zero =>
    intros
    exact qs_none
  | succ n ih =>
    intro P S M i1 qi1 i2 qi2 hS hM ei1 ei2
    unfold qf_X18_inSpaces_L4
    refine qs_loop (C := (qc_X18_inSpaces_L4 L xs P M (zf_X18_inSpaces_L4 20000 n))) (qz_X18_inSpaces_L4_b n hS hM ei1 ei2) ?_
    rintro x s ⟨_, _, _, rfl, u0, u1, hS2, hM2⟩
    exact ih hS2 hM2 u0 u1
set_option maxRecDepth 20000 in
theorem qz_X18_inSpaces {P : Nat → Nat} {S : zm_S} {M : qm}  (hS : Sh L xs P S) (hM : qM P S = M)  : qs (zf_X18_inSpaces 20000 2156 S) (qf_X18_inSpaces 20000 M) (tO (rp L xs P M vi)) := by
  unfold zf_X18_inSpaces qf_X18_inSpaces
  refine qs_lp (qz_X18_inSpaces_L4 20000 hS hM k_0 k_0) ?_ ?_
  · intro v9897 S9897 w9897 h9897 hS9897 hM9897
    dsimp only
    exact qs_tp h9897 hS9897 hM9897
  · intro v9897 S9897 w9897 h9897 hS9897 hM9897
    dsimp only
    exact qs_tp (show vi _ _ from h9897) hS9897 hM9897
set_option maxRecDepth 20000 in
theorem qz_X17_failure_L9_b (n : Nat) {P : Nat → Nat} {S : zm_S} {M : qm} {i1 : Int32} {qi1 : Int} {i2 : Int32} {qi2 : Int} {i3 : Int32} {qi3 : Int} (hS : Sh L xs P S) (hM : qM P S = M) (ei1 : i1.toInt = qi1) (ei2 : i2.toInt = qi2) (ei3 : i3.toInt = qi3) : qs (zf_X17_failure_L9 20000 (n + 1) 2235 i1 i2 i3 S) (qf_X17_failure_L9_b 20000 qi1 qi2 qi3 M) (tk (vs (rp L xs P M vi) (rp L xs P M vu)) (qc_X17_failure_L9 L xs P M (zf_X17_failure_L9 20000 n))) := by
  refine qs_eq (zf_X17_failure_L9.eq_2 ..) ?_
  unfold qf_X17_failure_L9_b
  refine qs_bp (qz_X17_inputs hS hM ei2) (fun v9898 S9898 w9898 h9898 hS9898 hM9898 => ?_)
  refine qs_ite (c_le h9898 ei3) ?_ ?_
  · exact qs_tp2 (show vu _ _ from trivial) hS9898 hM9898
  · refine qs_ite (c_eq ei2 k_16) ?_ ?_
    · exact qs_tp2 (show vu _ _ from trivial) hS9898 hM9898
    · refine qs_gr hS9898 pl_2235 ts_2235 rfl ?_
      refine qs_gd (fun g9901 => ?_)
      refine qs_xi hM9898 (pa_p hS9898 pl_2240 ts_2240) (p_add (p_mul k_3 ei1) ei3) g9901 (fun v9900 h9900 => ?_)
      refine qs_ite (c_le k_0 h9900) ?_ ?_
      · exact qs_tk ⟨_, _, _, _, rfl, ei1, ei2, (p_add ei3 k_1), hS9898, hM9898⟩
      · exact qs_tp1 (show vi _ _ from k_3) hS9898 hM9898
theorem qz_X17_failure_L9 (n : Nat) : ∀ {P : Nat → Nat} {S : zm_S} {M : qm} {i1 : Int32} {qi1 : Int} {i2 : Int32} {qi2 : Int} {i3 : Int32} {qi3 : Int} (hS : Sh L xs P S) (hM : qM P S = M) (ei1 : i1.toInt = qi1) (ei2 : i2.toInt = qi2) (ei3 : i3.toInt = qi3), qs (zf_X17_failure_L9 20000 n 2235 i1 i2 i3 S) (qf_X17_failure_L9 20000 n qi1 qi2 qi3 M) (tO (vs (rp L xs P M vi) (rp L xs P M vu))) := by
  induction n with
  | zero =>
    intros
    exact qs_none
  | succ n ih =>
    intro P S M i1 qi1 i2 qi2 i3 qi3 hS hM ei1 ei2 ei3
    unfold qf_X17_failure_L9
    refine qs_loop (C := (qc_X17_failure_L9 L xs P M (zf_X17_failure_L9 20000 n))) (qz_X17_failure_L9_b n hS hM ei1 ei2 ei3) ?_
    rintro x s ⟨_, _, _, _, rfl, u0, u1, u2, hS2, hM2⟩
    exact ih hS2 hM2 u0 u1 u2
set_option maxRecDepth 20000 in
theorem qz_X17_in {P : Nat → Nat} {S : zm_S} {M : qm} {i1 : Int32} {qi1 : Int} {i2 : Int32} {qi2 : Int} (hS : Sh L xs P S) (hM : qM P S = M) (ei1 : i1.toInt = qi1) (ei2 : i2.toInt = qi2) : qs (zf_X17_in 20000 2235 i1 i2 S) (qf_X17_in 20000 qi1 qi2 M) (tO (rp L xs P M vi)) := by
  unfold zf_X17_in qf_X17_in
  refine qs_gr hS pl_2235 ts_2235 rfl ?_
  refine qs_gr hS pl_2235 ts_2235 rfl ?_
  refine qs_gd (fun g9905 => ?_)
  refine qs_xi hM (pa_p hS pl_2240 ts_2240) (p_add (p_mul k_3 ei1) ei2) g9905 (fun v9904 h9904 => ?_)
  refine qs_gd (fun g9907 => ?_)
  refine qs_xi hM (pa_p hS pl_2242 ts_2242) h9904 g9907 (fun v9906 h9906 => ?_)
  exact qs_tp (show vi _ _ from h9906) hS hM
set_option maxRecDepth 20000 in
theorem qz_X17_failure_J121 {P : Nat → Nat} {S : zm_S} {M : qm} {t0 : Int32} {qt0 : Int} (hS : Sh L xs P S) (hM : qM P S = M) (et0 : t0.toInt = qt0) : qs (zf_X17_failure_J121 20000 t0 S) (qf_X17_failure_J121 20000 qt0 M) (tO (rp L xs P M vi)) := by
  unfold zf_X17_failure_J121 qf_X17_failure_J121
  refine qs_ite (c_eq et0 k_0) ?_ ?_
  · exact qs_tp (show vi _ _ from k_0) hS hM
  · exact qs_tp (show vi _ _ from k_2) hS hM
set_option maxRecDepth 20000 in
theorem qz_X17_failure_J116 {P : Nat → Nat} {S : zm_S} {M : qm}  (hS : Sh L xs P S) (hM : qM P S = M)  : qs (zf_X17_failure_J116 20000 S) (qf_X17_failure_J116 20000 M) (tO (rp L xs P M vi)) := by
  unfold zf_X17_failure_J116 qf_X17_failure_J116
  exact (qz_X17_failure_J121 hS hM k_1)
set_option maxRecDepth 20000 in
theorem qz_X17_failure_J120 {P : Nat → Nat} {S : zm_S} {M : qm}  (hS : Sh L xs P S) (hM : qM P S = M)  : qs (zf_X17_failure_J120 20000 S) (qf_X17_failure_J120 20000 M) (tO (rp L xs P M vi)) := by
  unfold zf_X17_failure_J120 qf_X17_failure_J120
  exact (qz_X17_failure_J121 hS hM k_0)
set_option maxRecDepth 20000 in
theorem qz_X17_failure_J90 {P : Nat → Nat} {S : zm_S} {M : qm} {i1 : Int32} {qi1 : Int} {i2 : Int32} {qi2 : Int} (hS : Sh L xs P S) (hM : qM P S = M) (ei1 : i1.toInt = qi1) (ei2 : i2.toInt = qi2) : qs (zf_X17_failure_J90 20000 2235 i1 i2 S) (qf_X17_failure_J90 20000 qi1 qi2 M) (tO (rp L xs P M vi)) := by
  unfold zf_X17_failure_J90 qf_X17_failure_J90
  refine qs_ite (c_eq ei2 k_15) ?_ ?_
  · refine qs_zi hS pl_2235 ts_2235 ?_
    refine qs_bp (qz_X17_in hS hM ei1 k_0) (fun v9909 S9909 w9909 h9909 hS9909 hM9909 => ?_)
    refine qs_ite (c_lt h9909 k_0) ?_ ?_
    · exact (qz_X17_failure_J116 hS9909 hM9909 )
    · refine qs_zi hS9909 pl_2235 ts_2235 ?_
      refine qs_bp (qz_X17_in hS9909 hM9909 ei1 k_0) (fun v9911 S9911 w9911 h9911 hS9911 hM9911 => ?_)
      refine qs_ite (c_le h9911 k_7) ?_ ?_
      · exact (qz_X17_failure_J120 hS9911 hM9911 )
      · exact (qz_X17_failure_J116 hS9911 hM9911 )
  · exact (qz_X17_failure_J120 hS hM )
set_option maxRecDepth 20000 in
theorem qz_X17_failure_J66 {P : Nat → Nat} {S : zm_S} {M : qm} {i1 : Int32} {qi1 : Int} {i2 : Int32} {qi2 : Int} (hS : Sh L xs P S) (hM : qM P S = M) (ei1 : i1.toInt = qi1) (ei2 : i2.toInt = qi2) : qs (zf_X17_failure_J66 20000 2235 i1 i2 S) (qf_X17_failure_J66 20000 qi1 qi2 M) (tO (rp L xs P M vi)) := by
  unfold zf_X17_failure_J66 qf_X17_failure_J66
  refine qs_ite (c_eq ei2 k_0) ?_ ?_
  · refine qs_gr hS pl_2235 ts_2235 rfl ?_
    refine qs_gd (fun g9914 => ?_)
    refine qs_xi hM (pa_p hS pl_2237 ts_2237) ei1 g9914 (fun v9913 h9913 => ?_)
    refine qs_ite (c_lt h9913 k_0) ?_ ?_
    · exact (qz_X17_failure_J116 hS hM )
    · refine qs_gr hS pl_2235 ts_2235 rfl ?_
      refine qs_gd (fun g9917 => ?_)
      refine qs_xi hM (pa_p hS pl_2237 ts_2237) ei1 g9917 (fun v9916 h9916 => ?_)
      refine qs_ite (c_lt k_9 h9916) ?_ ?_
      · exact (qz_X17_failure_J116 hS hM )
      · exact (qz_X17_failure_J90 hS hM ei1 ei2)
  · exact (qz_X17_failure_J90 hS hM ei1 ei2)
set_option maxRecDepth 20000 in
theorem qz_X17_failure_J55 {P : Nat → Nat} {S : zm_S} {M : qm} {i1 : Int32} {qi1 : Int} {i2 : Int32} {qi2 : Int} (hS : Sh L xs P S) (hM : qM P S = M) (ei1 : i1.toInt = qi1) (ei2 : i2.toInt = qi2) : qs (zf_X17_failure_J55 20000 2235 i1 i2 S) (qf_X17_failure_J55 20000 qi1 qi2 M) (tO (rp L xs P M vi)) := by
  unfold zf_X17_failure_J55 qf_X17_failure_J55
  refine qs_zi hS pl_2235 ts_2235 ?_
  refine qs_bp (qz_X17_in hS hM ei1 k_1) (fun v9919 S9919 w9919 h9919 hS9919 hM9919 => ?_)
  refine qs_ite (c_eq h9919 k_0) ?_ ?_
  · exact qs_tp (show vi _ _ from k_1) hS9919 hM9919
  · exact (qz_X17_failure_J66 hS9919 hM9919 ei1 ei2)
set_option maxRecDepth 20000 in
theorem qz_X17_failure_J44 {P : Nat → Nat} {S : zm_S} {M : qm} {i1 : Int32} {qi1 : Int} {i2 : Int32} {qi2 : Int} (hS : Sh L xs P S) (hM : qM P S = M) (ei1 : i1.toInt = qi1) (ei2 : i2.toInt = qi2) : qs (zf_X17_failure_J44 20000 2235 i1 i2 S) (qf_X17_failure_J44 20000 qi1 qi2 M) (tO (rp L xs P M vi)) := by
  unfold zf_X17_failure_J44 qf_X17_failure_J44
  refine qs_ite (c_eq ei2 k_5) ?_ ?_
  · exact (qz_X17_failure_J55 hS hM ei1 ei2)
  · refine qs_ite (c_eq ei2 k_6) ?_ ?_
    · exact (qz_X17_failure_J55 hS hM ei1 ei2)
    · exact (qz_X17_failure_J66 hS hM ei1 ei2)
set_option maxRecDepth 20000 in
theorem qz_X17_failure {P : Nat → Nat} {S : zm_S} {M : qm} {i1 : Int32} {qi1 : Int} (hS : Sh L xs P S) (hM : qM P S = M) (ei1 : i1.toInt = qi1) : qs (zf_X17_failure 20000 2235 i1 S) (qf_X17_failure 20000 qi1 M) (tO (rp L xs P M vi)) := by
  unfold zf_X17_failure qf_X17_failure
  refine qs_gr hS pl_2235 ts_2235 rfl ?_
  refine qs_gd (fun g9922 => ?_)
  refine qs_xi hM (pa_p hS pl_2236 ts_2236) ei1 g9922 (fun v9921 h9921 => ?_)
  refine qs_lp (qz_X17_failure_L9 20000 hS hM ei1 h9921 k_0) ?_ ?_
  · intro v9924 S9924 w9924 h9924 hS9924 hM9924
    dsimp only
    exact qs_tp h9924 hS9924 hM9924
  · intro v9924 S9924 w9924 h9924 hS9924 hM9924
    dsimp only
    exact (qz_X17_failure_J44 hS9924 hM9924 ei1 h9921)
set_option maxRecDepth 20000 in
theorem qz_X17_kept_J56 {P : Nat → Nat} {S : zm_S} {M : qm} {i1 : Int32} {qi1 : Int} (hS : Sh L xs P S) (hM : qM P S = M) (ei1 : i1.toInt = qi1) : qs (zf_X17_kept_J56 20000 2235 i1 S) (qf_X17_kept_J56 20000 qi1 M) (tO (rr L xs P vi)) := by
  unfold zf_X17_kept_J56 qf_X17_kept_J56
  refine qs_gr hS pl_2235 ts_2235 rfl ?_
  refine qs_gd (fun g9927 => ?_)
  refine qs_xi hM (pa_p hS pl_2243 ts_2243) ei1 g9927 (fun v9926 h9926 => ?_)
  exact qs_tr (show vi _ _ from h9926) hS hM
set_option maxRecDepth 20000 in
theorem qz_X17_ramp_J55 {P : Nat → Nat} {S : zm_S} {M : qm} {i1 : Int32} {qi1 : Int} {j3 : Int64} {qj3 : Int} (hS : Sh L xs P S) (hM : qM P S = M) (ei1 : i1.toInt = qi1) (ej3 : j3.toInt = qj3) : qs (zf_X17_ramp_J55 20000 2235 i1 j3 S) (qf_X17_ramp_J55 20000 qi1 qj3 M) (tO (rp L xs P M vi)) := by
  unfold zf_X17_ramp_J55 qf_X17_ramp_J55
  refine qs_gr hS pl_2235 ts_2235 rfl ?_
  refine qs_gd (fun g9930 => ?_)
  refine qs_xi hM (pa_p hS pl_2242 ts_2242) ei1 g9930 (fun v9929 h9929 => ?_)
  exact qs_tp (show vi _ _ from (p_32 (pl_add (p_64 h9929) ej3))) hS hM
set_option maxRecDepth 20000 in
theorem qz_X17_ramp_J43 {P : Nat → Nat} {S : zm_S} {M : qm} {i1 : Int32} {qi1 : Int} {j3 : Int64} {qj3 : Int} {j5 : Int64} {qj5 : Int} (hS : Sh L xs P S) (hM : qM P S = M) (ei1 : i1.toInt = qi1) (ej3 : j3.toInt = qj3) (ej5 : j5.toInt = qj5) : qs (zf_X17_ramp_J43 20000 2235 i1 j3 j5 S) (qf_X17_ramp_J43 20000 qi1 qj3 qj5 M) (tO (rp L xs P M vi)) := by
  unfold zf_X17_ramp_J43 qf_X17_ramp_J43
  refine qs_ite (g0_le ej3 (pl_neg ej5)) ?_ ?_
  · exact (qz_X17_ramp_J55 hS hM ei1 ej3)
  · exact (qz_X17_ramp_J55 hS hM ei1 (pl_neg ej5))
set_option maxRecDepth 20000 in
theorem qz_X17_ramp_J31 {P : Nat → Nat} {S : zm_S} {M : qm} {i1 : Int32} {qi1 : Int} {j3 : Int64} {qj3 : Int} {t0 : Int64} {qt0 : Int} (hS : Sh L xs P S) (hM : qM P S = M) (ei1 : i1.toInt = qi1) (ej3 : j3.toInt = qj3) (et0 : t0.toInt = qt0) : qs (zf_X17_ramp_J31 20000 2235 i1 j3 t0 S) (qf_X17_ramp_J31 20000 qi1 qj3 qt0 M) (tO (rp L xs P M vi)) := by
  unfold zf_X17_ramp_J31 qf_X17_ramp_J31
  refine qs_ite (g_le ej3 et0) ?_ ?_
  · exact (qz_X17_ramp_J43 hS hM ei1 ej3 et0)
  · exact (qz_X17_ramp_J43 hS hM ei1 et0 et0)
set_option maxRecDepth 20000 in
theorem qz_X17_ramp {P : Nat → Nat} {S : zm_S} {M : qm} {i1 : Int32} {qi1 : Int} {i2 : Int32} {qi2 : Int} (hS : Sh L xs P S) (hM : qM P S = M) (ei1 : i1.toInt = qi1) (ei2 : i2.toInt = qi2) : qs (zf_X17_ramp 20000 2235 i1 i2 S) (qf_X17_ramp 20000 qi1 qi2 M) (tO (rp L xs P M vi)) := by
  unfold zf_X17_ramp qf_X17_ramp
  refine qs_gr hS pl_2235 ts_2235 rfl ?_
  refine qs_gd (fun g9933 => ?_)
  refine qs_xi hM (pa_p hS pl_2242 ts_2242) ei1 g9933 (fun v9932 h9932 => ?_)
  refine qs_gr hS pl_2235 ts_2235 rfl ?_
  refine qs_gd (fun g9936 => ?_)
  refine qs_xi hM (pa_p hS pl_2237 ts_2237) ei1 g9936 (fun v9935 h9935 => ?_)
  refine qs_ite (c_le k_0 h9935) ?_ ?_
  · refine qs_gr hS pl_2235 ts_2235 rfl ?_
    refine qs_gd (fun g9939 => ?_)
    refine qs_xi hM (pa_p hS pl_2237 ts_2237) ei1 g9939 (fun v9938 h9938 => ?_)
    exact (qz_X17_ramp_J31 hS hM ei1 (pl_sub (p_64 ei2) (p_64 h9932)) (p_64 h9938))
  · exact (qz_X17_ramp_J31 hS hM ei1 (pl_sub (p_64 ei2) (p_64 h9932)) kl_0)
set_option maxRecDepth 20000 in
theorem qz_X17_kept_J63 {P : Nat → Nat} {S : zm_S} {M : qm} {i1 : Int32} {qi1 : Int} {i2 : Int32} {qi2 : Int} (hS : Sh L xs P S) (hM : qM P S = M) (ei1 : i1.toInt = qi1) (ei2 : i2.toInt = qi2) : qs (zf_X17_kept_J63 20000 2235 i1 i2 S) (qf_X17_kept_J63 20000 qi1 qi2 M) (tO (rr L xs P vi)) := by
  unfold zf_X17_kept_J63 qf_X17_kept_J63
  refine qs_zi hS pl_2235 ts_2235 ?_
  refine qs_bp (qz_X17_ramp hS hM ei1 ei2) (fun v9941 S9941 w9941 h9941 hS9941 hM9941 => ?_)
  exact qs_tr (show vi _ _ from h9941) hS9941 hM9941
set_option maxRecDepth 20000 in
theorem qz_X17_count_J37 {P : Nat → Nat} {S : zm_S} {M : qm} {i1 : Int32} {qi1 : Int} {i2 : Int32} {qi2 : Int} (hS : Sh L xs P S) (hM : qM P S = M) (ei1 : i1.toInt = qi1) (ei2 : i2.toInt = qi2) : qs (zf_X17_count_J37 20000 2235 i1 i2 S) (qf_X17_count_J37 20000 qi1 qi2 M) (tO (rr L xs P vi)) := by
  unfold zf_X17_count_J37 qf_X17_count_J37
  refine qs_gr hS pl_2235 ts_2235 rfl ?_
  refine qs_gd (fun g9944 => ?_)
  refine qs_si hS hM (pa_p hS pl_2244 ts_2244) ei1 g9944 ei2 (fun S9943 M9943 hS9943 hM9943 => ?_)
  refine qs_gr hS9943 pl_2235 ts_2235 rfl ?_
  refine qs_gd (fun g9947 => ?_)
  refine qs_xi hM9943 (pa_p hS9943 pl_2243 ts_2243) ei1 g9947 (fun v9946 h9946 => ?_)
  exact qs_tr (show vi _ _ from h9946) hS9943 hM9943
set_option maxRecDepth 20000 in
theorem qz_X17_count {P : Nat → Nat} {S : zm_S} {M : qm} {i1 : Int32} {qi1 : Int} {i2 : Int32} {qi2 : Int} {i3 : Int32} {qi3 : Int} (hS : Sh L xs P S) (hM : qM P S = M) (ei1 : i1.toInt = qi1) (ei2 : i2.toInt = qi2) (ei3 : i3.toInt = qi3) : qs (zf_X17_count 20000 2235 i1 i2 i3 S) (qf_X17_count 20000 qi1 qi2 qi3 M) (tO (rr L xs P vi)) := by
  unfold zf_X17_count qf_X17_count
  refine qs_ite (c_eq ei3 k_0) ?_ ?_
  · refine qs_ite (c_eq ei2 k_0) ?_ ?_
    · exact (qz_X17_count_J37 hS hM ei1 ei2)
    · refine qs_gr hS pl_2235 ts_2235 rfl ?_
      refine qs_gd (fun g9950 => ?_)
      refine qs_xi hM (pa_p hS pl_2244 ts_2244) ei1 g9950 (fun v9949 h9949 => ?_)
      refine qs_ite (c_eq h9949 k_0) ?_ ?_
      · refine qs_gr hS pl_2235 ts_2235 rfl ?_
        refine qs_gd (fun g9953 => ?_)
        refine qs_xi hM (pa_p hS pl_2243 ts_2243) ei1 g9953 (fun v9952 h9952 => ?_)
        refine qs_gd (fun g9955 => ?_)
        refine qs_si hS hM (pa_p hS pl_2243 ts_2243) ei1 g9955 (p_add h9952 k_1) (fun S9954 M9954 hS9954 hM9954 => ?_)
        exact (qz_X17_count_J37 hS9954 hM9954 ei1 ei2)
      · exact (qz_X17_count_J37 hS hM ei1 ei2)
  · refine qs_gr hS pl_2235 ts_2235 rfl ?_
    refine qs_gd (fun g9958 => ?_)
    refine qs_si hS hM (pa_p hS pl_2243 ts_2243) ei1 g9958 k_0 (fun S9957 M9957 hS9957 hM9957 => ?_)
    exact (qz_X17_count_J37 hS9957 hM9957 ei1 ei2)
set_option maxRecDepth 20000 in
theorem qz_X17_kept_J70 {P : Nat → Nat} {S : zm_S} {M : qm} {i1 : Int32} {qi1 : Int} {i2 : Int32} {qi2 : Int} {i3 : Int32} {qi3 : Int} (hS : Sh L xs P S) (hM : qM P S = M) (ei1 : i1.toInt = qi1) (ei2 : i2.toInt = qi2) (ei3 : i3.toInt = qi3) : qs (zf_X17_kept_J70 20000 2235 i1 i2 i3 S) (qf_X17_kept_J70 20000 qi1 qi2 qi3 M) (tO (rr L xs P vi)) := by
  unfold zf_X17_kept_J70 qf_X17_kept_J70
  refine qs_zi hS pl_2235 ts_2235 ?_
  refine qs_b (qz_X17_count hS hM ei1 ei2 ei3) (fun v9960 S9960 w9960 M9960 h9960 hS9960 hM9960 => ?_)
  exact qs_tr (show vi _ _ from h9960) hS9960 hM9960
set_option maxRecDepth 20000 in
theorem qz_X17_kept_J105 {P : Nat → Nat} {S : zm_S} {M : qm} {i1 : Int32} {qi1 : Int} {t1 : Int32} {qt1 : Int} {t2 : Int32} {qt2 : Int} (hS : Sh L xs P S) (hM : qM P S = M) (ei1 : i1.toInt = qi1) (et1 : t1.toInt = qt1) (et2 : t2.toInt = qt2) : qs (zf_X17_kept_J105 20000 2235 i1 2243 t1 t2 S) (qf_X17_kept_J105 20000 qi1 qt1 qt2 M) (tO (rr L xs P vi)) := by
  unfold zf_X17_kept_J105 qf_X17_kept_J105
  refine qs_gd (fun g9962 => ?_)
  refine qs_si hS hM (pa_p hS pl_2243 ts_2243) et1 g9962 et2 (fun S9961 M9961 hS9961 hM9961 => ?_)
  refine qs_gr hS9961 pl_2235 ts_2235 rfl ?_
  refine qs_gd (fun g9965 => ?_)
  refine qs_xi hM9961 (pa_p hS9961 pl_2243 ts_2243) ei1 g9965 (fun v9964 h9964 => ?_)
  exact qs_tr (show vi _ _ from h9964) hS9961 hM9961
set_option maxRecDepth 20000 in
theorem qz_X17_kept_J78 {P : Nat → Nat} {S : zm_S} {M : qm} {i1 : Int32} {qi1 : Int} {i2 : Int32} {qi2 : Int} {i3 : Int32} {qi3 : Int} (hS : Sh L xs P S) (hM : qM P S = M) (ei1 : i1.toInt = qi1) (ei2 : i2.toInt = qi2) (ei3 : i3.toInt = qi3) : qs (zf_X17_kept_J78 20000 2235 i1 i2 i3 S) (qf_X17_kept_J78 20000 qi1 qi2 qi3 M) (tO (rr L xs P vi)) := by
  unfold zf_X17_kept_J78 qf_X17_kept_J78
  refine qs_gr hS pl_2235 ts_2235 rfl ?_
  refine qs_ite (c_eq ei2 k_0) ?_ ?_
  · refine qs_ite (c_eq ei3 k_0) ?_ ?_
    · refine qs_gr hS pl_2235 ts_2235 rfl ?_
      refine qs_gd (fun g9969 => ?_)
      refine qs_xi hM (pa_p hS pl_2243 ts_2243) ei1 g9969 (fun v9968 h9968 => ?_)
      exact (qz_X17_kept_J105 hS hM ei1 ei1 h9968)
    · exact (qz_X17_kept_J105 hS hM ei1 ei1 k_0)
  · exact (qz_X17_kept_J105 hS hM ei1 ei1 k_1)
set_option maxRecDepth 20000 in
theorem qz_X17_clock_J40 {P : Nat → Nat} {S : zm_S} {M : qm} {i1 : Int32} {qi1 : Int} {i3 : Int32} {qi3 : Int} {t0 : Int32} {qt0 : Int} (hS : Sh L xs P S) (hM : qM P S = M) (ei1 : i1.toInt = qi1) (ei3 : i3.toInt = qi3) (et0 : t0.toInt = qt0) : qs (zf_X17_clock_J40 20000 2235 i1 i3 t0 S) (qf_X17_clock_J40 20000 qi1 qi3 qt0 M) (tO (rp L xs P M vi)) := by
  unfold zf_X17_clock_J40 qf_X17_clock_J40
  refine qs_gr hS pl_2235 ts_2235 rfl ?_
  refine qs_gd (fun g9972 => ?_)
  refine qs_xi hM (pa_p hS pl_2237 ts_2237) ei1 g9972 (fun v9971 h9971 => ?_)
  refine qs_gr hS pl_2235 ts_2235 rfl ?_
  refine qs_gd (fun g9975 => ?_)
  refine qs_xi hM (pa_p hS pl_2238 ts_2238) ei1 g9975 (fun v9974 h9974 => ?_)
  refine qs_ite (c_lt h9974 h9971) ?_ ?_
  · refine qs_ite (c_eq ei3 k_0) ?_ ?_
    · refine qs_ite (c_eq et0 k_0) ?_ ?_
      · exact qs_tp (show vi _ _ from k_0) hS hM
      · exact qs_tp (show vi _ _ from k_1) hS hM
    · exact qs_tp (show vi _ _ from k_1) hS hM
  · refine qs_ite (c_eq ei3 k_0) ?_ ?_
    · exact qs_tp (show vi _ _ from k_0) hS hM
    · refine qs_ite (c_eq et0 k_0) ?_ ?_
      · exact qs_tp (show vi _ _ from k_0) hS hM
      · exact qs_tp (show vi _ _ from k_1) hS hM
set_option maxRecDepth 20000 in
theorem qz_X17_clock_J24 {P : Nat → Nat} {S : zm_S} {M : qm} {i1 : Int32} {qi1 : Int} {i2 : Int32} {qi2 : Int} {t0 : Int32} {qt0 : Int} (hS : Sh L xs P S) (hM : qM P S = M) (ei1 : i1.toInt = qi1) (ei2 : i2.toInt = qi2) (et0 : t0.toInt = qt0) : qs (zf_X17_clock_J24 20000 2235 i1 i2 t0 S) (qf_X17_clock_J24 20000 qi1 qi2 qt0 M) (tO (rp L xs P M vi)) := by
  unfold zf_X17_clock_J24 qf_X17_clock_J24
  refine qs_gr hS pl_2235 ts_2235 rfl ?_
  refine qs_gd (fun g9978 => ?_)
  refine qs_xi hM (pa_p hS pl_2238 ts_2238) ei1 g9978 (fun v9977 h9977 => ?_)
  refine qs_ite (c_le h9977 ei2) ?_ ?_
  · exact (qz_X17_clock_J40 hS hM ei1 et0 k_0)
  · exact (qz_X17_clock_J40 hS hM ei1 et0 k_1)
set_option maxRecDepth 20000 in
theorem qz_X17_clock {P : Nat → Nat} {S : zm_S} {M : qm} {i1 : Int32} {qi1 : Int} (hS : Sh L xs P S) (hM : qM P S = M) (ei1 : i1.toInt = qi1) : qs (zf_X17_clock 20000 2235 i1 S) (qf_X17_clock 20000 qi1 M) (tO (rp L xs P M vi)) := by
  unfold zf_X17_clock qf_X17_clock
  refine qs_gi hS hM pl_2235 ts_2235 (z := 14) rfl rfl (fun v9979 h9979 => ?_)
  refine qs_gr hS pl_2235 ts_2235 rfl ?_
  refine qs_gd (fun g9982 => ?_)
  refine qs_xi hM (pa_p hS pl_2237 ts_2237) ei1 g9982 (fun v9981 h9981 => ?_)
  refine qs_ite (c_lt (p_mod h9979 k_1440) h9981) ?_ ?_
  · exact (qz_X17_clock_J24 hS hM ei1 (p_mod h9979 k_1440) k_0)
  · exact (qz_X17_clock_J24 hS hM ei1 (p_mod h9979 k_1440) k_1)
set_option maxRecDepth 20000 in
theorem qz_X17_kept_J113 {P : Nat → Nat} {S : zm_S} {M : qm} {i1 : Int32} {qi1 : Int} (hS : Sh L xs P S) (hM : qM P S = M) (ei1 : i1.toInt = qi1) : qs (zf_X17_kept_J113 20000 2235 i1 S) (qf_X17_kept_J113 20000 qi1 M) (tO (rr L xs P vi)) := by
  unfold zf_X17_kept_J113 qf_X17_kept_J113
  refine qs_zi hS pl_2235 ts_2235 ?_
  refine qs_bp (qz_X17_clock hS hM ei1) (fun v9984 S9984 w9984 h9984 hS9984 hM9984 => ?_)
  exact qs_tr (show vi _ _ from h9984) hS9984 hM9984
set_option maxRecDepth 20000 in
theorem qz_X17_pulse_J25 {P : Nat → Nat} {S : zm_S} {M : qm} {i1 : Int32} {qi1 : Int} {i2 : Int32} {qi2 : Int} (hS : Sh L xs P S) (hM : qM P S = M) (ei1 : i1.toInt = qi1) (ei2 : i2.toInt = qi2) : qs (zf_X17_pulse_J25 20000 2235 i1 i2 S) (qf_X17_pulse_J25 20000 qi1 qi2 M) (tO (rr L xs P vi)) := by
  unfold zf_X17_pulse_J25 qf_X17_pulse_J25
  refine qs_gr hS pl_2235 ts_2235 rfl ?_
  refine qs_gd (fun g9987 => ?_)
  refine qs_si hS hM (pa_p hS pl_2244 ts_2244) ei1 g9987 ei2 (fun S9986 M9986 hS9986 hM9986 => ?_)
  refine qs_gr hS9986 pl_2235 ts_2235 rfl ?_
  refine qs_gd (fun g9990 => ?_)
  refine qs_xi hM9986 (pa_p hS9986 pl_2243 ts_2243) ei1 g9990 (fun v9989 h9989 => ?_)
  refine qs_ite (c_lt k_0 h9989) ?_ ?_
  · refine qs_gr hS9986 pl_2235 ts_2235 rfl ?_
    refine qs_gd (fun g9993 => ?_)
    refine qs_xi hM9986 (pa_p hS9986 pl_2243 ts_2243) ei1 g9993 (fun v9992 h9992 => ?_)
    refine qs_gd (fun g9995 => ?_)
    refine qs_si hS9986 hM9986 (pa_p hS9986 pl_2243 ts_2243) ei1 g9995 (p_sub h9992 k_1) (fun S9994 M9994 hS9994 hM9994 => ?_)
    exact qs_tr (show vi _ _ from k_1) hS9994 hM9994
  · exact qs_tr (show vi _ _ from k_0) hS9986 hM9986
set_option maxRecDepth 20000 in
theorem qz_X17_pulse {P : Nat → Nat} {S : zm_S} {M : qm} {i1 : Int32} {qi1 : Int} {i2 : Int32} {qi2 : Int} (hS : Sh L xs P S) (hM : qM P S = M) (ei1 : i1.toInt = qi1) (ei2 : i2.toInt = qi2) : qs (zf_X17_pulse 20000 2235 i1 i2 S) (qf_X17_pulse 20000 qi1 qi2 M) (tO (rr L xs P vi)) := by
  unfold zf_X17_pulse qf_X17_pulse
  refine qs_ite (c_eq ei2 k_0) ?_ ?_
  · exact (qz_X17_pulse_J25 hS hM ei1 ei2)
  · refine qs_gr hS pl_2235 ts_2235 rfl ?_
    refine qs_gd (fun g9998 => ?_)
    refine qs_xi hM (pa_p hS pl_2244 ts_2244) ei1 g9998 (fun v9997 h9997 => ?_)
    refine qs_ite (c_eq h9997 k_0) ?_ ?_
    · refine qs_gr hS pl_2235 ts_2235 rfl ?_
      refine qs_gr hS pl_2235 ts_2235 rfl ?_
      refine qs_gd (fun g10002 => ?_)
      refine qs_xi hM (pa_p hS pl_2237 ts_2237) ei1 g10002 (fun v10001 h10001 => ?_)
      refine qs_gd (fun g10004 => ?_)
      refine qs_si hS hM (pa_p hS pl_2243 ts_2243) ei1 g10004 h10001 (fun S10003 M10003 hS10003 hM10003 => ?_)
      exact (qz_X17_pulse_J25 hS10003 hM10003 ei1 ei2)
    · exact (qz_X17_pulse_J25 hS hM ei1 ei2)
set_option maxRecDepth 20000 in
theorem qz_X17_kept_J119 {P : Nat → Nat} {S : zm_S} {M : qm} {i1 : Int32} {qi1 : Int} {i2 : Int32} {qi2 : Int} (hS : Sh L xs P S) (hM : qM P S = M) (ei1 : i1.toInt = qi1) (ei2 : i2.toInt = qi2) : qs (zf_X17_kept_J119 20000 2235 i1 i2 S) (qf_X17_kept_J119 20000 qi1 qi2 M) (tO (rr L xs P vi)) := by
  unfold zf_X17_kept_J119 qf_X17_kept_J119
  refine qs_zi hS pl_2235 ts_2235 ?_
  refine qs_b (qz_X17_pulse hS hM ei1 ei2) (fun v10006 S10006 w10006 M10006 h10006 hS10006 hM10006 => ?_)
  exact qs_tr (show vi _ _ from h10006) hS10006 hM10006
set_option maxRecDepth 20000 in
theorem qz_X17_kept_J126 {P : Nat → Nat} {S : zm_S} {M : qm} {i1 : Int32} {qi1 : Int} {i2 : Int32} {qi2 : Int} (hS : Sh L xs P S) (hM : qM P S = M) (ei1 : i1.toInt = qi1) (ei2 : i2.toInt = qi2) : qs (zf_X17_kept_J126 20000 2235 i1 i2 S) (qf_X17_kept_J126 20000 qi1 qi2 M) (tO (rr L xs P vi)) := by
  unfold zf_X17_kept_J126 qf_X17_kept_J126
  refine qs_gr hS pl_2235 ts_2235 rfl ?_
  refine qs_gd (fun g10009 => ?_)
  refine qs_xi hM (pa_p hS pl_2237 ts_2237) ei1 g10009 (fun v10008 h10008 => ?_)
  refine qs_ite (c_le h10008 ei2) ?_ ?_
  · refine qs_gr hS pl_2235 ts_2235 rfl ?_
    refine qs_gd (fun g10012 => ?_)
    refine qs_xi hM (pa_p hS pl_2238 ts_2238) ei1 g10012 (fun v10011 h10011 => ?_)
    refine qs_ite (c_le ei2 h10011) ?_ ?_
    · exact qs_tr (show vi _ _ from ei2) hS hM
    · refine qs_gr hS pl_2235 ts_2235 rfl ?_
      refine qs_gd (fun g10015 => ?_)
      refine qs_xi hM (pa_p hS pl_2238 ts_2238) ei1 g10015 (fun v10014 h10014 => ?_)
      exact qs_tr (show vi _ _ from h10014) hS hM
  · refine qs_gr hS pl_2235 ts_2235 rfl ?_
    refine qs_gd (fun g10018 => ?_)
    refine qs_xi hM (pa_p hS pl_2237 ts_2237) ei1 g10018 (fun v10017 h10017 => ?_)
    exact qs_tr (show vi _ _ from h10017) hS hM
set_option maxRecDepth 20000 in
theorem qz_X17_kept_J166 {P : Nat → Nat} {S : zm_S} {M : qm} {i1 : Int32} {qi1 : Int} {i2 : Int32} {qi2 : Int} {i3 : Int32} {qi3 : Int} (hS : Sh L xs P S) (hM : qM P S = M) (ei1 : i1.toInt = qi1) (ei2 : i2.toInt = qi2) (ei3 : i3.toInt = qi3) : qs (zf_X17_kept_J166 20000 2235 i1 i2 i3 S) (qf_X17_kept_J166 20000 qi1 qi2 qi3 M) (tO (rr L xs P vi)) := by
  unfold zf_X17_kept_J166 qf_X17_kept_J166
  refine qs_ite (c_eq ei3 k_0) ?_ ?_
  · exact qs_tr (show vi _ _ from ei2) hS hM
  · refine qs_gr hS pl_2235 ts_2235 rfl ?_
    refine qs_gd (fun g10021 => ?_)
    refine qs_xi hM (pa_p hS pl_2242 ts_2242) ei1 g10021 (fun v10020 h10020 => ?_)
    exact qs_tr (show vi _ _ from h10020) hS hM
set_option maxRecDepth 20000 in
theorem qz_X17_kept_J202 {P : Nat → Nat} {S : zm_S} {M : qm} {i1 : Int32} {qi1 : Int} {t1 : Int32} {qt1 : Int} {t2 : Int32} {qt2 : Int} (hS : Sh L xs P S) (hM : qM P S = M) (ei1 : i1.toInt = qi1) (et1 : t1.toInt = qt1) (et2 : t2.toInt = qt2) : qs (zf_X17_kept_J202 20000 2235 i1 2243 t1 t2 S) (qf_X17_kept_J202 20000 qi1 qt1 qt2 M) (tO (rr L xs P vi)) := by
  unfold zf_X17_kept_J202 qf_X17_kept_J202
  refine qs_gd (fun g10023 => ?_)
  refine qs_si hS hM (pa_p hS pl_2243 ts_2243) et1 g10023 et2 (fun S10022 M10022 hS10022 hM10022 => ?_)
  refine qs_gr hS10022 pl_2235 ts_2235 rfl ?_
  refine qs_gd (fun g10026 => ?_)
  refine qs_xi hM10022 (pa_p hS10022 pl_2243 ts_2243) ei1 g10026 (fun v10025 h10025 => ?_)
  exact qs_tr (show vi _ _ from h10025) hS10022 hM10022
set_option maxRecDepth 20000 in
theorem qz_X17_kept_J181 {P : Nat → Nat} {S : zm_S} {M : qm} {i1 : Int32} {qi1 : Int} {i2 : Int32} {qi2 : Int} {i3 : Int32} {qi3 : Int} (hS : Sh L xs P S) (hM : qM P S = M) (ei1 : i1.toInt = qi1) (ei2 : i2.toInt = qi2) (ei3 : i3.toInt = qi3) : qs (zf_X17_kept_J181 20000 2235 i1 i2 i3 S) (qf_X17_kept_J181 20000 qi1 qi2 qi3 M) (tO (rr L xs P vi)) := by
  unfold zf_X17_kept_J181 qf_X17_kept_J181
  refine qs_gr hS pl_2235 ts_2235 rfl ?_
  refine qs_ite (c_eq ei3 k_0) ?_ ?_
  · refine qs_gr hS pl_2235 ts_2235 rfl ?_
    refine qs_gd (fun g10030 => ?_)
    refine qs_xi hM (pa_p hS pl_2243 ts_2243) ei1 g10030 (fun v10029 h10029 => ?_)
    exact (qz_X17_kept_J202 hS hM ei1 ei1 (p_add h10029 ei2))
  · exact (qz_X17_kept_J202 hS hM ei1 ei1 k_0)
set_option maxRecDepth 20000 in
theorem qz_X17_kept_J255 {P : Nat → Nat} {S : zm_S} {M : qm} {i1 : Int32} {qi1 : Int} {t1 : Int32} {qt1 : Int} {t2 : Int32} {qt2 : Int} (hS : Sh L xs P S) (hM : qM P S = M) (ei1 : i1.toInt = qi1) (et1 : t1.toInt = qt1) (et2 : t2.toInt = qt2) : qs (zf_X17_kept_J255 20000 2235 i1 2243 t1 t2 S) (qf_X17_kept_J255 20000 qi1 qt1 qt2 M) (tO (rr L xs P vi)) := by
  unfold zf_X17_kept_J255 qf_X17_kept_J255
  refine qs_gd (fun g10032 => ?_)
  refine qs_si hS hM (pa_p hS pl_2243 ts_2243) et1 g10032 et2 (fun S10031 M10031 hS10031 hM10031 => ?_)
  refine qs_gr hS10031 pl_2235 ts_2235 rfl ?_
  refine qs_gd (fun g10035 => ?_)
  refine qs_xi hM10031 (pa_p hS10031 pl_2243 ts_2243) ei1 g10035 (fun v10034 h10034 => ?_)
  exact qs_tr (show vi _ _ from h10034) hS10031 hM10031
set_option maxRecDepth 20000 in
theorem qz_X17_kept_J226 {P : Nat → Nat} {S : zm_S} {M : qm} {i1 : Int32} {qi1 : Int} {t0 : Int32} {qt0 : Int} (hS : Sh L xs P S) (hM : qM P S = M) (ei1 : i1.toInt = qi1) (et0 : t0.toInt = qt0) : qs (zf_X17_kept_J226 20000 2235 i1 t0 S) (qf_X17_kept_J226 20000 qi1 qt0 M) (tO (rr L xs P vi)) := by
  unfold zf_X17_kept_J226 qf_X17_kept_J226
  refine qs_gr hS pl_2235 ts_2235 rfl ?_
  refine qs_gr hS pl_2235 ts_2235 rfl ?_
  refine qs_gd (fun g10039 => ?_)
  refine qs_xi hM (pa_p hS pl_2237 ts_2237) ei1 g10039 (fun v10038 h10038 => ?_)
  refine qs_ite (c_le h10038 et0) ?_ ?_
  · refine qs_gr hS pl_2235 ts_2235 rfl ?_
    refine qs_gd (fun g10042 => ?_)
    refine qs_xi hM (pa_p hS pl_2237 ts_2237) ei1 g10042 (fun v10041 h10041 => ?_)
    exact (qz_X17_kept_J255 hS hM ei1 ei1 h10041)
  · exact (qz_X17_kept_J255 hS hM ei1 ei1 et0)
set_option maxRecDepth 20000 in
theorem qz_X17_kept_J210 {P : Nat → Nat} {S : zm_S} {M : qm} {i1 : Int32} {qi1 : Int} {i2 : Int32} {qi2 : Int} (hS : Sh L xs P S) (hM : qM P S = M) (ei1 : i1.toInt = qi1) (ei2 : i2.toInt = qi2) : qs (zf_X17_kept_J210 20000 2235 i1 i2 S) (qf_X17_kept_J210 20000 qi1 qi2 M) (tO (rr L xs P vi)) := by
  unfold zf_X17_kept_J210 qf_X17_kept_J210
  refine qs_ite (c_eq ei2 k_0) ?_ ?_
  · exact (qz_X17_kept_J226 hS hM ei1 k_0)
  · refine qs_gr hS pl_2235 ts_2235 rfl ?_
    refine qs_gd (fun g10045 => ?_)
    refine qs_xi hM (pa_p hS pl_2243 ts_2243) ei1 g10045 (fun v10044 h10044 => ?_)
    exact (qz_X17_kept_J226 hS hM ei1 (p_add h10044 k_1))
set_option maxRecDepth 20000 in
theorem qz_X17_kept {P : Nat → Nat} {S : zm_S} {M : qm} {i1 : Int32} {qi1 : Int} {i2 : Int32} {qi2 : Int} {i3 : Int32} {qi3 : Int} (hS : Sh L xs P S) (hM : qM P S = M) (ei1 : i1.toInt = qi1) (ei2 : i2.toInt = qi2) (ei3 : i3.toInt = qi3) : qs (zf_X17_kept 20000 2235 i1 i2 i3 S) (qf_X17_kept 20000 qi1 qi2 qi3 M) (tO (rr L xs P vi)) := by
  unfold zf_X17_kept qf_X17_kept
  refine qs_gr hS pl_2235 ts_2235 rfl ?_
  refine qs_gd (fun g10048 => ?_)
  refine qs_xi hM (pa_p hS pl_2236 ts_2236) ei1 g10048 (fun v10047 h10047 => ?_)
  refine qs_ite (z_eq h10047) ?_ ?_
  · exact (qz_X17_kept_J56 hS hM ei1)
  · refine qs_ite (z_eq h10047) ?_ ?_
    · exact (qz_X17_kept_J63 hS hM ei1 ei2)
    · refine qs_ite (z_eq h10047) ?_ ?_
      · exact (qz_X17_kept_J70 hS hM ei1 ei2 ei3)
      · refine qs_ite (z_eq h10047) ?_ ?_
        · exact (qz_X17_kept_J78 hS hM ei1 ei2 ei3)
        · refine qs_ite (z_eq h10047) ?_ ?_
          · exact (qz_X17_kept_J113 hS hM ei1)
          · refine qs_ite (z_eq h10047) ?_ ?_
            · exact (qz_X17_kept_J119 hS hM ei1 ei2)
            · refine qs_ite (z_eq h10047) ?_ ?_
              · exact (qz_X17_kept_J126 hS hM ei1 ei2)
              · refine qs_ite (z_eq h10047) ?_ ?_
                · exact (qz_X17_kept_J166 hS hM ei1 ei2 ei3)
                · refine qs_ite (z_eq h10047) ?_ ?_
                  · exact (qz_X17_kept_J181 hS hM ei1 ei2 ei3)
                  · exact (qz_X17_kept_J210 hS hM ei1 ei2)
set_option maxRecDepth 20000 in
theorem qz_X17_reckon_J115 {P : Nat → Nat} {S : zm_S} {M : qm} {i1 : Int32} {qi1 : Int} (hS : Sh L xs P S) (hM : qM P S = M) (ei1 : i1.toInt = qi1) : qs (zf_X17_reckon_J115 20000 2235 i1 S) (qf_X17_reckon_J115 20000 qi1 M) (tO (rr L xs P vu)) := by
  unfold zf_X17_reckon_J115 qf_X17_reckon_J115
  refine qs_gr hS pl_2235 ts_2235 rfl ?_
  refine qs_gr hS pl_2235 ts_2235 rfl ?_
  refine qs_gd (fun g10052 => ?_)
  refine qs_xi hM (pa_p hS pl_2245 ts_2245) ei1 g10052 (fun v10051 h10051 => ?_)
  refine qs_ite (c_eq h10051 k_0) ?_ ?_
  · refine qs_gr hS pl_2235 ts_2235 rfl ?_
    refine qs_gd (fun g10055 => ?_)
    refine qs_xi hM (pa_p hS pl_2242 ts_2242) ei1 g10055 (fun v10054 h10054 => ?_)
    refine qs_gd (fun g10057 => ?_)
    refine qs_si hS hM (pa_p hS pl_2242 ts_2242) ei1 g10057 h10054 (fun S10056 M10056 hS10056 hM10056 => ?_)
    exact qs_tr (show vu _ _ from trivial) hS10056 hM10056
  · refine qs_gr hS pl_2235 ts_2235 rfl ?_
    refine qs_gd (fun g10060 => ?_)
    refine qs_xi hM (pa_p hS pl_2246 ts_2246) ei1 g10060 (fun v10059 h10059 => ?_)
    refine qs_gd (fun g10062 => ?_)
    refine qs_si hS hM (pa_p hS pl_2242 ts_2242) ei1 g10062 h10059 (fun S10061 M10061 hS10061 hM10061 => ?_)
    exact qs_tr (show vu _ _ from trivial) hS10061 hM10061
set_option maxRecDepth 20000 in
theorem qz_X17_reckon_J114 {P : Nat → Nat} {S : zm_S} {M : qm} {i1 : Int32} {qi1 : Int} {t1 : Int32} {qt1 : Int} {t2 : Int32} {qt2 : Int} (hS : Sh L xs P S) (hM : qM P S = M) (ei1 : i1.toInt = qi1) (et1 : t1.toInt = qt1) (et2 : t2.toInt = qt2) : qs (zf_X17_reckon_J114 20000 2235 i1 2242 t1 t2 S) (qf_X17_reckon_J114 20000 qi1 qt1 qt2 M) (tO (rr L xs P vu)) := by
  unfold zf_X17_reckon_J114 qf_X17_reckon_J114
  refine qs_gd (fun g10064 => ?_)
  refine qs_si hS hM (pa_p hS pl_2242 ts_2242) et1 g10064 et2 (fun S10063 M10063 hS10063 hM10063 => ?_)
  exact (qz_X17_reckon_J115 hS10063 hM10063 ei1)
set_option maxRecDepth 20000 in
theorem qz_X17_plain_J80 {P : Nat → Nat} {S : zm_S} {M : qm} {i1 : Int32} {qi1 : Int} (hS : Sh L xs P S) (hM : qM P S = M) (ei1 : i1.toInt = qi1) : qs (zf_X17_plain_J80 20000 2235 i1 S) (qf_X17_plain_J80 20000 qi1 M) (tO (rp L xs P M vi)) := by
  unfold zf_X17_plain_J80 qf_X17_plain_J80
  refine qs_gr hS pl_2235 ts_2235 rfl ?_
  refine qs_gr hS pl_2235 ts_2235 rfl ?_
  refine qs_gd (fun g10068 => ?_)
  refine qs_xi hM (pa_p hS pl_2237 ts_2237) ei1 g10068 (fun v10067 h10067 => ?_)
  refine qs_gd (fun g10070 => ?_)
  refine qs_xi hM (pa_p hS pl_2247 ts_2247) h10067 g10070 (fun v10069 h10069 => ?_)
  exact qs_tp (show vi _ _ from h10069) hS hM
set_option maxRecDepth 20000 in
theorem qz_X17_plain_J92 {P : Nat → Nat} {S : zm_S} {M : qm} {i1 : Int32} {qi1 : Int} (hS : Sh L xs P S) (hM : qM P S = M) (ei1 : i1.toInt = qi1) : qs (zf_X17_plain_J92 20000 2235 i1 S) (qf_X17_plain_J92 20000 qi1 M) (tO (rp L xs P M vi)) := by
  unfold zf_X17_plain_J92 qf_X17_plain_J92
  refine qs_gr hS pl_2235 ts_2235 rfl ?_
  refine qs_gd (fun g10073 => ?_)
  refine qs_xi hM (pa_p hS pl_2237 ts_2237) ei1 g10073 (fun v10072 h10072 => ?_)
  exact qs_tp (show vi _ _ from h10072) hS hM
set_option maxRecDepth 20000 in
theorem qz_X17_plain_J99 {P : Nat → Nat} {S : zm_S} {M : qm} {i2 : Int32} {qi2 : Int} {i3 : Int32} {qi3 : Int} (hS : Sh L xs P S) (hM : qM P S = M) (ei2 : i2.toInt = qi2) (ei3 : i3.toInt = qi3) : qs (zf_X17_plain_J99 20000 i2 i3 S) (qf_X17_plain_J99 20000 qi2 qi3 M) (tO (rp L xs P M vi)) := by
  unfold zf_X17_plain_J99 qf_X17_plain_J99
  exact qs_tp (show vi _ _ from (p_add ei2 ei3)) hS hM
set_option maxRecDepth 20000 in
theorem qz_X17_plain_J103 {P : Nat → Nat} {S : zm_S} {M : qm} {i2 : Int32} {qi2 : Int} {i3 : Int32} {qi3 : Int} (hS : Sh L xs P S) (hM : qM P S = M) (ei2 : i2.toInt = qi2) (ei3 : i3.toInt = qi3) : qs (zf_X17_plain_J103 20000 i2 i3 S) (qf_X17_plain_J103 20000 qi2 qi3 M) (tO (rp L xs P M vi)) := by
  unfold zf_X17_plain_J103 qf_X17_plain_J103
  exact qs_tp (show vi _ _ from (p_sub ei2 ei3)) hS hM
set_option maxRecDepth 20000 in
theorem qz_X17_plain_J107 {P : Nat → Nat} {S : zm_S} {M : qm} {i2 : Int32} {qi2 : Int} {i3 : Int32} {qi3 : Int} (hS : Sh L xs P S) (hM : qM P S = M) (ei2 : i2.toInt = qi2) (ei3 : i3.toInt = qi3) : qs (zf_X17_plain_J107 20000 i2 i3 S) (qf_X17_plain_J107 20000 qi2 qi3 M) (tO (rp L xs P M vi)) := by
  unfold zf_X17_plain_J107 qf_X17_plain_J107
  exact qs_tp (show vi _ _ from (p_mul ei2 ei3)) hS hM
set_option maxRecDepth 20000 in
theorem qz_X17_plain_J111 {P : Nat → Nat} {S : zm_S} {M : qm} {i2 : Int32} {qi2 : Int} {i3 : Int32} {qi3 : Int} (hS : Sh L xs P S) (hM : qM P S = M) (ei2 : i2.toInt = qi2) (ei3 : i3.toInt = qi3) : qs (zf_X17_plain_J111 20000 i2 i3 S) (qf_X17_plain_J111 20000 qi2 qi3 M) (tO (rp L xs P M vi)) := by
  unfold zf_X17_plain_J111 qf_X17_plain_J111
  refine qs_ite (c_eq ei3 k_0) ?_ ?_
  · exact qs_none
  · exact qs_tp (show vi _ _ from (p_divw ei2 ei3)) hS hM
set_option maxRecDepth 20000 in
theorem qz_X17_plain_J115 {P : Nat → Nat} {S : zm_S} {M : qm} {i2 : Int32} {qi2 : Int} {i3 : Int32} {qi3 : Int} (hS : Sh L xs P S) (hM : qM P S = M) (ei2 : i2.toInt = qi2) (ei3 : i3.toInt = qi3) : qs (zf_X17_plain_J115 20000 i2 i3 S) (qf_X17_plain_J115 20000 qi2 qi3 M) (tO (rp L xs P M vi)) := by
  unfold zf_X17_plain_J115 qf_X17_plain_J115
  refine qs_ite (c_eq ei3 k_0) ?_ ?_
  · exact qs_none
  · exact qs_tp (show vi _ _ from (p_sub ei2 (p_mul ei3 (p_divw ei2 ei3)))) hS hM
set_option maxRecDepth 20000 in
theorem qz_X17_plain_J123 {P : Nat → Nat} {S : zm_S} {M : qm} {i2 : Int32} {qi2 : Int} {i3 : Int32} {qi3 : Int} (hS : Sh L xs P S) (hM : qM P S = M) (ei2 : i2.toInt = qi2) (ei3 : i3.toInt = qi3) : qs (zf_X17_plain_J123 20000 i2 i3 S) (qf_X17_plain_J123 20000 qi2 qi3 M) (tO (rp L xs P M vi)) := by
  unfold zf_X17_plain_J123 qf_X17_plain_J123
  refine qs_ite (c_le ei3 ei2) ?_ ?_
  · exact qs_tp (show vi _ _ from ei3) hS hM
  · exact qs_tp (show vi _ _ from ei2) hS hM
set_option maxRecDepth 20000 in
theorem qz_X17_plain_J134 {P : Nat → Nat} {S : zm_S} {M : qm} {i2 : Int32} {qi2 : Int} {i3 : Int32} {qi3 : Int} (hS : Sh L xs P S) (hM : qM P S = M) (ei2 : i2.toInt = qi2) (ei3 : i3.toInt = qi3) : qs (zf_X17_plain_J134 20000 i2 i3 S) (qf_X17_plain_J134 20000 qi2 qi3 M) (tO (rp L xs P M vi)) := by
  unfold zf_X17_plain_J134 qf_X17_plain_J134
  refine qs_ite (c_le ei2 ei3) ?_ ?_
  · exact qs_tp (show vi _ _ from ei3) hS hM
  · exact qs_tp (show vi _ _ from ei2) hS hM
set_option maxRecDepth 20000 in
theorem qz_X17_plain_J145 {P : Nat → Nat} {S : zm_S} {M : qm} {i2 : Int32} {qi2 : Int} {i3 : Int32} {qi3 : Int} (hS : Sh L xs P S) (hM : qM P S = M) (ei2 : i2.toInt = qi2) (ei3 : i3.toInt = qi3) : qs (zf_X17_plain_J145 20000 i2 i3 S) (qf_X17_plain_J145 20000 qi2 qi3 M) (tO (rp L xs P M vi)) := by
  unfold zf_X17_plain_J145 qf_X17_plain_J145
  refine qs_ite (c_le ei3 ei2) ?_ ?_
  · exact qs_tp (show vi _ _ from k_0) hS hM
  · exact qs_tp (show vi _ _ from k_1) hS hM
set_option maxRecDepth 20000 in
theorem qz_X17_plain_J156 {P : Nat → Nat} {S : zm_S} {M : qm} {i2 : Int32} {qi2 : Int} {i3 : Int32} {qi3 : Int} (hS : Sh L xs P S) (hM : qM P S = M) (ei2 : i2.toInt = qi2) (ei3 : i3.toInt = qi3) : qs (zf_X17_plain_J156 20000 i2 i3 S) (qf_X17_plain_J156 20000 qi2 qi3 M) (tO (rp L xs P M vi)) := by
  unfold zf_X17_plain_J156 qf_X17_plain_J156
  refine qs_ite (c_eq ei2 ei3) ?_ ?_
  · exact qs_tp (show vi _ _ from k_1) hS hM
  · exact qs_tp (show vi _ _ from k_0) hS hM
set_option maxRecDepth 20000 in
theorem qz_X17_plain_J167 {P : Nat → Nat} {S : zm_S} {M : qm} {i2 : Int32} {qi2 : Int} {i3 : Int32} {qi3 : Int} (hS : Sh L xs P S) (hM : qM P S = M) (ei2 : i2.toInt = qi2) (ei3 : i3.toInt = qi3) : qs (zf_X17_plain_J167 20000 i2 i3 S) (qf_X17_plain_J167 20000 qi2 qi3 M) (tO (rp L xs P M vi)) := by
  unfold zf_X17_plain_J167 qf_X17_plain_J167
  refine qs_ite (c_eq ei2 k_0) ?_ ?_
  · exact qs_tp (show vi _ _ from k_0) hS hM
  · refine qs_ite (c_eq ei3 k_0) ?_ ?_
    · exact qs_tp (show vi _ _ from k_0) hS hM
    · exact qs_tp (show vi _ _ from k_1) hS hM
set_option maxRecDepth 20000 in
theorem qz_X17_plain_J181 {P : Nat → Nat} {S : zm_S} {M : qm} {i2 : Int32} {qi2 : Int} {i3 : Int32} {qi3 : Int} (hS : Sh L xs P S) (hM : qM P S = M) (ei2 : i2.toInt = qi2) (ei3 : i3.toInt = qi3) : qs (zf_X17_plain_J181 20000 i2 i3 S) (qf_X17_plain_J181 20000 qi2 qi3 M) (tO (rp L xs P M vi)) := by
  unfold zf_X17_plain_J181 qf_X17_plain_J181
  refine qs_ite (c_eq ei2 k_0) ?_ ?_
  · refine qs_ite (c_eq ei3 k_0) ?_ ?_
    · exact qs_tp (show vi _ _ from k_0) hS hM
    · exact qs_tp (show vi _ _ from k_1) hS hM
  · exact qs_tp (show vi _ _ from k_1) hS hM
set_option maxRecDepth 20000 in
theorem qz_X17_plain_J195 {P : Nat → Nat} {S : zm_S} {M : qm} {i2 : Int32} {qi2 : Int} (hS : Sh L xs P S) (hM : qM P S = M) (ei2 : i2.toInt = qi2) : qs (zf_X17_plain_J195 20000 i2 S) (qf_X17_plain_J195 20000 qi2 M) (tO (rp L xs P M vi)) := by
  unfold zf_X17_plain_J195 qf_X17_plain_J195
  refine qs_ite (c_eq ei2 k_0) ?_ ?_
  · exact qs_tp (show vi _ _ from k_1) hS hM
  · exact qs_tp (show vi _ _ from k_0) hS hM
set_option maxRecDepth 20000 in
theorem qz_X17_plain_J205 {P : Nat → Nat} {S : zm_S} {M : qm} {i1 : Int32} {qi1 : Int} {i2 : Int32} {qi2 : Int} {i3 : Int32} {qi3 : Int} (hS : Sh L xs P S) (hM : qM P S = M) (ei1 : i1.toInt = qi1) (ei2 : i2.toInt = qi2) (ei3 : i3.toInt = qi3) : qs (zf_X17_plain_J205 20000 2235 i1 i2 i3 S) (qf_X17_plain_J205 20000 qi1 qi2 qi3 M) (tO (rp L xs P M vi)) := by
  unfold zf_X17_plain_J205 qf_X17_plain_J205
  refine qs_ite (c_eq ei2 k_0) ?_ ?_
  · refine qs_zi hS pl_2235 ts_2235 ?_
    refine qs_bp (qz_X17_in hS hM ei1 k_2) (fun v10075 S10075 w10075 h10075 hS10075 hM10075 => ?_)
    exact qs_tp (show vi _ _ from h10075) hS10075 hM10075
  · exact qs_tp (show vi _ _ from ei3) hS hM
set_option maxRecDepth 20000 in
theorem qz_X17_plain_J220 {P : Nat → Nat} {S : zm_S} {M : qm} {i1 : Int32} {qi1 : Int} {i2 : Int32} {qi2 : Int} (hS : Sh L xs P S) (hM : qM P S = M) (ei1 : i1.toInt = qi1) (ei2 : i2.toInt = qi2) : qs (zf_X17_plain_J220 20000 2235 i1 i2 S) (qf_X17_plain_J220 20000 qi1 qi2 M) (tO (rp L xs P M vi)) := by
  unfold zf_X17_plain_J220 qf_X17_plain_J220
  refine qs_gr hS pl_2235 ts_2235 rfl ?_
  refine qs_gd (fun g10078 => ?_)
  refine qs_xi hM (pa_p hS pl_2241 ts_2241) (p_add (p_mul k_8 ei1) ei2) g10078 (fun v10077 h10077 => ?_)
  exact qs_tp (show vi _ _ from h10077) hS hM
set_option maxRecDepth 20000 in
theorem qz_X17_plain {P : Nat → Nat} {S : zm_S} {M : qm} {i1 : Int32} {qi1 : Int} {i2 : Int32} {qi2 : Int} {i3 : Int32} {qi3 : Int} (hS : Sh L xs P S) (hM : qM P S = M) (ei1 : i1.toInt = qi1) (ei2 : i2.toInt = qi2) (ei3 : i3.toInt = qi3) : qs (zf_X17_plain 20000 2235 i1 i2 i3 S) (qf_X17_plain 20000 qi1 qi2 qi3 M) (tO (rp L xs P M vi)) := by
  unfold zf_X17_plain qf_X17_plain
  refine qs_gr hS pl_2235 ts_2235 rfl ?_
  refine qs_gd (fun g10081 => ?_)
  refine qs_xi hM (pa_p hS pl_2236 ts_2236) ei1 g10081 (fun v10080 h10080 => ?_)
  refine qs_ite (z_eq h10080) ?_ ?_
  · exact (qz_X17_plain_J80 hS hM ei1)
  · refine qs_ite (z_eq h10080) ?_ ?_
    · exact (qz_X17_plain_J92 hS hM ei1)
    · refine qs_ite (z_eq h10080) ?_ ?_
      · exact (qz_X17_plain_J99 hS hM ei2 ei3)
      · refine qs_ite (z_eq h10080) ?_ ?_
        · exact (qz_X17_plain_J103 hS hM ei2 ei3)
        · refine qs_ite (z_eq h10080) ?_ ?_
          · exact (qz_X17_plain_J107 hS hM ei2 ei3)
          · refine qs_ite (z_eq h10080) ?_ ?_
            · exact (qz_X17_plain_J111 hS hM ei2 ei3)
            · refine qs_ite (z_eq h10080) ?_ ?_
              · exact (qz_X17_plain_J115 hS hM ei2 ei3)
              · refine qs_ite (z_eq h10080) ?_ ?_
                · exact (qz_X17_plain_J123 hS hM ei2 ei3)
                · refine qs_ite (z_eq h10080) ?_ ?_
                  · exact (qz_X17_plain_J134 hS hM ei2 ei3)
                  · refine qs_ite (z_eq h10080) ?_ ?_
                    · exact (qz_X17_plain_J145 hS hM ei2 ei3)
                    · refine qs_ite (z_eq h10080) ?_ ?_
                      · exact (qz_X17_plain_J156 hS hM ei2 ei3)
                      · refine qs_ite (z_eq h10080) ?_ ?_
                        · exact (qz_X17_plain_J167 hS hM ei2 ei3)
                        · refine qs_ite (z_eq h10080) ?_ ?_
                          · exact (qz_X17_plain_J181 hS hM ei2 ei3)
                          · refine qs_ite (z_eq h10080) ?_ ?_
                            · exact (qz_X17_plain_J195 hS hM ei2)
                            · refine qs_ite (z_eq h10080) ?_ ?_
                              · exact (qz_X17_plain_J205 hS hM ei1 ei2 ei3)
                              · exact (qz_X17_plain_J220 hS hM ei1 ei2)
set_option maxRecDepth 20000 in
theorem qz_X17_reckon_J75 {P : Nat → Nat} {S : zm_S} {M : qm} {i1 : Int32} {qi1 : Int} {i4 : Int32} {qi4 : Int} {t0 : Int32} {qt0 : Int} (hS : Sh L xs P S) (hM : qM P S = M) (ei1 : i1.toInt = qi1) (ei4 : i4.toInt = qi4) (et0 : t0.toInt = qt0) : qs (zf_X17_reckon_J75 20000 2235 i1 i4 t0 S) (qf_X17_reckon_J75 20000 qi1 qi4 qt0 M) (tO (rr L xs P vu)) := by
  unfold zf_X17_reckon_J75 qf_X17_reckon_J75
  refine qs_gr hS pl_2235 ts_2235 rfl ?_
  refine qs_gr hS pl_2235 ts_2235 rfl ?_
  refine qs_gd (fun g10085 => ?_)
  refine qs_xi hM (pa_p hS pl_2236 ts_2236) ei1 g10085 (fun v10084 h10084 => ?_)
  refine qs_ite (c_le k_16 h10084) ?_ ?_
  · refine qs_zi hS pl_2235 ts_2235 ?_
    refine qs_b (qz_X17_kept hS hM ei1 ei4 et0) (fun v10087 S10087 w10087 M10087 h10087 hS10087 hM10087 => ?_)
    exact (qz_X17_reckon_J114 hS10087 hM10087 ei1 ei1 h10087)
  · refine qs_zi hS pl_2235 ts_2235 ?_
    refine qs_bp (qz_X17_plain hS hM ei1 ei4 et0) (fun v10089 S10089 w10089 h10089 hS10089 hM10089 => ?_)
    exact (qz_X17_reckon_J114 hS10089 hM10089 ei1 ei1 h10089)
set_option maxRecDepth 20000 in
theorem qz_X17_reckon_J58 {P : Nat → Nat} {S : zm_S} {M : qm} {i1 : Int32} {qi1 : Int} {i3 : Int32} {qi3 : Int} {t0 : Int32} {qt0 : Int} (hS : Sh L xs P S) (hM : qM P S = M) (ei1 : i1.toInt = qi1) (ei3 : i3.toInt = qi3) (et0 : t0.toInt = qt0) : qs (zf_X17_reckon_J58 20000 2235 i1 i3 t0 S) (qf_X17_reckon_J58 20000 qi1 qi3 qt0 M) (tO (rr L xs P vu)) := by
  unfold zf_X17_reckon_J58 qf_X17_reckon_J58
  refine qs_ite (c_le ei3 k_1) ?_ ?_
  · exact (qz_X17_reckon_J75 hS hM ei1 et0 k_0)
  · refine qs_zi hS pl_2235 ts_2235 ?_
    refine qs_bp (qz_X17_in hS hM ei1 k_1) (fun v10091 S10091 w10091 h10091 hS10091 hM10091 => ?_)
    exact (qz_X17_reckon_J75 hS10091 hM10091 ei1 et0 h10091)
set_option maxRecDepth 20000 in
theorem qz_X17_reckon_J43 {P : Nat → Nat} {S : zm_S} {M : qm} {i1 : Int32} {qi1 : Int} {t0 : Int32} {qt0 : Int} (hS : Sh L xs P S) (hM : qM P S = M) (ei1 : i1.toInt = qi1) (et0 : t0.toInt = qt0) : qs (zf_X17_reckon_J43 20000 2235 i1 t0 S) (qf_X17_reckon_J43 20000 qi1 qt0 M) (tO (rr L xs P vu)) := by
  unfold zf_X17_reckon_J43 qf_X17_reckon_J43
  refine qs_ite (c_le et0 k_0) ?_ ?_
  · exact (qz_X17_reckon_J58 hS hM ei1 et0 k_0)
  · refine qs_zi hS pl_2235 ts_2235 ?_
    refine qs_bp (qz_X17_in hS hM ei1 k_0) (fun v10093 S10093 w10093 h10093 hS10093 hM10093 => ?_)
    exact (qz_X17_reckon_J58 hS10093 hM10093 ei1 et0 h10093)
set_option maxRecDepth 20000 in
theorem qz_X17_fails {P : Nat → Nat} {S : zm_S} {M : qm} {i1 : Int32} {qi1 : Int} {i2 : Int32} {qi2 : Int} (hS : Sh L xs P S) (hM : qM P S = M) (ei1 : i1.toInt = qi1) (ei2 : i2.toInt = qi2) : qs (zf_X17_fails 20000 2235 i1 i2 S) (qf_X17_fails 20000 qi1 qi2 M) (tO (rr L xs P vu)) := by
  unfold zf_X17_fails qf_X17_fails
  refine qs_gr hS pl_2235 ts_2235 rfl ?_
  refine qs_xi (i := 0) hM (pa_p hS pl_2251 ts_2251) k_0 (by decide) (fun v10095 h10095 => ?_)
  refine qs_si hS hM (pa_p hS pl_2251 ts_2251) k_0 (by decide) (p_add h10095 k_1) (fun S10096 M10096 hS10096 hM10096 => ?_)
  refine qs_gr hS10096 pl_2235 ts_2235 rfl ?_
  refine qs_gd (fun g10099 => ?_)
  refine qs_xi hM10096 (pa_p hS10096 pl_2251 ts_2251) ei2 g10099 (fun v10098 h10098 => ?_)
  refine qs_gd (fun g10101 => ?_)
  refine qs_si hS10096 hM10096 (pa_p hS10096 pl_2251 ts_2251) ei2 g10101 (p_add h10098 k_1) (fun S10100 M10100 hS10100 hM10100 => ?_)
  refine qs_gr hS10100 pl_2235 ts_2235 rfl ?_
  refine qs_gr hS10100 pl_2235 ts_2235 rfl ?_
  refine qs_gd (fun g10105 => ?_)
  refine qs_xi hM10100 (pa_p hS10100 pl_2239 ts_2239) ei1 g10105 (fun v10104 h10104 => ?_)
  refine qs_gd (fun g10107 => ?_)
  refine qs_si hS10100 hM10100 (pa_p hS10100 pl_2242 ts_2242) ei1 g10107 h10104 (fun S10106 M10106 hS10106 hM10106 => ?_)
  exact qs_tr (show vu _ _ from trivial) hS10106 hM10106
set_option maxRecDepth 20000 in
theorem qz_X17_reckon {P : Nat → Nat} {S : zm_S} {M : qm} {i1 : Int32} {qi1 : Int} (hS : Sh L xs P S) (hM : qM P S = M) (ei1 : i1.toInt = qi1) : qs (zf_X17_reckon 20000 2235 i1 S) (qf_X17_reckon 20000 qi1 M) (tO (rr L xs P vu)) := by
  unfold zf_X17_reckon qf_X17_reckon
  refine qs_zi hS pl_2235 ts_2235 ?_
  refine qs_bp (qz_X17_failure hS hM ei1) (fun v10109 S10109 w10109 h10109 hS10109 hM10109 => ?_)
  refine qs_ite (c_le h10109 k_0) ?_ ?_
  · refine qs_gr hS10109 pl_2235 ts_2235 rfl ?_
    refine qs_gd (fun g10112 => ?_)
    refine qs_xi hM10109 (pa_p hS10109 pl_2236 ts_2236) ei1 g10112 (fun v10111 h10111 => ?_)
    refine qs_ite (c_eq h10111 k_16) ?_ ?_
    · exact (qz_X17_reckon_J43 hS10109 hM10109 ei1 k_0)
    · refine qs_gr hS10109 pl_2235 ts_2235 rfl ?_
      refine qs_gd (fun g10115 => ?_)
      refine qs_xi hM10109 (pa_p hS10109 pl_2236 ts_2236) ei1 g10115 (fun v10114 h10114 => ?_)
      refine qs_bp (qz_X17_inputs hS10109 hM10109 h10114) (fun v10116 S10116 w10116 h10116 hS10116 hM10116 => ?_)
      exact (qz_X17_reckon_J43 hS10116 hM10116 ei1 h10116)
  · refine qs_zi hS10109 pl_2235 ts_2235 ?_
    refine qs_b (qz_X17_fails hS10109 hM10109 ei1 h10109) (fun v10118 S10118 w10118 M10118 h10118 hS10118 hM10118 => ?_)
    exact (qz_X17_reckon_J115 hS10118 hM10118 ei1)
set_option maxRecDepth 20000 in
theorem qz_X17_tick_L21_b (n : Nat) {P : Nat → Nat} {S : zm_S} {M : qm} {i1 : Int32} {qi1 : Int} (hS : Sh L xs P S) (hM : qM P S = M) (ei1 : i1.toInt = qi1) : qs (zf_X17_tick_L21 20000 (n + 1) 2235 i1 S) (qf_X17_tick_L21_b 20000 qi1 M) (tk (vs (rr L xs P vu) (rr L xs P vu)) (qc_X17_tick_L21 L xs P (zf_X17_tick_L21 20000 n))) := by
  refine qs_eq (zf_X17_tick_L21.eq_2 ..) ?_
  unfold qf_X17_tick_L21_b
  refine qs_gi hS hM pl_2235 ts_2235 (z := 0) rfl rfl (fun v10119 h10119 => ?_)
  refine qs_ite (c_le h10119 ei1) ?_ ?_
  · exact qs_tr2 (show vu _ _ from trivial) hS hM
  · refine qs_gr hS pl_2235 ts_2235 rfl ?_
    refine qs_gd (fun g10122 => ?_)
    refine qs_xi hM (pa_p hS pl_2249 ts_2249) ei1 g10122 (fun v10121 h10121 => ?_)
    refine qs_zi hS pl_2235 ts_2235 ?_
    refine qs_b (qz_X17_reckon hS hM h10121) (fun v10124 S10124 w10124 M10124 h10124 hS10124 hM10124 => ?_)
    exact qs_tk ⟨_, _, rfl, (p_add ei1 k_1), hS10124, hM10124⟩
theorem qz_X17_tick_L21 (n : Nat) : ∀ {P : Nat → Nat} {S : zm_S} {M : qm} {i1 : Int32} {qi1 : Int} (hS : Sh L xs P S) (hM : qM P S = M) (ei1 : i1.toInt = qi1), qs (zf_X17_tick_L21 20000 n 2235 i1 S) (qf_X17_tick_L21 20000 n qi1 M) (tO (vs (rr L xs P vu) (rr L xs P vu))) := by
  induction n with
  | zero =>
    intros
    exact qs_none
  | succ n ih =>
    intro P S M i1 qi1 hS hM ei1
    unfold qf_X17_tick_L21
    refine qs_loop (C := (qc_X17_tick_L21 L xs P (zf_X17_tick_L21 20000 n))) (qz_X17_tick_L21_b n hS hM ei1) ?_
    rintro x s ⟨_, _, rfl, u0, hS2, hM2⟩
    exact ih hS2 hM2 u0
set_option maxRecDepth 20000 in
theorem qz_X17_tick_J116 {P : Nat → Nat} {S : zm_S} {M : qm} {i1 : Int32} {qi1 : Int} (hS : Sh L xs P S) (hM : qM P S = M) (ei1 : i1.toInt = qi1) {k : Nat → Int32 → zm_S → Option ((Unit × zm_S) ⊕ ((Unit) × zm_S))} : qs (zf_X17_tick_J116 20000 k 2235 i1 S) (qf_X17_tick_J116 20000 qi1 M) (tk (vs (rr L xs P vu) (rr L xs P vu)) (qc_X17_tick_L47 L xs P k)) := by
  unfold zf_X17_tick_J116 qf_X17_tick_J116
  refine qs_gr hS pl_2235 ts_2235 rfl ?_
  refine qs_gd (fun g10127 => ?_)
  refine qs_xi hM (pa_p hS pl_2236 ts_2236) ei1 g10127 (fun v10126 h10126 => ?_)
  refine qs_ite (c_eq h10126 k_16) ?_ ?_
  · refine qs_gr hS pl_2235 ts_2235 rfl ?_
    refine qs_zi hS pl_2235 ts_2235 ?_
    refine qs_bp (qz_X17_in hS hM ei1 k_0) (fun v10130 S10130 w10130 h10130 hS10130 hM10130 => ?_)
    refine qs_gd (fun g10132 => ?_)
    refine qs_si hS10130 hM10130 (pa_p hS10130 pl_2243 ts_2243) ei1 g10132 h10130 (fun S10131 M10131 hS10131 hM10131 => ?_)
    exact qs_tk ⟨_, _, rfl, (p_add ei1 k_1), hS10131, hM10131⟩
  · exact qs_tk ⟨_, _, rfl, (p_add ei1 k_1), hS, hM⟩
set_option maxRecDepth 20000 in
theorem qz_X17_tick_J112 {P : Nat → Nat} {S : zm_S} {M : qm} {i1 : Int32} {qi1 : Int} {t1 : Int32} {qt1 : Int} {t2 : Int32} {qt2 : Int} (hS : Sh L xs P S) (hM : qM P S = M) (ei1 : i1.toInt = qi1) (et1 : t1.toInt = qt1) (et2 : t2.toInt = qt2) {k : Nat → Int32 → zm_S → Option ((Unit × zm_S) ⊕ ((Unit) × zm_S))} : qs (zf_X17_tick_J112 20000 k 2235 i1 2242 t1 t2 S) (qf_X17_tick_J112 20000 qi1 qt1 qt2 M) (tk (vs (rr L xs P vu) (rr L xs P vu)) (qc_X17_tick_L47 L xs P k)) := by
  unfold zf_X17_tick_J112 qf_X17_tick_J112
  refine qs_gd (fun g10134 => ?_)
  refine qs_si hS hM (pa_p hS pl_2242 ts_2242) et1 g10134 et2 (fun S10133 M10133 hS10133 hM10133 => ?_)
  exact qs_tk ⟨_, _, rfl, (p_add ei1 k_1), hS10133, hM10133⟩
set_option maxRecDepth 20000 in
theorem qz_X17_tick_L47_b (n : Nat) {P : Nat → Nat} {S : zm_S} {M : qm} {i1 : Int32} {qi1 : Int} (hS : Sh L xs P S) (hM : qM P S = M) (ei1 : i1.toInt = qi1) : qs (zf_X17_tick_L47 20000 (n + 1) 2235 i1 S) (qf_X17_tick_L47_b 20000 qi1 M) (tk (vs (rr L xs P vu) (rr L xs P vu)) (qc_X17_tick_L47 L xs P (zf_X17_tick_L47 20000 n))) := by
  refine qs_eq (zf_X17_tick_L47.eq_2 ..) ?_
  unfold qf_X17_tick_L47_b
  refine qs_gi hS hM pl_2235 ts_2235 (z := 0) rfl rfl (fun v10135 h10135 => ?_)
  refine qs_ite (c_le h10135 ei1) ?_ ?_
  · exact qs_tr2 (show vu _ _ from trivial) hS hM
  · refine qs_gr hS pl_2235 ts_2235 rfl ?_
    refine qs_gd (fun g10138 => ?_)
    refine qs_xi hM (pa_p hS pl_2236 ts_2236) ei1 g10138 (fun v10137 h10137 => ?_)
    refine qs_ite (c_eq h10137 k_16) ?_ ?_
    · refine qs_gr hS pl_2235 ts_2235 rfl ?_
      refine qs_gd (fun g10141 => ?_)
      refine qs_xi hM (pa_p hS pl_2240 ts_2240) (p_mul k_3 ei1) g10141 (fun v10140 h10140 => ?_)
      refine qs_ite (c_le k_0 h10140) ?_ ?_
      · exact (qz_X17_tick_J116 hS hM ei1)
      · refine qs_zi hS pl_2235 ts_2235 ?_
        refine qs_b (qz_X17_fails hS hM ei1 k_3) (fun v10143 S10143 w10143 M10143 h10143 hS10143 hM10143 => ?_)
        refine qs_gr hS10143 pl_2235 ts_2235 rfl ?_
        refine qs_gr hS10143 pl_2235 ts_2235 rfl ?_
        refine qs_gd (fun g10147 => ?_)
        refine qs_xi hM10143 (pa_p hS10143 pl_2245 ts_2245) ei1 g10147 (fun v10146 h10146 => ?_)
        refine qs_ite (c_eq h10146 k_0) ?_ ?_
        · refine qs_gr hS10143 pl_2235 ts_2235 rfl ?_
          refine qs_gd (fun g10150 => ?_)
          refine qs_xi hM10143 (pa_p hS10143 pl_2242 ts_2242) ei1 g10150 (fun v10149 h10149 => ?_)
          exact (qz_X17_tick_J112 hS10143 hM10143 ei1 ei1 h10149)
        · refine qs_gr hS10143 pl_2235 ts_2235 rfl ?_
          refine qs_gd (fun g10153 => ?_)
          refine qs_xi hM10143 (pa_p hS10143 pl_2246 ts_2246) ei1 g10153 (fun v10152 h10152 => ?_)
          exact (qz_X17_tick_J112 hS10143 hM10143 ei1 ei1 h10152)
    · exact (qz_X17_tick_J116 hS hM ei1)
theorem qz_X17_tick_L47 (n : Nat) : ∀ {P : Nat → Nat} {S : zm_S} {M : qm} {i1 : Int32} {qi1 : Int} (hS : Sh L xs P S) (hM : qM P S = M) (ei1 : i1.toInt = qi1), qs (zf_X17_tick_L47 20000 n 2235 i1 S) (qf_X17_tick_L47 20000 n qi1 M) (tO (vs (rr L xs P vu) (rr L xs P vu))) := by
  induction n with
  | zero =>
    intros
    exact qs_none
  | succ n ih =>
    intro P S M i1 qi1 hS hM ei1
    unfold qf_X17_tick_L47
    refine qs_loop (C := (qc_X17_tick_L47 L xs P (zf_X17_tick_L47 20000 n))) (qz_X17_tick_L47_b n hS hM ei1) ?_
    rintro x s ⟨_, _, rfl, u0, hS2, hM2⟩
    exact ih hS2 hM2 u0
set_option maxRecDepth 20000 in
theorem qz_X17_tick {P : Nat → Nat} {S : zm_S} {M : qm}  (hS : Sh L xs P S) (hM : qM P S = M)  : qs (zf_X17_tick 20000 2235 S) (qf_X17_tick 20000 M) (tO (rr L xs P vu)) := by
  unfold zf_X17_tick qf_X17_tick
  refine qs_zi hS pl_2235 ts_2235 ?_
  refine qs_b (qz_X17_sort hS hM ) (fun v10155 S10155 w10155 M10155 h10155 hS10155 hM10155 => ?_)
  refine qs_gi hS10155 hM10155 pl_2235 ts_2235 (z := 0) rfl rfl (fun v10156 h10156 => ?_)
  refine qs_ite (c_lt h10155 h10156) ?_ ?_
  · exact qs_tr (show vu _ _ from trivial) hS10155 hM10155
  · refine qs_gi hS10155 hM10155 pl_2235 ts_2235 (z := 18) rfl rfl (fun v10157 h10157 => ?_)
    refine qs_ite (c_eq h10157 k_0) ?_ ?_
    · refine qs_lr (qz_X17_tick_L21 20000 hS10155 hM10155 k_0) ?_ ?_
      · intro v10159 S10159 w10159 M10159 h10159 hS10159 hM10159
        dsimp only
        exact qs_tr h10159 hS10159 hM10159
      · intro v10159 S10159 w10159 M10159 h10159 hS10159 hM10159
        dsimp only
        refine qs_lr (qz_X17_tick_L47 20000 hS10159 hM10159 k_0) ?_ ?_
        · intro v10161 S10161 w10161 M10161 h10161 hS10161 hM10161
          dsimp only
          exact qs_tr h10161 hS10161 hM10161
        · intro v10161 S10161 w10161 M10161 h10161 hS10161 hM10161
          dsimp only
          refine qs_gr hS10161 pl_2235 ts_2235 rfl ?_
          refine qs_xi (i := 0) hM10161 (pa_p hS10161 pl_2251 ts_2251) k_0 (by decide) (fun v10163 h10163 => ?_)
          refine qs_ite (c_lt h10163 k_20000) ?_ ?_
          · refine qs_pi hS10161 hM10161 pl_2235 ts_2235 (z := 18) rfl rfl k_0 (fun S10164 M10164 hS10164 hM10164 => ?_)
            exact qs_tr (show vu _ _ from trivial) hS10164 hM10164
          · refine qs_pi hS10161 hM10161 pl_2235 ts_2235 (z := 18) rfl rfl k_1 (fun S10165 M10165 hS10165 hM10165 => ?_)
            exact qs_tr (show vu _ _ from trivial) hS10165 hM10165
    · exact qs_tr (show vu _ _ from trivial) hS10155 hM10155
set_option maxRecDepth 20000 in
theorem qz_X12_idle_L2_b (n : Nat) {P : Nat → Nat} {S : zm_S} {M : qm} {i1 : Int32} {qi1 : Int} (hS : Sh L xs P S) (hM : qM P S = M) (ei1 : i1.toInt = qi1) : qs (zf_X12_idle_L2 20000 (n + 1) 2252 i1 S) (qf_X12_idle_L2_b 20000 qi1 M) (tk (vs (rp L xs P M vi) (rp L xs P M vi)) (qc_X12_idle_L2 L xs P M (zf_X12_idle_L2 20000 n))) := by
  refine qs_eq (zf_X12_idle_L2.eq_2 ..) ?_
  unfold qf_X12_idle_L2_b
  refine qs_ite (c_le k_60 ei1) ?_ ?_
  · exact qs_tp2 (show vi _ _ from ei1) hS hM
  · refine qs_gi hS hM pl_2252 ts_2252 (z := 0) rfl rfl (fun v10166 h10166 => ?_)
    refine qs_ite (c_lt (p_sub (p_sub h10166 k_1) ei1) k_1) ?_ ?_
    · exact qs_tk ⟨_, _, rfl, (p_add ei1 k_1), hS, hM⟩
    · refine qs_gr hS pl_2252 ts_2252 rfl ?_
      refine qs_gi hS hM pl_2252 ts_2252 (z := 0) rfl rfl (fun v10168 h10168 => ?_)
      refine qs_gd (fun g10170 => ?_)
      refine qs_xi hM (pa_p hS pl_2253 ts_2253) (p_sub (p_sub h10168 k_1) ei1) g10170 (fun v10169 h10169 => ?_)
      refine qs_ite (c_eq h10169 k_0) ?_ ?_
      · exact qs_tp2 (show vi _ _ from ei1) hS hM
      · exact qs_tk ⟨_, _, rfl, (p_add ei1 k_1), hS, hM⟩
theorem qz_X12_idle_L2 (n : Nat) : ∀ {P : Nat → Nat} {S : zm_S} {M : qm} {i1 : Int32} {qi1 : Int} (hS : Sh L xs P S) (hM : qM P S = M) (ei1 : i1.toInt = qi1), qs (zf_X12_idle_L2 20000 n 2252 i1 S) (qf_X12_idle_L2 20000 n qi1 M) (tO (vs (rp L xs P M vi) (rp L xs P M vi))) := by
  induction n with
  | zero =>
    intros
    exact qs_none
  | succ n ih =>
    intro P S M i1 qi1 hS hM ei1
    unfold qf_X12_idle_L2
    refine qs_loop (C := (qc_X12_idle_L2 L xs P M (zf_X12_idle_L2 20000 n))) (qz_X12_idle_L2_b n hS hM ei1) ?_
    rintro x s ⟨_, _, rfl, u0, hS2, hM2⟩
    exact ih hS2 hM2 u0
set_option maxRecDepth 20000 in
theorem qz_X12_idle {P : Nat → Nat} {S : zm_S} {M : qm}  (hS : Sh L xs P S) (hM : qM P S = M)  : qs (zf_X12_idle 20000 2252 S) (qf_X12_idle 20000 M) (tO (rp L xs P M vi)) := by
  unfold zf_X12_idle qf_X12_idle
  refine qs_lp (qz_X12_idle_L2 20000 hS hM k_0) ?_ ?_
  · intro v10172 S10172 w10172 h10172 hS10172 hM10172
    dsimp only
    exact qs_tp h10172 hS10172 hM10172
  · intro v10172 S10172 w10172 h10172 hS10172 hM10172
    dsimp only
    exact qs_tp (show vi _ _ from h10172) hS10172 hM10172
set_option maxRecDepth 20000 in
theorem qz_X12_begin_J83 {P : Nat → Nat} {S : zm_S} {M : qm} {t1 : Int32} {qt1 : Int} {t2 : Int32} {qt2 : Int} {t3 : Int32} {qt3 : Int} (hS : Sh L xs P S) (hM : qM P S = M) (et1 : t1.toInt = qt1) (et2 : t2.toInt = qt2) (et3 : t3.toInt = qt3) : qs (zf_X12_begin_J83 20000 2260 t1 t2 t3 S) (qf_X12_begin_J83 20000 qt1 qt2 qt3 M) (tO (rr L xs P vu)) := by
  unfold zf_X12_begin_J83 qf_X12_begin_J83
  refine qs_ite (c_lt et2 et3) ?_ ?_
  · refine qs_gd (fun g10174 => ?_)
    refine qs_si hS hM (pa_p hS pl_2260 ts_2260) et1 g10174 k_m1 (fun S10173 M10173 hS10173 hM10173 => ?_)
    exact qs_tr (show vu _ _ from trivial) hS10173 hM10173
  · refine qs_gd (fun g10176 => ?_)
    refine qs_si hS hM (pa_p hS pl_2260 ts_2260) et1 g10176 k_0 (fun S10175 M10175 hS10175 hM10175 => ?_)
    exact qs_tr (show vu _ _ from trivial) hS10175 hM10175
set_option maxRecDepth 20000 in
theorem qz_X12_begin_J65 {P : Nat → Nat} {S : zm_S} {M : qm} {i1 : Int32} {qi1 : Int} {i2 : Int32} {qi2 : Int} {t0 : Int32} {qt0 : Int} (hS : Sh L xs P S) (hM : qM P S = M) (ei1 : i1.toInt = qi1) (ei2 : i2.toInt = qi2) (et0 : t0.toInt = qt0) : qs (zf_X12_begin_J65 20000 2252 i1 i2 t0 S) (qf_X12_begin_J65 20000 qi1 qi2 qt0 M) (tO (rr L xs P vu)) := by
  unfold zf_X12_begin_J65 qf_X12_begin_J65
  refine qs_gr hS pl_2252 ts_2252 rfl ?_
  refine qs_ite (c_eq et0 k_0) ?_ ?_
  · exact (qz_X12_begin_J83 hS hM ei1 ei2 k_50)
  · exact (qz_X12_begin_J83 hS hM ei1 ei2 k_53)
set_option maxRecDepth 20000 in
theorem qz_X12_begin_J64 {P : Nat → Nat} {S : zm_S} {M : qm} {i1 : Int32} {qi1 : Int} {i2 : Int32} {qi2 : Int} (hS : Sh L xs P S) (hM : qM P S = M) (ei1 : i1.toInt = qi1) (ei2 : i2.toInt = qi2) : qs (zf_X12_begin_J64 20000 2252 i1 i2 S) (qf_X12_begin_J64 20000 qi1 qi2 M) (tO (rr L xs P vu)) := by
  unfold zf_X12_begin_J64 qf_X12_begin_J64
  exact (qz_X12_begin_J65 hS hM ei1 ei2 k_0)
set_option maxRecDepth 20000 in
theorem qz_X12_begin {P : Nat → Nat} {S : zm_S} {M : qm} {i1 : Int32} {qi1 : Int} {i2 : Int32} {qi2 : Int} (hS : Sh L xs P S) (hM : qM P S = M) (ei1 : i1.toInt = qi1) (ei2 : i2.toInt = qi2) : qs (zf_X12_begin 20000 2252 i1 i2 S) (qf_X12_begin 20000 qi1 qi2 M) (tO (rr L xs P vu)) := by
  unfold zf_X12_begin qf_X12_begin
  refine qs_gr hS pl_2252 ts_2252 rfl ?_
  refine qs_gd (fun g10180 => ?_)
  refine qs_xi hM (pa_p hS pl_2260 ts_2260) ei1 g10180 (fun v10179 h10179 => ?_)
  refine qs_ite (c_le k_0 h10179) ?_ ?_
  · exact qs_tr (show vu _ _ from trivial) hS hM
  · refine qs_gr hS pl_2252 ts_2252 rfl ?_
    refine qs_gd (fun g10183 => ?_)
    refine qs_xi hM (pa_p hS pl_2261 ts_2261) ei1 g10183 (fun v10182 h10182 => ?_)
    refine qs_ite (c_le k_0 h10182) ?_ ?_
    · exact qs_tr (show vu _ _ from trivial) hS hM
    · refine qs_gr hS pl_2252 ts_2252 rfl ?_
      refine qs_gd (fun g10186 => ?_)
      refine qs_xi hM (pa_p hS pl_2258 ts_2258) ei1 g10186 (fun v10185 h10185 => ?_)
      refine qs_ite (c_le h10185 k_0) ?_ ?_
      · exact qs_tr (show vu _ _ from trivial) hS hM
      · refine qs_gr hS pl_2252 ts_2252 rfl ?_
        refine qs_gd (fun g10189 => ?_)
        refine qs_xi hM (pa_p hS pl_2259 ts_2259) (p_add (p_mul k_144 ei1) k_22) g10189 (fun v10188 h10188 => ?_)
        refine qs_ite (c_le h10188 k_1) ?_ ?_
        · exact (qz_X12_begin_J64 hS hM ei1 ei2)
        · refine qs_gr hS pl_2252 ts_2252 rfl ?_
          refine qs_gd (fun g10192 => ?_)
          refine qs_xi hM (pa_p hS pl_2259 ts_2259) (p_add (p_mul k_144 ei1) k_23) g10192 (fun v10191 h10191 => ?_)
          refine qs_ite (c_eq h10191 k_0) ?_ ?_
          · exact (qz_X12_begin_J65 hS hM ei1 ei2 k_1)
          · exact (qz_X12_begin_J64 hS hM ei1 ei2)
set_option maxRecDepth 20000 in
theorem qz_X12_bitTime_L17_b (n : Nat) {P : Nat → Nat} {S : zm_S} {M : qm} {i1 : Int32} {qi1 : Int} {i2 : Int32} {qi2 : Int} (hS : Sh L xs P S) (hM : qM P S = M) (ei1 : i1.toInt = qi1) (ei2 : i2.toInt = qi2) : qs (zf_X12_bitTime_L17 20000 (n + 1) 2252 i1 i2 S) (qf_X12_bitTime_L17_b 20000 qi1 qi2 M) (tk (vs (rr L xs P vu) (rr L xs P vu)) (qc_X12_bitTime_L17 L xs P (zf_X12_bitTime_L17 20000 n))) := by
  refine qs_eq (zf_X12_bitTime_L17.eq_2 ..) ?_
  unfold qf_X12_bitTime_L17_b
  refine qs_ite (c_le k_8 ei2) ?_ ?_
  · exact qs_tr2 (show vu _ _ from trivial) hS hM
  · refine qs_zi hS pl_2252 ts_2252 ?_
    refine qs_b (qz_X12_begin hS hM ei2 ei1) (fun v10194 S10194 w10194 M10194 h10194 hS10194 hM10194 => ?_)
    exact qs_tk ⟨_, _, _, rfl, ei1, (p_add ei2 k_1), hS10194, hM10194⟩
theorem qz_X12_bitTime_L17 (n : Nat) : ∀ {P : Nat → Nat} {S : zm_S} {M : qm} {i1 : Int32} {qi1 : Int} {i2 : Int32} {qi2 : Int} (hS : Sh L xs P S) (hM : qM P S = M) (ei1 : i1.toInt = qi1) (ei2 : i2.toInt = qi2), qs (zf_X12_bitTime_L17 20000 n 2252 i1 i2 S) (qf_X12_bitTime_L17 20000 n qi1 qi2 M) (tO (vs (rr L xs P vu) (rr L xs P vu))) := by
  induction n with
  | zero =>
    intros
    exact qs_none
  | succ n ih =>
    intro P S M i1 qi1 i2 qi2 hS hM ei1 ei2
    unfold qf_X12_bitTime_L17
    refine qs_loop (C := (qc_X12_bitTime_L17 L xs P (zf_X12_bitTime_L17 20000 n))) (qz_X12_bitTime_L17_b n hS hM ei1 ei2) ?_
    rintro x s ⟨_, _, _, rfl, u0, u1, hS2, hM2⟩
    exact ih hS2 hM2 u0 u1
set_option maxRecDepth 20000 in
theorem qz_X12_answers_J174 {P : Nat → Nat} {S : zm_S} {M : qm} {i1 : Int32} {qi1 : Int} {i2 : Int32} {qi2 : Int} {t1 : Int32} {qt1 : Int} {t2 : Int32} {qt2 : Int} (hS : Sh L xs P S) (hM : qM P S = M) (ei1 : i1.toInt = qi1) (ei2 : i2.toInt = qi2) (et1 : t1.toInt = qt1) (et2 : t2.toInt = qt2) {k : Nat → Int32 → Int32 → zm_S → Option ((Unit × zm_S) ⊕ ((Unit) × zm_S))} : qs (zf_X12_answers_J174 20000 k 2252 i1 i2 2262 t1 t2 S) (qf_X12_answers_J174 20000 qi1 qi2 qt1 qt2 M) (tk (vs (rr L xs P vu) (rr L xs P vu)) (qc_X12_answers_L49 L xs P k)) := by
  unfold zf_X12_answers_J174 qf_X12_answers_J174
  refine qs_gd (fun g10196 => ?_)
  refine qs_si hS hM (pa_p hS pl_2262 ts_2262) et1 g10196 et2 (fun S10195 M10195 hS10195 hM10195 => ?_)
  refine qs_gr hS10195 pl_2252 ts_2252 rfl ?_
  refine qs_gd (fun g10199 => ?_)
  refine qs_si hS10195 hM10195 (pa_p hS10195 pl_2263 ts_2263) ei2 g10199 k_0 (fun S10198 M10198 hS10198 hM10198 => ?_)
  exact qs_tk ⟨_, _, _, rfl, ei1, (p_add ei2 k_1), hS10198, hM10198⟩
set_option maxRecDepth 20000 in
theorem qz_X12_answers_J116 {P : Nat → Nat} {S : zm_S} {M : qm} {i1 : Int32} {qi1 : Int} {i2 : Int32} {qi2 : Int} {t0 : Int32} {qt0 : Int} (hS : Sh L xs P S) (hM : qM P S = M) (ei1 : i1.toInt = qi1) (ei2 : i2.toInt = qi2) (et0 : t0.toInt = qt0) {k : Nat → Int32 → Int32 → zm_S → Option ((Unit × zm_S) ⊕ ((Unit) × zm_S))} : qs (zf_X12_answers_J116 20000 k 2252 i1 i2 t0 S) (qf_X12_answers_J116 20000 qi1 qi2 qt0 M) (tk (vs (rr L xs P vu) (rr L xs P vu)) (qc_X12_answers_L49 L xs P k)) := by
  unfold zf_X12_answers_J116 qf_X12_answers_J116
  refine qs_ite (c_eq et0 k_0) ?_ ?_
  · exact qs_tk ⟨_, _, _, rfl, ei1, (p_add ei2 k_1), hS, hM⟩
  · refine qs_gr hS pl_2252 ts_2252 rfl ?_
    refine qs_gd (fun g10202 => ?_)
    refine qs_xi hM (pa_p hS pl_2260 ts_2260) ei2 g10202 (fun v10201 h10201 => ?_)
    refine qs_ite (c_le k_0 h10201) ?_ ?_
    · exact qs_tk ⟨_, _, _, rfl, ei1, (p_add ei2 k_1), hS, hM⟩
    · refine qs_gr hS pl_2252 ts_2252 rfl ?_
      refine qs_gd (fun g10205 => ?_)
      refine qs_xi hM (pa_p hS pl_2261 ts_2261) ei2 g10205 (fun v10204 h10204 => ?_)
      refine qs_ite (c_le k_0 h10204) ?_ ?_
      · exact qs_tk ⟨_, _, _, rfl, ei1, (p_add ei2 k_1), hS, hM⟩
      · refine qs_gr hS pl_2252 ts_2252 rfl ?_
        refine qs_gi hS hM pl_2252 ts_2252 (z := 23) rfl rfl (fun v10207 h10207 => ?_)
        refine qs_ite (c_eq h10207 k_0) ?_ ?_
        · exact (qz_X12_answers_J174 hS hM ei1 ei2 ei2 k_12)
        · refine qs_gr hS pl_2252 ts_2252 rfl ?_
          refine qs_gd (fun g10210 => ?_)
          refine qs_xi hM (pa_p hS pl_2257 ts_2257) ei2 g10210 (fun v10209 h10209 => ?_)
          refine qs_ite (c_eq h10209 k_0) ?_ ?_
          · exact (qz_X12_answers_J174 hS hM ei1 ei2 ei2 k_204)
          · exact (qz_X12_answers_J174 hS hM ei1 ei2 ei2 k_192)
set_option maxRecDepth 20000 in
theorem qz_X12_answers_J115 {P : Nat → Nat} {S : zm_S} {M : qm} {i1 : Int32} {qi1 : Int} {i2 : Int32} {qi2 : Int} (hS : Sh L xs P S) (hM : qM P S = M) (ei1 : i1.toInt = qi1) (ei2 : i2.toInt = qi2) {k : Nat → Int32 → Int32 → zm_S → Option ((Unit × zm_S) ⊕ ((Unit) × zm_S))} : qs (zf_X12_answers_J115 20000 k 2252 i1 i2 S) (qf_X12_answers_J115 20000 qi1 qi2 M) (tk (vs (rr L xs P vu) (rr L xs P vu)) (qc_X12_answers_L49 L xs P k)) := by
  unfold zf_X12_answers_J115 qf_X12_answers_J115
  exact (qz_X12_answers_J116 hS hM ei1 ei2 k_0)
set_option maxRecDepth 20000 in
theorem qz_X12_answers_L49_b (n : Nat) {P : Nat → Nat} {S : zm_S} {M : qm} {i1 : Int32} {qi1 : Int} {i2 : Int32} {qi2 : Int} (hS : Sh L xs P S) (hM : qM P S = M) (ei1 : i1.toInt = qi1) (ei2 : i2.toInt = qi2) : qs (zf_X12_answers_L49 20000 (n + 1) 2252 i1 i2 S) (qf_X12_answers_L49_b 20000 qi1 qi2 M) (tk (vs (rr L xs P vu) (rr L xs P vu)) (qc_X12_answers_L49 L xs P (zf_X12_answers_L49 20000 n))) := by
  refine qs_eq (zf_X12_answers_L49.eq_2 ..) ?_
  unfold qf_X12_answers_L49_b
  refine qs_ite (c_le k_8 ei2) ?_ ?_
  · exact qs_tr2 (show vu _ _ from trivial) hS hM
  · refine qs_gr hS pl_2252 ts_2252 rfl ?_
    refine qs_xi (i := 5) hM (pa_p hS pl_2268 ts_2268) k_5 (by decide) (fun v10212 h10212 => ?_)
    refine qs_ite (c_le k_128 h10212) ?_ ?_
    · refine qs_ite (c_le k_256 ei1) ?_ ?_
      · exact (qz_X12_answers_J115 hS hM ei1 ei2)
      · refine qs_gr hS pl_2252 ts_2252 rfl ?_
        refine qs_gd (fun g10215 => ?_)
        refine qs_xi hM (pa_p hS pl_2256 ts_2256) (p_add (p_mul k_256 ei2) (p_mod ei1 k_256)) g10215 (fun v10214 h10214 => ?_)
        refine qs_ite (c_eq h10214 k_0) ?_ ?_
        · exact (qz_X12_answers_J115 hS hM ei1 ei2)
        · exact (qz_X12_answers_J116 hS hM ei1 ei2 k_1)
    · refine qs_gr hS pl_2252 ts_2252 rfl ?_
      refine qs_gd (fun g10218 => ?_)
      refine qs_xi hM (pa_p hS pl_2255 ts_2255) ei2 g10218 (fun v10217 h10217 => ?_)
      refine qs_ite (c_eq ei1 h10217) ?_ ?_
      · exact (qz_X12_answers_J116 hS hM ei1 ei2 k_1)
      · exact (qz_X12_answers_J116 hS hM ei1 ei2 k_0)
theorem qz_X12_answers_L49 (n : Nat) : ∀ {P : Nat → Nat} {S : zm_S} {M : qm} {i1 : Int32} {qi1 : Int} {i2 : Int32} {qi2 : Int} (hS : Sh L xs P S) (hM : qM P S = M) (ei1 : i1.toInt = qi1) (ei2 : i2.toInt = qi2), qs (zf_X12_answers_L49 20000 n 2252 i1 i2 S) (qf_X12_answers_L49 20000 n qi1 qi2 M) (tO (vs (rr L xs P vu) (rr L xs P vu))) := by
  induction n with
  | zero =>
    intros
    exact qs_none
  | succ n ih =>
    intro P S M i1 qi1 i2 qi2 hS hM ei1 ei2
    unfold qf_X12_answers_L49
    refine qs_loop (C := (qc_X12_answers_L49 L xs P (zf_X12_answers_L49 20000 n))) (qz_X12_answers_L49_b n hS hM ei1 ei2) ?_
    rintro x s ⟨_, _, _, rfl, u0, u1, hS2, hM2⟩
    exact ih hS2 hM2 u0 u1
set_option maxRecDepth 20000 in
theorem qz_X12_answers {P : Nat → Nat} {S : zm_S} {M : qm}  (hS : Sh L xs P S) (hM : qM P S = M)  : qs (zf_X12_answers 20000 2252 S) (qf_X12_answers 20000 M) (tO (rr L xs P vu)) := by
  unfold zf_X12_answers qf_X12_answers
  refine qs_gi hS hM pl_2252 ts_2252 (z := 24) rfl rfl (fun v10219 h10219 => ?_)
  refine qs_ite (c_eq h10219 k_0) ?_ ?_
  · exact qs_tr (show vu _ _ from trivial) hS hM
  · refine qs_gi hS hM pl_2252 ts_2252 (z := 0) rfl rfl (fun v10220 h10220 => ?_)
    refine qs_gi hS hM pl_2252 ts_2252 (z := 24) rfl rfl (fun v10221 h10221 => ?_)
    refine qs_ite (c_eq h10220 (p_add h10221 k_14)) ?_ ?_
    · refine qs_gi hS hM pl_2252 ts_2252 (z := 25) rfl rfl (fun v10222 h10222 => ?_)
      refine qs_ite (c_eq h10222 k_0) ?_ ?_
      · refine qs_gr hS pl_2252 ts_2252 rfl ?_
        refine qs_xi (i := 3) hM (pa_p hS pl_2268 ts_2268) k_3 (by decide) (fun v10224 h10224 => ?_)
        refine qs_gr hS pl_2252 ts_2252 rfl ?_
        refine qs_xi (i := 4) hM (pa_p hS pl_2268 ts_2268) k_4 (by decide) (fun v10226 h10226 => ?_)
        refine qs_lr (qz_X12_answers_L49 20000 hS hM (p_add (p_mul k_256 h10224) h10226) k_0) ?_ ?_
        · intro v10228 S10228 w10228 M10228 h10228 hS10228 hM10228
          dsimp only
          exact qs_tr h10228 hS10228 hM10228
        · intro v10228 S10228 w10228 M10228 h10228 hS10228 hM10228
          dsimp only
          exact qs_tr (show vu _ _ from trivial) hS10228 hM10228
      · exact qs_tr (show vu _ _ from trivial) hS hM
    · exact qs_tr (show vu _ _ from trivial) hS hM
set_option maxRecDepth 20000 in
theorem qz_X12_bitTime_J107 {P : Nat → Nat} {S : zm_S} {M : qm} {i3 : Int32} {qi3 : Int} (hS : Sh L xs P S) (hM : qM P S = M) (ei3 : i3.toInt = qi3) {k : Nat → Int32 → Int32 → zm_S → Option ((Unit × zm_S) ⊕ ((Int32) × zm_S))} : qs (zf_X12_bitTime_J107 20000 k 2252 i3 S) (qf_X12_bitTime_J107 20000 qi3 M) (tk (vs (rp L xs P M vu) (rp L xs P M vi)) (qc_X12_bitTime_L85 L xs P M k)) := by
  unfold zf_X12_bitTime_J107 qf_X12_bitTime_J107
  exact qs_tk ⟨_, _, _, rfl, k_0, (p_add ei3 k_1), hS, hM⟩
set_option maxRecDepth 20000 in
theorem qz_X12_ones_L4_b (n : Nat) {P : Nat → Nat} {S : zm_S} {M : qm} {i0 : Int32} {qi0 : Int} {i1 : Int32} {qi1 : Int} {i2 : Int32} {qi2 : Int} (hS : Sh L xs P S) (hM : qM P S = M) (ei0 : i0.toInt = qi0) (ei1 : i1.toInt = qi1) (ei2 : i2.toInt = qi2) : qs (zf_X12_ones_L4 20000 (n + 1) i0 i1 i2 S) (qf_X12_ones_L4_b 20000 qi0 qi1 qi2 M) (tk (vs (rp L xs P M vi) (rp L xs P M vi)) (qc_X12_ones_L4 L xs P M (zf_X12_ones_L4 20000 n))) := by
  refine qs_eq (zf_X12_ones_L4.eq_2 ..) ?_
  unfold qf_X12_ones_L4_b
  refine qs_ite (c_le k_8 ei2) ?_ ?_
  · exact qs_tp2 (show vi _ _ from ei1) hS hM
  · exact qs_tk ⟨_, _, _, _, rfl, ei0, (p_add ei1 (p_and (p_shr ei0 ei2) k_1)), (p_add ei2 k_1), hS, hM⟩
theorem qz_X12_ones_L4 (n : Nat) : ∀ {P : Nat → Nat} {S : zm_S} {M : qm} {i0 : Int32} {qi0 : Int} {i1 : Int32} {qi1 : Int} {i2 : Int32} {qi2 : Int} (hS : Sh L xs P S) (hM : qM P S = M) (ei0 : i0.toInt = qi0) (ei1 : i1.toInt = qi1) (ei2 : i2.toInt = qi2), qs (zf_X12_ones_L4 20000 n i0 i1 i2 S) (qf_X12_ones_L4 20000 n qi0 qi1 qi2 M) (tO (vs (rp L xs P M vi) (rp L xs P M vi))) := by
  induction n with
  | zero =>
    intros
    exact qs_none
  | succ n ih =>
    intro P S M i0 qi0 i1 qi1 i2 qi2 hS hM ei0 ei1 ei2
    unfold qf_X12_ones_L4
    refine qs_loop (C := (qc_X12_ones_L4 L xs P M (zf_X12_ones_L4 20000 n))) (qz_X12_ones_L4_b n hS hM ei0 ei1 ei2) ?_
    rintro x s ⟨_, _, _, _, rfl, u0, u1, u2, hS2, hM2⟩
    exact ih hS2 hM2 u0 u1 u2
set_option maxRecDepth 20000 in
theorem qz_X12_ones {P : Nat → Nat} {S : zm_S} {M : qm} {i0 : Int32} {qi0 : Int} (hS : Sh L xs P S) (hM : qM P S = M) (ei0 : i0.toInt = qi0) : qs (zf_X12_ones 20000 i0 S) (qf_X12_ones 20000 qi0 M) (tO (rp L xs P M vi)) := by
  unfold zf_X12_ones qf_X12_ones
  refine qs_lp (qz_X12_ones_L4 20000 hS hM ei0 k_0 k_0) ?_ ?_
  · intro v10230 S10230 w10230 h10230 hS10230 hM10230
    dsimp only
    exact qs_tp h10230 hS10230 hM10230
  · intro v10230 S10230 w10230 h10230 hS10230 hM10230
    dsimp only
    exact qs_tp (show vi _ _ from h10230) hS10230 hM10230
set_option maxRecDepth 20000 in
theorem qz_X12_letterBit {P : Nat → Nat} {S : zm_S} {M : qm} {i0 : Int32} {qi0 : Int} {i1 : Int32} {qi1 : Int} (hS : Sh L xs P S) (hM : qM P S = M) (ei0 : i0.toInt = qi0) (ei1 : i1.toInt = qi1) : qs (zf_X12_letterBit 20000 i0 i1 S) (qf_X12_letterBit 20000 qi0 qi1 M) (tO (rp L xs P M vi)) := by
  unfold zf_X12_letterBit qf_X12_letterBit
  refine qs_ite (c_eq ei1 k_9) ?_ ?_
  · refine qs_bp (qz_X12_ones hS hM ei0) (fun v10231 S10231 w10231 h10231 hS10231 hM10231 => ?_)
    refine qs_ite (c_eq (p_mod h10231 k_2) k_1) ?_ ?_
    · exact qs_tp (show vi _ _ from k_1) hS10231 hM10231
    · exact qs_tp (show vi _ _ from k_0) hS10231 hM10231
  · refine qs_ite (c_le ei1 k_0) ?_ ?_
    · exact qs_tp (show vi _ _ from k_0) hS hM
    · refine qs_ite (c_eq ei1 k_10) ?_ ?_
      · exact qs_tp (show vi _ _ from k_1) hS hM
      · refine qs_ite (c_eq (p_and (p_shr ei0 (p_sub ei1 k_1)) k_1) k_1) ?_ ?_
        · exact qs_tp (show vi _ _ from k_1) hS hM
        · exact qs_tp (show vi _ _ from k_0) hS hM
set_option maxRecDepth 20000 in
theorem qz_X12_sendsOne_J28 {P : Nat → Nat} {S : zm_S} {M : qm} {i1 : Int32} {qi1 : Int} {t0 : Int32} {qt0 : Int} (hS : Sh L xs P S) (hM : qM P S = M) (ei1 : i1.toInt = qi1) (et0 : t0.toInt = qt0) : qs (zf_X12_sendsOne_J28 20000 2252 i1 t0 S) (qf_X12_sendsOne_J28 20000 qi1 qt0 M) (tO (rp L xs P M vi)) := by
  unfold zf_X12_sendsOne_J28 qf_X12_sendsOne_J28
  refine qs_ite (c_eq et0 k_0) ?_ ?_
  · exact qs_tp (show vi _ _ from k_0) hS hM
  · refine qs_gr hS pl_2252 ts_2252 rfl ?_
    refine qs_gd (fun g10234 => ?_)
    refine qs_xi hM (pa_p hS pl_2262 ts_2262) ei1 g10234 (fun v10233 h10233 => ?_)
    refine qs_ite (c_lt h10233 k_0) ?_ ?_
    · exact qs_tp (show vi _ _ from k_1) hS hM
    · refine qs_gr hS pl_2252 ts_2252 rfl ?_
      refine qs_gd (fun g10237 => ?_)
      refine qs_xi hM (pa_p hS pl_2262 ts_2262) ei1 g10237 (fun v10236 h10236 => ?_)
      refine qs_gr hS pl_2252 ts_2252 rfl ?_
      refine qs_gd (fun g10240 => ?_)
      refine qs_xi hM (pa_p hS pl_2263 ts_2263) ei1 g10240 (fun v10239 h10239 => ?_)
      refine qs_bp (qz_X12_letterBit hS hM h10236 h10239) (fun v10241 S10241 w10241 h10241 hS10241 hM10241 => ?_)
      refine qs_ite (c_eq h10241 k_0) ?_ ?_
      · exact qs_tp (show vi _ _ from k_0) hS10241 hM10241
      · exact qs_tp (show vi _ _ from k_1) hS10241 hM10241
set_option maxRecDepth 20000 in
theorem qz_X12_sendsOne_J23 {P : Nat → Nat} {S : zm_S} {M : qm} {i1 : Int32} {qi1 : Int} (hS : Sh L xs P S) (hM : qM P S = M) (ei1 : i1.toInt = qi1) : qs (zf_X12_sendsOne_J23 20000 2252 i1 S) (qf_X12_sendsOne_J23 20000 qi1 M) (tO (rp L xs P M vi)) := by
  unfold zf_X12_sendsOne_J23 qf_X12_sendsOne_J23
  exact (qz_X12_sendsOne_J28 hS hM ei1 k_1)
set_option maxRecDepth 20000 in
theorem qz_X12_telegramBit {P : Nat → Nat} {S : zm_S} {M : qm} {i1 : Int32} {qi1 : Int} {i2 : Int32} {qi2 : Int} (hS : Sh L xs P S) (hM : qM P S = M) (ei1 : i1.toInt = qi1) (ei2 : i2.toInt = qi2) : qs (zf_X12_telegramBit 20000 2252 i1 i2 S) (qf_X12_telegramBit 20000 qi1 qi2 M) (tO (rp L xs P M vi)) := by
  unfold zf_X12_telegramBit qf_X12_telegramBit
  refine qs_ite (c_lt k_10 (p_mod ei2 k_13)) ?_ ?_
  · exact qs_tp (show vi _ _ from k_1) hS hM
  · refine qs_gr hS pl_2252 ts_2252 rfl ?_
    refine qs_gd (fun g10244 => ?_)
    refine qs_xi hM (pa_p hS pl_2259 ts_2259) (p_add (p_mul k_144 ei1) (p_div ei2 k_13 (by decide))) g10244 (fun v10243 h10243 => ?_)
    refine qs_bp (qz_X12_letterBit hS hM h10243 (p_mod ei2 k_13)) (fun v10245 S10245 w10245 h10245 hS10245 hM10245 => ?_)
    refine qs_ite (c_eq h10245 k_0) ?_ ?_
    · exact qs_tp (show vi _ _ from k_0) hS10245 hM10245
    · exact qs_tp (show vi _ _ from k_1) hS10245 hM10245
set_option maxRecDepth 20000 in
theorem qz_X12_sendsOne {P : Nat → Nat} {S : zm_S} {M : qm} {i1 : Int32} {qi1 : Int} (hS : Sh L xs P S) (hM : qM P S = M) (ei1 : i1.toInt = qi1) : qs (zf_X12_sendsOne 20000 2252 i1 S) (qf_X12_sendsOne 20000 qi1 M) (tO (rp L xs P M vi)) := by
  unfold zf_X12_sendsOne qf_X12_sendsOne
  refine qs_gr hS pl_2252 ts_2252 rfl ?_
  refine qs_gd (fun g10248 => ?_)
  refine qs_xi hM (pa_p hS pl_2260 ts_2260) ei1 g10248 (fun v10247 h10247 => ?_)
  refine qs_ite (c_lt h10247 k_0) ?_ ?_
  · exact (qz_X12_sendsOne_J23 hS hM ei1)
  · refine qs_gr hS pl_2252 ts_2252 rfl ?_
    refine qs_gd (fun g10251 => ?_)
    refine qs_xi hM (pa_p hS pl_2260 ts_2260) ei1 g10251 (fun v10250 h10250 => ?_)
    refine qs_zi hS pl_2252 ts_2252 ?_
    refine qs_bp (qz_X12_telegramBit hS hM ei1 h10250) (fun v10253 S10253 w10253 h10253 hS10253 hM10253 => ?_)
    refine qs_ite (c_eq h10253 k_0) ?_ ?_
    · exact (qz_X12_sendsOne_J28 hS10253 hM10253 ei1 k_0)
    · exact (qz_X12_sendsOne_J23 hS10253 hM10253 ei1)
set_option maxRecDepth 20000 in
theorem qz_X12_bitTime_L85_b (n : Nat) {P : Nat → Nat} {S : zm_S} {M : qm} {i2 : Int32} {qi2 : Int} {i3 : Int32} {qi3 : Int} (hS : Sh L xs P S) (hM : qM P S = M) (ei2 : i2.toInt = qi2) (ei3 : i3.toInt = qi3) : qs (zf_X12_bitTime_L85 20000 (n + 1) 2252 i2 i3 S) (qf_X12_bitTime_L85_b 20000 qi2 qi3 M) (tk (vs (rp L xs P M vu) (rp L xs P M vi)) (qc_X12_bitTime_L85 L xs P M (zf_X12_bitTime_L85 20000 n))) := by
  refine qs_eq (zf_X12_bitTime_L85.eq_2 ..) ?_
  unfold qf_X12_bitTime_L85_b
  refine qs_ite (c_le k_8 ei3) ?_ ?_
  · exact qs_tp2 (show vi _ _ from ei2) hS hM
  · refine qs_ite (c_eq ei2 k_0) ?_ ?_
    · exact (qz_X12_bitTime_J107 hS hM ei3)
    · refine qs_zi hS pl_2252 ts_2252 ?_
      refine qs_bp (qz_X12_sendsOne hS hM ei3) (fun v10255 S10255 w10255 h10255 hS10255 hM10255 => ?_)
      refine qs_ite (c_eq h10255 k_0) ?_ ?_
      · exact (qz_X12_bitTime_J107 hS10255 hM10255 ei3)
      · exact qs_tk ⟨_, _, _, rfl, k_1, (p_add ei3 k_1), hS10255, hM10255⟩
theorem qz_X12_bitTime_L85 (n : Nat) : ∀ {P : Nat → Nat} {S : zm_S} {M : qm} {i2 : Int32} {qi2 : Int} {i3 : Int32} {qi3 : Int} (hS : Sh L xs P S) (hM : qM P S = M) (ei2 : i2.toInt = qi2) (ei3 : i3.toInt = qi3), qs (zf_X12_bitTime_L85 20000 n 2252 i2 i3 S) (qf_X12_bitTime_L85 20000 n qi2 qi3 M) (tO (vs (rp L xs P M vu) (rp L xs P M vi))) := by
  induction n with
  | zero =>
    intros
    exact qs_none
  | succ n ih =>
    intro P S M i2 qi2 i3 qi3 hS hM ei2 ei3
    unfold qf_X12_bitTime_L85
    refine qs_loop (C := (qc_X12_bitTime_L85 L xs P M (zf_X12_bitTime_L85 20000 n))) (qz_X12_bitTime_L85_b n hS hM ei2 ei3) ?_
    rintro x s ⟨_, _, _, rfl, u0, u1, hS2, hM2⟩
    exact ih hS2 hM2 u0 u1
set_option maxRecDepth 20000 in
theorem qz_X12_goOn_J187 {P : Nat → Nat} {S : zm_S} {M : qm} {i2 : Int32} {qi2 : Int} (hS : Sh L xs P S) (hM : qM P S = M) (ei2 : i2.toInt = qi2) : qs (zf_X12_goOn_J187 20000 2252 i2 S) (qf_X12_goOn_J187 20000 qi2 M) (tO (rr L xs P vu)) := by
  unfold zf_X12_goOn_J187 qf_X12_goOn_J187
  refine qs_gr hS pl_2252 ts_2252 rfl ?_
  refine qs_gd (fun g10258 => ?_)
  refine qs_xi hM (pa_p hS pl_2259 ts_2259) (p_add ei2 k_23) g10258 (fun v10257 h10257 => ?_)
  refine qs_gd (fun g10260 => ?_)
  refine qs_si hS hM (pa_p hS pl_2259 ts_2259) (p_add ei2 k_23) g10260 (p_add h10257 k_1) (fun S10259 M10259 hS10259 hM10259 => ?_)
  exact qs_tr (show vu _ _ from trivial) hS10259 hM10259
set_option maxRecDepth 20000 in
theorem qz_X12_goOn_J106 {P : Nat → Nat} {S : zm_S} {M : qm} {i1 : Int32} {qi1 : Int} {i2 : Int32} {qi2 : Int} (hS : Sh L xs P S) (hM : qM P S = M) (ei1 : i1.toInt = qi1) (ei2 : i2.toInt = qi2) : qs (zf_X12_goOn_J106 20000 2252 i1 i2 S) (qf_X12_goOn_J106 20000 qi1 qi2 M) (tO (rr L xs P vu)) := by
  unfold zf_X12_goOn_J106 qf_X12_goOn_J106
  refine qs_gr hS pl_2252 ts_2252 rfl ?_
  refine qs_gd (fun g10263 => ?_)
  refine qs_xi hM (pa_p hS pl_2260 ts_2260) ei1 g10263 (fun v10262 h10262 => ?_)
  refine qs_gd (fun g10265 => ?_)
  refine qs_si hS hM (pa_p hS pl_2260 ts_2260) ei1 g10265 (p_add h10262 k_1) (fun S10264 M10264 hS10264 hM10264 => ?_)
  refine qs_gr hS10264 pl_2252 ts_2252 rfl ?_
  refine qs_gd (fun g10268 => ?_)
  refine qs_xi hM10264 (pa_p hS10264 pl_2260 ts_2260) ei1 g10268 (fun v10267 h10267 => ?_)
  refine qs_gr hS10264 pl_2252 ts_2252 rfl ?_
  refine qs_gd (fun g10271 => ?_)
  refine qs_xi hM10264 (pa_p hS10264 pl_2259 ts_2259) (p_add ei2 k_21) g10271 (fun v10270 h10270 => ?_)
  refine qs_ite (c_eq h10267 (p_sub (p_mul k_13 h10270) k_2)) ?_ ?_
  · refine qs_gr hS10264 pl_2252 ts_2252 rfl ?_
    refine qs_gd (fun g10274 => ?_)
    refine qs_si hS10264 hM10264 (pa_p hS10264 pl_2260 ts_2260) ei1 g10274 k_m1 (fun S10273 M10273 hS10273 hM10273 => ?_)
    refine qs_gr hS10273 pl_2252 ts_2252 rfl ?_
    refine qs_gi hS10273 hM10273 pl_2252 ts_2252 (z := 0) rfl rfl (fun v10276 h10276 => ?_)
    refine qs_gd (fun g10278 => ?_)
    refine qs_si hS10273 hM10273 (pa_p hS10273 pl_2261 ts_2261) ei1 g10278 (p_add h10276 k_28) (fun S10277 M10277 hS10277 hM10277 => ?_)
    refine qs_gr hS10277 pl_2252 ts_2252 rfl ?_
    refine qs_gd (fun g10281 => ?_)
    refine qs_xi hM10277 (pa_p hS10277 pl_2259 ts_2259) (p_add ei2 k_23) g10281 (fun v10280 h10280 => ?_)
    refine qs_ite (c_eq h10280 k_0) ?_ ?_
    · refine qs_gr hS10277 pl_2252 ts_2252 rfl ?_
      refine qs_gd (fun g10284 => ?_)
      refine qs_xi hM10277 (pa_p hS10277 pl_2259 ts_2259) ei2 g10284 (fun v10283 h10283 => ?_)
      refine qs_gd (fun g10286 => ?_)
      refine qs_si hS10277 hM10277 (pa_p hS10277 pl_2259 ts_2259) ei2 g10286 (p_sub h10283 k_32) (fun S10285 M10285 hS10285 hM10285 => ?_)
      refine qs_zi hS10285 pl_2252 ts_2252 ?_
      refine qs_b (qz_X12_check hS10285 hM10285 ei2) (fun v10288 S10288 w10288 M10288 h10288 hS10288 hM10288 => ?_)
      exact (qz_X12_goOn_J187 hS10288 hM10288 ei2)
    · exact (qz_X12_goOn_J187 hS10277 hM10277 ei2)
  · exact qs_tr (show vu _ _ from trivial) hS10264 hM10264
set_option maxRecDepth 20000 in
theorem qz_X12_goOn_J46 {P : Nat → Nat} {S : zm_S} {M : qm} {i1 : Int32} {qi1 : Int} (hS : Sh L xs P S) (hM : qM P S = M) (ei1 : i1.toInt = qi1) : qs (zf_X12_goOn_J46 20000 2252 i1 S) (qf_X12_goOn_J46 20000 qi1 M) (tO (rr L xs P vu)) := by
  unfold zf_X12_goOn_J46 qf_X12_goOn_J46
  refine qs_gr hS pl_2252 ts_2252 rfl ?_
  refine qs_gd (fun g10291 => ?_)
  refine qs_xi hM (pa_p hS pl_2260 ts_2260) ei1 g10291 (fun v10290 h10290 => ?_)
  refine qs_ite (c_le k_0 h10290) ?_ ?_
  · refine qs_gr hS pl_2252 ts_2252 rfl ?_
    refine qs_gd (fun g10294 => ?_)
    refine qs_xi hM (pa_p hS pl_2260 ts_2260) ei1 g10294 (fun v10293 h10293 => ?_)
    refine qs_zi hS pl_2252 ts_2252 ?_
    refine qs_bp (qz_X12_telegramBit hS hM ei1 h10293) (fun v10296 S10296 w10296 h10296 hS10296 hM10296 => ?_)
    refine qs_ite (c_eq h10296 k_0) ?_ ?_
    · exact (qz_X12_goOn_J106 hS10296 hM10296 ei1 (p_mul k_144 ei1))
    · refine qs_gr hS10296 pl_2252 ts_2252 rfl ?_
      refine qs_gi hS10296 hM10296 pl_2252 ts_2252 (z := 0) rfl rfl (fun v10298 h10298 => ?_)
      refine qs_gd (fun g10300 => ?_)
      refine qs_xi hM10296 (pa_p hS10296 pl_2253 ts_2253) h10298 g10300 (fun v10299 h10299 => ?_)
      refine qs_ite (c_eq h10299 k_0) ?_ ?_
      · refine qs_gr hS10296 pl_2252 ts_2252 rfl ?_
        refine qs_gd (fun g10303 => ?_)
        refine qs_si hS10296 hM10296 (pa_p hS10296 pl_2260 ts_2260) ei1 g10303 k_m1 (fun S10302 M10302 hS10302 hM10302 => ?_)
        refine qs_gr hS10302 pl_2252 ts_2252 rfl ?_
        refine qs_gd (fun g10306 => ?_)
        refine qs_xi hM10302 (pa_p hS10302 pl_2266 ts_2266) ei1 g10306 (fun v10305 h10305 => ?_)
        refine qs_gd (fun g10308 => ?_)
        refine qs_si hS10302 hM10302 (pa_p hS10302 pl_2266 ts_2266) ei1 g10308 (p_add h10305 k_1) (fun S10307 M10307 hS10307 hM10307 => ?_)
        exact qs_tr (show vu _ _ from trivial) hS10307 hM10307
      · exact (qz_X12_goOn_J106 hS10296 hM10296 ei1 (p_mul k_144 ei1))
  · exact qs_tr (show vu _ _ from trivial) hS hM
set_option maxRecDepth 20000 in
theorem qz_X12_goOn_J45 {P : Nat → Nat} {S : zm_S} {M : qm} {i1 : Int32} {qi1 : Int} {t1 : Int32} {qt1 : Int} {t2 : Int32} {qt2 : Int} (hS : Sh L xs P S) (hM : qM P S = M) (ei1 : i1.toInt = qi1) (et1 : t1.toInt = qt1) (et2 : t2.toInt = qt2) : qs (zf_X12_goOn_J45 20000 2252 i1 2262 t1 t2 S) (qf_X12_goOn_J45 20000 qi1 qt1 qt2 M) (tO (rr L xs P vu)) := by
  unfold zf_X12_goOn_J45 qf_X12_goOn_J45
  refine qs_gd (fun g10310 => ?_)
  refine qs_si hS hM (pa_p hS pl_2262 ts_2262) et1 g10310 et2 (fun S10309 M10309 hS10309 hM10309 => ?_)
  exact (qz_X12_goOn_J46 hS10309 hM10309 ei1)
set_option maxRecDepth 20000 in
theorem qz_X12_goOn {P : Nat → Nat} {S : zm_S} {M : qm} {i1 : Int32} {qi1 : Int} (hS : Sh L xs P S) (hM : qM P S = M) (ei1 : i1.toInt = qi1) : qs (zf_X12_goOn 20000 2252 i1 S) (qf_X12_goOn 20000 qi1 M) (tO (rr L xs P vu)) := by
  unfold zf_X12_goOn qf_X12_goOn
  refine qs_gr hS pl_2252 ts_2252 rfl ?_
  refine qs_gd (fun g10313 => ?_)
  refine qs_xi hM (pa_p hS pl_2262 ts_2262) ei1 g10313 (fun v10312 h10312 => ?_)
  refine qs_ite (c_lt h10312 k_0) ?_ ?_
  · exact (qz_X12_goOn_J46 hS hM ei1)
  · refine qs_gr hS pl_2252 ts_2252 rfl ?_
    refine qs_gd (fun g10316 => ?_)
    refine qs_xi hM (pa_p hS pl_2263 ts_2263) ei1 g10316 (fun v10315 h10315 => ?_)
    refine qs_gd (fun g10318 => ?_)
    refine qs_si hS hM (pa_p hS pl_2263 ts_2263) ei1 g10318 (p_add h10315 k_1) (fun S10317 M10317 hS10317 hM10317 => ?_)
    refine qs_gr hS10317 pl_2252 ts_2252 rfl ?_
    refine qs_gr hS10317 pl_2252 ts_2252 rfl ?_
    refine qs_gd (fun g10322 => ?_)
    refine qs_xi hM10317 (pa_p hS10317 pl_2263 ts_2263) ei1 g10322 (fun v10321 h10321 => ?_)
    refine qs_ite (c_eq h10321 k_11) ?_ ?_
    · exact (qz_X12_goOn_J45 hS10317 hM10317 ei1 ei1 k_m1)
    · refine qs_gr hS10317 pl_2252 ts_2252 rfl ?_
      refine qs_gd (fun g10325 => ?_)
      refine qs_xi hM10317 (pa_p hS10317 pl_2262 ts_2262) ei1 g10325 (fun v10324 h10324 => ?_)
      exact (qz_X12_goOn_J45 hS10317 hM10317 ei1 ei1 h10324)
set_option maxRecDepth 20000 in
theorem qz_X12_bitTime_L127_b (n : Nat) {P : Nat → Nat} {S : zm_S} {M : qm} {i3 : Int32} {qi3 : Int} (hS : Sh L xs P S) (hM : qM P S = M) (ei3 : i3.toInt = qi3) : qs (zf_X12_bitTime_L127 20000 (n + 1) 2252 i3 S) (qf_X12_bitTime_L127_b 20000 qi3 M) (tk (vs (rr L xs P vu) (rr L xs P vu)) (qc_X12_bitTime_L127 L xs P (zf_X12_bitTime_L127 20000 n))) := by
  refine qs_eq (zf_X12_bitTime_L127.eq_2 ..) ?_
  unfold qf_X12_bitTime_L127_b
  refine qs_ite (c_le k_8 ei3) ?_ ?_
  · exact qs_tr2 (show vu _ _ from trivial) hS hM
  · refine qs_zi hS pl_2252 ts_2252 ?_
    refine qs_b (qz_X12_goOn hS hM ei3) (fun v10327 S10327 w10327 M10327 h10327 hS10327 hM10327 => ?_)
    exact qs_tk ⟨_, _, rfl, (p_add ei3 k_1), hS10327, hM10327⟩
theorem qz_X12_bitTime_L127 (n : Nat) : ∀ {P : Nat → Nat} {S : zm_S} {M : qm} {i3 : Int32} {qi3 : Int} (hS : Sh L xs P S) (hM : qM P S = M) (ei3 : i3.toInt = qi3), qs (zf_X12_bitTime_L127 20000 n 2252 i3 S) (qf_X12_bitTime_L127 20000 n qi3 M) (tO (vs (rr L xs P vu) (rr L xs P vu))) := by
  induction n with
  | zero =>
    intros
    exact qs_none
  | succ n ih =>
    intro P S M i3 qi3 hS hM ei3
    unfold qf_X12_bitTime_L127
    refine qs_loop (C := (qc_X12_bitTime_L127 L xs P (zf_X12_bitTime_L127 20000 n))) (qz_X12_bitTime_L127_b n hS hM ei3) ?_
    rintro x s ⟨_, _, rfl, u0, hS2, hM2⟩
    exact ih hS2 hM2 u0
set_option maxRecDepth 20000 in
theorem qz_X12_starts_J21 {P : Nat → Nat} {S : zm_S} {M : qm} {t1 : Int32} {qt1 : Int} (hS : Sh L xs P S) (hM : qM P S = M) (et1 : t1.toInt = qt1) : qs (zf_X12_starts_J21 20000 2252 2252 t1 S) (qf_X12_starts_J21 20000 qt1 M) (tO (rr L xs P vu)) := by
  unfold zf_X12_starts_J21 qf_X12_starts_J21
  refine qs_pi hS hM pl_2252 ts_2252 (z := 16) rfl rfl et1 (fun S10328 M10328 hS10328 hM10328 => ?_)
  refine qs_gi hS10328 hM10328 pl_2252 ts_2252 (z := 16) rfl rfl (fun v10329 h10329 => ?_)
  refine qs_pi hS10328 hM10328 pl_2252 ts_2252 (z := 28) rfl rfl h10329 (fun S10330 M10330 hS10330 hM10330 => ?_)
  refine qs_pi hS10330 hM10330 pl_2252 ts_2252 (z := 17) rfl rfl k_0 (fun S10331 M10331 hS10331 hM10331 => ?_)
  refine qs_pi hS10331 hM10331 pl_2252 ts_2252 (z := 19) rfl rfl k_0 (fun S10332 M10332 hS10332 hM10332 => ?_)
  exact qs_tr (show vu _ _ from trivial) hS10332 hM10332
set_option maxRecDepth 20000 in
theorem qz_X12_starts {P : Nat → Nat} {S : zm_S} {M : qm}  (hS : Sh L xs P S) (hM : qM P S = M)  : qs (zf_X12_starts 20000 2252 S) (qf_X12_starts 20000 M) (tO (rr L xs P vu)) := by
  unfold zf_X12_starts qf_X12_starts
  refine qs_gr hS pl_2252 ts_2252 rfl ?_
  refine qs_gi hS hM pl_2252 ts_2252 (z := 0) rfl rfl (fun v10334 h10334 => ?_)
  refine qs_gd (fun g10336 => ?_)
  refine qs_xi hM (pa_p hS pl_2253 ts_2253) h10334 g10336 (fun v10335 h10335 => ?_)
  refine qs_ite (c_eq h10335 k_0) ?_ ?_
  · refine qs_gi hS hM pl_2252 ts_2252 (z := 0) rfl rfl (fun v10337 h10337 => ?_)
    exact (qz_X12_starts_J21 hS hM h10337)
  · exact (qz_X12_starts_J21 hS hM k_0)
set_option maxRecDepth 20000 in
theorem qz_X12_reads_J187 {P : Nat → Nat} {S : zm_S} {M : qm}  (hS : Sh L xs P S) (hM : qM P S = M)  : qs (zf_X12_reads_J187 20000 2252 S) (qf_X12_reads_J187 20000 M) (tO (rr L xs P vi)) := by
  unfold zf_X12_reads_J187 qf_X12_reads_J187
  refine qs_gi hS hM pl_2252 ts_2252 (z := 0) rfl rfl (fun v10338 h10338 => ?_)
  refine qs_gi hS hM pl_2252 ts_2252 (z := 20) rfl rfl (fun v10339 h10339 => ?_)
  refine qs_ite (c_eq h10338 (p_add h10339 k_3)) ?_ ?_
  · exact qs_tr (show vi _ _ from k_1) hS hM
  · refine qs_gr hS pl_2252 ts_2252 rfl ?_
    refine qs_gi hS hM pl_2252 ts_2252 (z := 0) rfl rfl (fun v10341 h10341 => ?_)
    refine qs_gd (fun g10343 => ?_)
    refine qs_xi hM (pa_p hS pl_2253 ts_2253) h10341 g10343 (fun v10342 h10342 => ?_)
    refine qs_ite (c_eq h10342 k_0) ?_ ?_
    · exact qs_tr (show vi _ _ from k_1) hS hM
    · exact qs_tr (show vi _ _ from k_0) hS hM
set_option maxRecDepth 20000 in
theorem qz_X12_reads_J52 {P : Nat → Nat} {S : zm_S} {M : qm} {i2 : Int32} {qi2 : Int} {t0 : Int32} {qt0 : Int} {t1 : Int32} {qt1 : Int} (hS : Sh L xs P S) (hM : qM P S = M) (ei2 : i2.toInt = qi2) (et0 : t0.toInt = qt0) (et1 : t1.toInt = qt1) {k : Nat → Int32 → Int32 → zm_S → Option ((Int32 × zm_S) ⊕ ((Int32) × zm_S))} : qs (zf_X12_reads_J52 20000 k 2252 i2 t0 t1 S) (qf_X12_reads_J52 20000 qi2 qt0 qt1 M) (tk (vs (rp L xs P M vi) (rp L xs P M vi)) (qc_X12_reads_L26 L xs P M k)) := by
  unfold zf_X12_reads_J52 qf_X12_reads_J52
  exact qs_tk ⟨_, _, _, rfl, (p_add et0 et1), (p_addm ei2 k_m1), hS, hM⟩
set_option maxRecDepth 20000 in
theorem qz_X12_reads_L26_b (n : Nat) {P : Nat → Nat} {S : zm_S} {M : qm} {i1 : Int32} {qi1 : Int} {i2 : Int32} {qi2 : Int} (hS : Sh L xs P S) (hM : qM P S = M) (ei1 : i1.toInt = qi1) (ei2 : i2.toInt = qi2) : qs (zf_X12_reads_L26 20000 (n + 1) 2252 i1 i2 S) (qf_X12_reads_L26_b 20000 qi1 qi2 M) (tk (vs (rp L xs P M vi) (rp L xs P M vi)) (qc_X12_reads_L26 L xs P M (zf_X12_reads_L26 20000 n))) := by
  refine qs_eq (zf_X12_reads_L26.eq_2 ..) ?_
  unfold qf_X12_reads_L26_b
  refine qs_ite (c_le ei2 k_0) ?_ ?_
  · exact qs_tp2 (show vi _ _ from ei1) hS hM
  · refine qs_gr hS pl_2252 ts_2252 rfl ?_
    refine qs_gi hS hM pl_2252 ts_2252 (z := 28) rfl rfl (fun v10345 h10345 => ?_)
    refine qs_gd (fun g10347 => ?_)
    refine qs_xi hM (pa_p hS pl_2253 ts_2253) (p_add h10345 ei2) g10347 (fun v10346 h10346 => ?_)
    refine qs_ite (c_eq h10346 k_0) ?_ ?_
    · exact (qz_X12_reads_J52 hS hM ei2 (p_mul k_2 ei1) k_0)
    · exact (qz_X12_reads_J52 hS hM ei2 (p_mul k_2 ei1) k_1)
theorem qz_X12_reads_L26 (n : Nat) : ∀ {P : Nat → Nat} {S : zm_S} {M : qm} {i1 : Int32} {qi1 : Int} {i2 : Int32} {qi2 : Int} (hS : Sh L xs P S) (hM : qM P S = M) (ei1 : i1.toInt = qi1) (ei2 : i2.toInt = qi2), qs (zf_X12_reads_L26 20000 n 2252 i1 i2 S) (qf_X12_reads_L26 20000 n qi1 qi2 M) (tO (vs (rp L xs P M vi) (rp L xs P M vi))) := by
  induction n with
  | zero =>
    intros
    exact qs_none
  | succ n ih =>
    intro P S M i1 qi1 i2 qi2 hS hM ei1 ei2
    unfold qf_X12_reads_L26
    refine qs_loop (C := (qc_X12_reads_L26 L xs P M (zf_X12_reads_L26 20000 n))) (qz_X12_reads_L26_b n hS hM ei1 ei2) ?_
    rintro x s ⟨_, _, _, rfl, u0, u1, hS2, hM2⟩
    exact ih hS2 hM2 u0 u1
set_option maxRecDepth 20000 in
theorem qz_X12_reads_J114 {P : Nat → Nat} {S : zm_S} {M : qm} {i1 : Int32} {qi1 : Int} {t1 : Int32} {qt1 : Int} (hS : Sh L xs P S) (hM : qM P S = M) (ei1 : i1.toInt = qi1) (et1 : t1.toInt = qt1) : qs (zf_X12_reads_J114 20000 2252 i1 2252 t1 S) (qf_X12_reads_J114 20000 qi1 qt1 M) (tO (rr L xs P vi)) := by
  unfold zf_X12_reads_J114 qf_X12_reads_J114
  refine qs_gd (fun g10349 => ?_)
  refine qs_pz hS hM pl_2252 ts_2252 (z := 19) rfl rfl et1 g10349 (fun S10348 M10348 hS10348 hM10348 => ?_)
  refine qs_gr hS10348 pl_2252 ts_2252 rfl ?_
  refine qs_gi hS10348 hM10348 pl_2252 ts_2252 (z := 17) rfl rfl (fun v10351 h10351 => ?_)
  refine qs_gd (fun g10353 => ?_)
  refine qs_si hS10348 hM10348 (pa_p hS10348 pl_2267 ts_2267) h10351 g10353 ei1 (fun S10352 M10352 hS10352 hM10352 => ?_)
  refine qs_gi hS10352 hM10352 pl_2252 ts_2252 (z := 17) rfl rfl (fun v10354 h10354 => ?_)
  refine qs_pi hS10352 hM10352 pl_2252 ts_2252 (z := 17) rfl rfl (p_add h10354 k_1) (fun S10355 M10355 hS10355 hM10355 => ?_)
  refine qs_gi hS10355 hM10355 pl_2252 ts_2252 (z := 0) rfl rfl (fun v10356 h10356 => ?_)
  refine qs_pi hS10355 hM10355 pl_2252 ts_2252 (z := 20) rfl rfl h10356 (fun S10357 M10357 hS10357 hM10357 => ?_)
  refine qs_pi hS10357 hM10357 pl_2252 ts_2252 (z := 28) rfl rfl k_0 (fun S10358 M10358 hS10358 hM10358 => ?_)
  exact qs_tr (show vi _ _ from k_0) hS10358 hM10358
set_option maxRecDepth 20000 in
theorem qz_X12_reads_J109 {P : Nat → Nat} {S : zm_S} {M : qm} {i1 : Int32} {qi1 : Int} (hS : Sh L xs P S) (hM : qM P S = M) (ei1 : i1.toInt = qi1) : qs (zf_X12_reads_J109 20000 2252 i1 2252 S) (qf_X12_reads_J109 20000 qi1 M) (tO (rr L xs P vi)) := by
  unfold zf_X12_reads_J109 qf_X12_reads_J109
  exact (qz_X12_reads_J114 hS hM ei1 k_1)
set_option maxRecDepth 20000 in
theorem qz_X12_reads_J94 {P : Nat → Nat} {S : zm_S} {M : qm} {i1 : Int32} {qi1 : Int} {t1 : Int32} {qt1 : Int} {t2 : Int32} {qt2 : Int} (hS : Sh L xs P S) (hM : qM P S = M) (ei1 : i1.toInt = qi1) (et1 : t1.toInt = qt1) (et2 : t2.toInt = qt2) : qs (zf_X12_reads_J94 20000 2252 i1 2252 t1 t2 S) (qf_X12_reads_J94 20000 qi1 qt1 qt2 M) (tO (rr L xs P vi)) := by
  unfold zf_X12_reads_J94 qf_X12_reads_J94
  refine qs_ite (c_eq et1 et2) ?_ ?_
  · refine qs_gr hS pl_2252 ts_2252 rfl ?_
    refine qs_gi hS hM pl_2252 ts_2252 (z := 0) rfl rfl (fun v10360 h10360 => ?_)
    refine qs_gd (fun g10362 => ?_)
    refine qs_xi hM (pa_p hS pl_2253 ts_2253) h10360 g10362 (fun v10361 h10361 => ?_)
    refine qs_ite (c_eq h10361 k_0) ?_ ?_
    · exact (qz_X12_reads_J109 hS hM ei1)
    · exact (qz_X12_reads_J114 hS hM ei1 k_0)
  · exact (qz_X12_reads_J109 hS hM ei1)
set_option maxRecDepth 20000 in
theorem qz_X12_reads {P : Nat → Nat} {S : zm_S} {M : qm}  (hS : Sh L xs P S) (hM : qM P S = M)  : qs (zf_X12_reads 20000 2252 S) (qf_X12_reads 20000 M) (tO (rr L xs P vi)) := by
  unfold zf_X12_reads qf_X12_reads
  refine qs_gi hS hM pl_2252 ts_2252 (z := 28) rfl rfl (fun v10363 h10363 => ?_)
  refine qs_ite (c_le h10363 k_0) ?_ ?_
  · refine qs_gi hS hM pl_2252 ts_2252 (z := 0) rfl rfl (fun v10364 h10364 => ?_)
    refine qs_gi hS hM pl_2252 ts_2252 (z := 20) rfl rfl (fun v10365 h10365 => ?_)
    refine qs_ite (c_eq h10364 (p_add h10365 k_3)) ?_ ?_
    · refine qs_gr hS pl_2252 ts_2252 rfl ?_
      refine qs_gi hS hM pl_2252 ts_2252 (z := 0) rfl rfl (fun v10367 h10367 => ?_)
      refine qs_gd (fun g10369 => ?_)
      refine qs_xi hM (pa_p hS pl_2253 ts_2253) h10367 g10369 (fun v10368 h10368 => ?_)
      refine qs_ite (c_eq h10368 k_0) ?_ ?_
      · refine qs_gi hS hM pl_2252 ts_2252 (z := 0) rfl rfl (fun v10370 h10370 => ?_)
        refine qs_pi hS hM pl_2252 ts_2252 (z := 28) rfl rfl h10370 (fun S10371 M10371 hS10371 hM10371 => ?_)
        exact qs_tr (show vi _ _ from k_0) hS10371 hM10371
      · exact (qz_X12_reads_J187 hS hM )
    · exact (qz_X12_reads_J187 hS hM )
  · refine qs_gi hS hM pl_2252 ts_2252 (z := 0) rfl rfl (fun v10372 h10372 => ?_)
    refine qs_gi hS hM pl_2252 ts_2252 (z := 28) rfl rfl (fun v10373 h10373 => ?_)
    refine qs_ite (c_eq h10372 (p_add h10373 k_10)) ?_ ?_
    · refine qs_lp (qz_X12_reads_L26 20000 hS hM k_0 k_8) ?_ ?_
      · intro v10375 S10375 w10375 h10375 hS10375 hM10375
        dsimp only
        exact qs_tr h10375 hS10375 hM10375
      · intro v10375 S10375 w10375 h10375 hS10375 hM10375
        dsimp only
        refine qs_gi hS10375 hM10375 pl_2252 ts_2252 (z := 19) rfl rfl (fun v10376 h10376 => ?_)
        refine qs_ite (c_eq h10376 k_0) ?_ ?_
        · refine qs_gr hS10375 pl_2252 ts_2252 rfl ?_
          refine qs_gi hS10375 hM10375 pl_2252 ts_2252 (z := 0) rfl rfl (fun v10378 h10378 => ?_)
          refine qs_gd (fun g10380 => ?_)
          refine qs_xi hM10375 (pa_p hS10375 pl_2253 ts_2253) (p_sub h10378 k_1) g10380 (fun v10379 h10379 => ?_)
          refine qs_bp (qz_X12_ones hS10375 hM10375 h10375) (fun v10381 S10381 w10381 h10381 hS10381 hM10381 => ?_)
          refine qs_ite (c_eq (p_mod h10381 k_2) k_1) ?_ ?_
          · exact (qz_X12_reads_J94 hS10381 hM10381 h10375 h10379 k_1)
          · exact (qz_X12_reads_J94 hS10381 hM10381 h10375 h10379 k_0)
        · exact (qz_X12_reads_J109 hS10375 hM10375 h10375)
    · exact qs_tr (show vi _ _ from k_0) hS hM
set_option maxRecDepth 20000 in
theorem qz_X12_hear_J265 {P : Nat → Nat} {S : zm_S} {M : qm} {t1 : Int32} {qt1 : Int} (hS : Sh L xs P S) (hM : qM P S = M) (et1 : t1.toInt = qt1) : qs (zf_X12_hear_J265 20000 2252 2269 t1 S) (qf_X12_hear_J265 20000 qt1 M) (tO (rr L xs P vu)) := by
  unfold zf_X12_hear_J265 qf_X12_hear_J265
  refine qs_gd (fun g10383 => ?_)
  refine qs_xi hM (pa_p hS pl_2269 ts_2269) et1 g10383 (fun v10382 h10382 => ?_)
  refine qs_gd (fun g10385 => ?_)
  refine qs_si hS hM (pa_p hS pl_2269 ts_2269) et1 g10385 (p_add h10382 k_1) (fun S10384 M10384 hS10384 hM10384 => ?_)
  refine qs_zi hS10384 pl_2252 ts_2252 ?_
  refine qs_b (qz_X12_starts hS10384 hM10384 ) (fun v10387 S10387 w10387 M10387 h10387 hS10387 hM10387 => ?_)
  exact qs_tr (show vu _ _ from trivial) hS10387 hM10387
set_option maxRecDepth 20000 in
theorem qz_X12_hear_J235 {P : Nat → Nat} {S : zm_S} {M : qm} {i1 : Int32} {qi1 : Int} {t1 : Int32} {qt1 : Int} (hS : Sh L xs P S) (hM : qM P S = M) (ei1 : i1.toInt = qi1) (et1 : t1.toInt = qt1) : qs (zf_X12_hear_J235 20000 2252 i1 2252 t1 S) (qf_X12_hear_J235 20000 qi1 qt1 M) (tO (rr L xs P vu)) := by
  unfold zf_X12_hear_J235 qf_X12_hear_J235
  refine qs_pi hS hM pl_2252 ts_2252 (z := 26) rfl rfl et1 (fun S10388 M10388 hS10388 hM10388 => ?_)
  refine qs_gr hS10388 pl_2252 ts_2252 rfl ?_
  refine qs_ite (c_eq ei1 k_0) ?_ ?_
  · exact (qz_X12_hear_J265 hS10388 hM10388 k_2)
  · refine qs_gi hS10388 hM10388 pl_2252 ts_2252 (z := 26) rfl rfl (fun v10390 h10390 => ?_)
    refine qs_ite (c_eq h10390 k_204) ?_ ?_
    · exact (qz_X12_hear_J265 hS10388 hM10388 k_3)
    · exact (qz_X12_hear_J265 hS10388 hM10388 k_4)
set_option maxRecDepth 20000 in
theorem qz_X12_hear_J216 {P : Nat → Nat} {S : zm_S} {M : qm} {t0 : Int32} {qt0 : Int} (hS : Sh L xs P S) (hM : qM P S = M) (et0 : t0.toInt = qt0) : qs (zf_X12_hear_J216 20000 2252 t0 S) (qf_X12_hear_J216 20000 qt0 M) (tO (rr L xs P vu)) := by
  unfold zf_X12_hear_J216 qf_X12_hear_J216
  refine qs_ite (c_eq et0 k_0) ?_ ?_
  · refine qs_gi hS hM pl_2252 ts_2252 (z := 26) rfl rfl (fun v10391 h10391 => ?_)
    exact (qz_X12_hear_J235 hS hM et0 h10391)
  · refine qs_gr hS pl_2252 ts_2252 rfl ?_
    refine qs_xi (i := 0) hM (pa_p hS pl_2267 ts_2267) k_0 (by decide) (fun v10393 h10393 => ?_)
    exact (qz_X12_hear_J235 hS hM et0 h10393)
set_option maxRecDepth 20000 in
theorem qz_X12_hear_J215 {P : Nat → Nat} {S : zm_S} {M : qm}  (hS : Sh L xs P S) (hM : qM P S = M)  : qs (zf_X12_hear_J215 20000 2252 S) (qf_X12_hear_J215 20000 M) (tO (rr L xs P vu)) := by
  unfold zf_X12_hear_J215 qf_X12_hear_J215
  exact (qz_X12_hear_J216 hS hM k_0)
set_option maxRecDepth 20000 in
theorem qz_X12_hear_J170 {P : Nat → Nat} {S : zm_S} {M : qm}  (hS : Sh L xs P S) (hM : qM P S = M)  : qs (zf_X12_hear_J170 20000 2252 S) (qf_X12_hear_J170 20000 M) (tO (rr L xs P vu)) := by
  unfold zf_X12_hear_J170 qf_X12_hear_J170
  refine qs_pi hS hM pl_2252 ts_2252 (z := 25) rfl rfl k_1 (fun S10394 M10394 hS10394 hM10394 => ?_)
  refine qs_gi hS10394 hM10394 pl_2252 ts_2252 (z := 24) rfl rfl (fun v10395 h10395 => ?_)
  refine qs_ite (c_le h10395 k_0) ?_ ?_
  · exact (qz_X12_hear_J215 hS10394 hM10394 )
  · refine qs_gi hS10394 hM10394 pl_2252 ts_2252 (z := 16) rfl rfl (fun v10396 h10396 => ?_)
    refine qs_gi hS10394 hM10394 pl_2252 ts_2252 (z := 24) rfl rfl (fun v10397 h10397 => ?_)
    refine qs_ite (c_eq h10396 (p_add h10397 k_14)) ?_ ?_
    · refine qs_gi hS10394 hM10394 pl_2252 ts_2252 (z := 17) rfl rfl (fun v10398 h10398 => ?_)
      refine qs_ite (c_eq h10398 k_1) ?_ ?_
      · refine qs_gi hS10394 hM10394 pl_2252 ts_2252 (z := 19) rfl rfl (fun v10399 h10399 => ?_)
        refine qs_ite (c_eq h10399 k_0) ?_ ?_
        · exact (qz_X12_hear_J216 hS10394 hM10394 k_1)
        · exact (qz_X12_hear_J215 hS10394 hM10394 )
      · exact (qz_X12_hear_J215 hS10394 hM10394 )
    · exact (qz_X12_hear_J215 hS10394 hM10394 )
set_option maxRecDepth 20000 in
theorem qz_X12_hear_L42_b (n : Nat) {P : Nat → Nat} {S : zm_S} {M : qm} {i1 : Int32} {qi1 : Int} {i2 : Int32} {qi2 : Int} (hS : Sh L xs P S) (hM : qM P S = M) (ei1 : i1.toInt = qi1) (ei2 : i2.toInt = qi2) : qs (zf_X12_hear_L42 20000 (n + 1) 2252 i1 i2 S) (qf_X12_hear_L42_b 20000 qi1 qi2 M) (tk (vs (rr L xs P vu) (rr L xs P vi)) (qc_X12_hear_L42 L xs P (zf_X12_hear_L42 20000 n))) := by
  refine qs_eq (zf_X12_hear_L42.eq_2 ..) ?_
  unfold qf_X12_hear_L42_b
  refine qs_gi hS hM pl_2252 ts_2252 (z := 17) rfl rfl (fun v10400 h10400 => ?_)
  refine qs_ite (c_le h10400 ei2) ?_ ?_
  · exact qs_tr2 (show vi _ _ from ei1) hS hM
  · refine qs_gr hS pl_2252 ts_2252 rfl ?_
    refine qs_gr hS pl_2252 ts_2252 rfl ?_
    refine qs_gd (fun g10404 => ?_)
    refine qs_xi hM (pa_p hS pl_2267 ts_2267) ei2 g10404 (fun v10403 h10403 => ?_)
    refine qs_gd (fun g10406 => ?_)
    refine qs_si hS hM (pa_p hS pl_2268 ts_2268) ei2 g10406 h10403 (fun S10405 M10405 hS10405 hM10405 => ?_)
    refine qs_gr hS10405 pl_2252 ts_2252 rfl ?_
    refine qs_gd (fun g10409 => ?_)
    refine qs_xi hM10405 (pa_p hS10405 pl_2267 ts_2267) ei2 g10409 (fun v10408 h10408 => ?_)
    exact qs_tk ⟨_, _, _, rfl, (p_xor ei1 h10408), (p_add ei2 k_1), hS10405, hM10405⟩
theorem qz_X12_hear_L42 (n : Nat) : ∀ {P : Nat → Nat} {S : zm_S} {M : qm} {i1 : Int32} {qi1 : Int} {i2 : Int32} {qi2 : Int} (hS : Sh L xs P S) (hM : qM P S = M) (ei1 : i1.toInt = qi1) (ei2 : i2.toInt = qi2), qs (zf_X12_hear_L42 20000 n 2252 i1 i2 S) (qf_X12_hear_L42 20000 n qi1 qi2 M) (tO (vs (rr L xs P vu) (rr L xs P vi))) := by
  induction n with
  | zero =>
    intros
    exact qs_none
  | succ n ih =>
    intro P S M i1 qi1 i2 qi2 hS hM ei1 ei2
    unfold qf_X12_hear_L42
    refine qs_loop (C := (qc_X12_hear_L42 L xs P (zf_X12_hear_L42 20000 n))) (qz_X12_hear_L42_b n hS hM ei1 ei2) ?_
    rintro x s ⟨_, _, _, rfl, u0, u1, hS2, hM2⟩
    exact ih hS2 hM2 u0 u1
set_option maxRecDepth 20000 in
theorem qz_X12_hear_J165 {P : Nat → Nat} {S : zm_S} {M : qm} {t1 : Int32} {qt1 : Int} {t2 : Int32} {qt2 : Int} {t3 : Int32} {qt3 : Int} (hS : Sh L xs P S) (hM : qM P S = M) (et1 : t1.toInt = qt1) (et2 : t2.toInt = qt2) (et3 : t3.toInt = qt3) : qs (zf_X12_hear_J165 20000 2252 2269 t1 t2 t3 S) (qf_X12_hear_J165 20000 qt1 qt2 qt3 M) (tO (rr L xs P vu)) := by
  unfold zf_X12_hear_J165 qf_X12_hear_J165
  refine qs_gd (fun g10411 => ?_)
  refine qs_si hS hM (pa_p hS pl_2269 ts_2269) et1 g10411 (p_add et2 et3) (fun S10410 M10410 hS10410 hM10410 => ?_)
  refine qs_zi hS10410 pl_2252 ts_2252 ?_
  refine qs_b (qz_X12_starts hS10410 hM10410 ) (fun v10413 S10413 w10413 M10413 h10413 hS10413 hM10413 => ?_)
  exact qs_tr (show vu _ _ from trivial) hS10413 hM10413
set_option maxRecDepth 20000 in
theorem qz_X12_hear_J115 {P : Nat → Nat} {S : zm_S} {M : qm} {t1 : Int32} {qt1 : Int} (hS : Sh L xs P S) (hM : qM P S = M) (et1 : t1.toInt = qt1) : qs (zf_X12_hear_J115 20000 2252 2252 t1 S) (qf_X12_hear_J115 20000 qt1 M) (tO (rr L xs P vu)) := by
  unfold zf_X12_hear_J115 qf_X12_hear_J115
  refine qs_gd (fun g10415 => ?_)
  refine qs_pz hS hM pl_2252 ts_2252 (z := 23) rfl rfl et1 g10415 (fun S10414 M10414 hS10414 hM10414 => ?_)
  refine qs_gi hS10414 hM10414 pl_2252 ts_2252 (z := 20) rfl rfl (fun v10416 h10416 => ?_)
  refine qs_pi hS10414 hM10414 pl_2252 ts_2252 (z := 24) rfl rfl h10416 (fun S10417 M10417 hS10417 hM10417 => ?_)
  refine qs_pi hS10417 hM10417 pl_2252 ts_2252 (z := 26) rfl rfl k_m1 (fun S10418 M10418 hS10418 hM10418 => ?_)
  refine qs_pi hS10418 hM10418 pl_2252 ts_2252 (z := 25) rfl rfl k_0 (fun S10419 M10419 hS10419 hM10419 => ?_)
  refine qs_gr hS10419 pl_2252 ts_2252 rfl ?_
  refine qs_xi (i := 0) hM10419 (pa_p hS10419 pl_2269 ts_2269) k_0 (by decide) (fun v10421 h10421 => ?_)
  refine qs_si hS10419 hM10419 (pa_p hS10419 pl_2269 ts_2269) k_0 (by decide) (p_add h10421 k_1) (fun S10422 M10422 hS10422 hM10422 => ?_)
  refine qs_gr hS10422 pl_2252 ts_2252 rfl ?_
  refine qs_xi (i := 1) hM10422 (pa_p hS10422 pl_2269 ts_2269) k_1 (by decide) (fun v10424 h10424 => ?_)
  refine qs_gi hS10422 hM10422 pl_2252 ts_2252 (z := 23) rfl rfl (fun v10425 h10425 => ?_)
  refine qs_ite (c_eq h10425 k_0) ?_ ?_
  · exact (qz_X12_hear_J165 hS10422 hM10422 k_1 h10424 k_0)
  · exact (qz_X12_hear_J165 hS10422 hM10422 k_1 h10424 k_1)
set_option maxRecDepth 20000 in
theorem qz_X12_hear_J114 {P : Nat → Nat} {S : zm_S} {M : qm}  (hS : Sh L xs P S) (hM : qM P S = M)  : qs (zf_X12_hear_J114 20000 2252 2252 S) (qf_X12_hear_J114 20000 M) (tO (rr L xs P vu)) := by
  unfold zf_X12_hear_J114 qf_X12_hear_J114
  exact (qz_X12_hear_J115 hS hM k_0)
set_option maxRecDepth 20000 in
theorem qz_X12_hear {P : Nat → Nat} {S : zm_S} {M : qm}  (hS : Sh L xs P S) (hM : qM P S = M)  : qs (zf_X12_hear 20000 2252 S) (qf_X12_hear 20000 M) (tO (rr L xs P vu)) := by
  unfold zf_X12_hear qf_X12_hear
  refine qs_gi hS hM pl_2252 ts_2252 (z := 16) rfl rfl (fun v10426 h10426 => ?_)
  refine qs_ite (c_eq h10426 k_0) ?_ ?_
  · refine qs_zi hS pl_2252 ts_2252 ?_
    refine qs_b (qz_X12_starts hS hM ) (fun v10428 S10428 w10428 M10428 h10428 hS10428 hM10428 => ?_)
    exact qs_tr (show vu _ _ from trivial) hS10428 hM10428
  · refine qs_zi hS pl_2252 ts_2252 ?_
    refine qs_b (qz_X12_reads hS hM ) (fun v10430 S10430 w10430 M10430 h10430 hS10430 hM10430 => ?_)
    refine qs_ite (c_eq h10430 k_0) ?_ ?_
    · exact qs_tr (show vu _ _ from trivial) hS10430 hM10430
    · refine qs_gi hS10430 hM10430 pl_2252 ts_2252 (z := 17) rfl rfl (fun v10431 h10431 => ?_)
      refine qs_ite (c_lt h10431 k_8) ?_ ?_
      · exact (qz_X12_hear_J170 hS10430 hM10430 )
      · refine qs_gi hS10430 hM10430 pl_2252 ts_2252 (z := 19) rfl rfl (fun v10432 h10432 => ?_)
        refine qs_ite (c_eq h10432 k_0) ?_ ?_
        · refine qs_lr (qz_X12_hear_L42 20000 hS10430 hM10430 k_255 k_0) ?_ ?_
          · intro v10434 S10434 w10434 M10434 h10434 hS10434 hM10434
            dsimp only
            exact qs_tr h10434 hS10434 hM10434
          · intro v10434 S10434 w10434 M10434 h10434 hS10434 hM10434
            dsimp only
            refine qs_gi hS10434 hM10434 pl_2252 ts_2252 (z := 17) rfl rfl (fun v10435 h10435 => ?_)
            refine qs_pi hS10434 hM10434 pl_2252 ts_2252 (z := 21) rfl rfl h10435 (fun S10436 M10436 hS10436 hM10436 => ?_)
            refine qs_ite (c_eq h10434 k_0) ?_ ?_
            · refine qs_gi hS10436 hM10436 pl_2252 ts_2252 (z := 21) rfl rfl (fun v10437 h10437 => ?_)
              refine qs_gr hS10436 pl_2252 ts_2252 rfl ?_
              refine qs_xi (i := 5) hM10436 (pa_p hS10436 pl_2268 ts_2268) k_5 (by decide) (fun v10439 h10439 => ?_)
              refine qs_ite (c_eq h10437 (p_add (p_mod h10439 k_128) k_8)) ?_ ?_
              · exact (qz_X12_hear_J115 hS10436 hM10436 k_1)
              · exact (qz_X12_hear_J114 hS10436 hM10436 )
            · exact (qz_X12_hear_J114 hS10436 hM10436 )
        · exact (qz_X12_hear_J170 hS10430 hM10430 )
set_option maxRecDepth 20000 in
theorem qz_X12_look_L110_b (n : Nat) {P : Nat → Nat} {S : zm_S} {M : qm} {i1 : Int32} {qi1 : Int} {i3 : Int32} {qi3 : Int} (hS : Sh L xs P S) (hM : qM P S = M) (ei1 : i1.toInt = qi1) (ei3 : i3.toInt = qi3) : qs (zf_X12_look_L110 20000 (n + 1) 2252 i1 i3 S) (qf_X12_look_L110_b 20000 qi1 qi3 M) (tk (vs (rr L xs P vu) (rr L xs P vu)) (qc_X12_look_L110 L xs P (zf_X12_look_L110 20000 n))) := by
  refine qs_eq (zf_X12_look_L110.eq_2 ..) ?_
  unfold qf_X12_look_L110_b
  refine qs_gr hS pl_2252 ts_2252 rfl ?_
  refine qs_gd (fun g10442 => ?_)
  refine qs_xi hM (pa_p hS pl_2258 ts_2258) ei1 g10442 (fun v10441 h10441 => ?_)
  refine qs_ite (c_le (p_add (p_mul k_144 ei1) (p_mul k_24 h10441)) ei3) ?_ ?_
  · exact qs_tr2 (show vu _ _ from trivial) hS hM
  · refine qs_gr hS pl_2252 ts_2252 rfl ?_
    refine qs_gr hS pl_2252 ts_2252 rfl ?_
    refine qs_gd (fun g10446 => ?_)
    refine qs_xi hM (pa_p hS pl_2259 ts_2259) (p_add ei3 k_24) g10446 (fun v10445 h10445 => ?_)
    refine qs_gd (fun g10448 => ?_)
    refine qs_si hS hM (pa_p hS pl_2259 ts_2259) ei3 g10448 h10445 (fun S10447 M10447 hS10447 hM10447 => ?_)
    exact qs_tk ⟨_, _, _, rfl, ei1, (p_add ei3 k_1), hS10447, hM10447⟩
theorem qz_X12_look_L110 (n : Nat) : ∀ {P : Nat → Nat} {S : zm_S} {M : qm} {i1 : Int32} {qi1 : Int} {i3 : Int32} {qi3 : Int} (hS : Sh L xs P S) (hM : qM P S = M) (ei1 : i1.toInt = qi1) (ei3 : i3.toInt = qi3), qs (zf_X12_look_L110 20000 n 2252 i1 i3 S) (qf_X12_look_L110 20000 n qi1 qi3 M) (tO (vs (rr L xs P vu) (rr L xs P vu))) := by
  induction n with
  | zero =>
    intros
    exact qs_none
  | succ n ih =>
    intro P S M i1 qi1 i3 qi3 hS hM ei1 ei3
    unfold qf_X12_look_L110
    refine qs_loop (C := (qc_X12_look_L110 L xs P (zf_X12_look_L110 20000 n))) (qz_X12_look_L110_b n hS hM ei1 ei3) ?_
    rintro x s ⟨_, _, _, rfl, u0, u1, hS2, hM2⟩
    exact ih hS2 hM2 u0 u1
set_option maxRecDepth 20000 in
theorem qz_X12_look_J92 {P : Nat → Nat} {S : zm_S} {M : qm} {i1 : Int32} {qi1 : Int} {t1 : Int32} {qt1 : Int} {t2 : Int32} {qt2 : Int} {t3 : Int32} {qt3 : Int} (hS : Sh L xs P S) (hM : qM P S = M) (ei1 : i1.toInt = qi1) (et1 : t1.toInt = qt1) (et2 : t2.toInt = qt2) (et3 : t3.toInt = qt3) : qs (zf_X12_look_J92 20000 2252 i1 2265 t1 t2 t3 S) (qf_X12_look_J92 20000 qi1 qt1 qt2 qt3 M) (tO (rr L xs P vu)) := by
  unfold zf_X12_look_J92 qf_X12_look_J92
  refine qs_gd (fun g10450 => ?_)
  refine qs_si hS hM (pa_p hS pl_2265 ts_2265) et1 g10450 (p_add et2 et3) (fun S10449 M10449 hS10449 hM10449 => ?_)
  refine qs_gr hS10449 pl_2252 ts_2252 rfl ?_
  refine qs_gd (fun g10453 => ?_)
  refine qs_xi hM10449 (pa_p hS10449 pl_2258 ts_2258) ei1 g10453 (fun v10452 h10452 => ?_)
  refine qs_gd (fun g10455 => ?_)
  refine qs_si hS10449 hM10449 (pa_p hS10449 pl_2258 ts_2258) ei1 g10455 (p_sub h10452 k_1) (fun S10454 M10454 hS10454 hM10454 => ?_)
  refine qs_lr (qz_X12_look_L110 20000 hS10454 hM10454 ei1 (p_mul k_144 ei1)) ?_ ?_
  · intro v10457 S10457 w10457 M10457 h10457 hS10457 hM10457
    dsimp only
    exact qs_tr h10457 hS10457 hM10457
  · intro v10457 S10457 w10457 M10457 h10457 hS10457 hM10457
    dsimp only
    exact qs_tr (show vu _ _ from trivial) hS10457 hM10457
set_option maxRecDepth 20000 in
theorem qz_X12_look_J74 {P : Nat → Nat} {S : zm_S} {M : qm} {i1 : Int32} {qi1 : Int} {i2 : Int32} {qi2 : Int} {t1 : Int32} {qt1 : Int} {t2 : Int32} {qt2 : Int} {t3 : Int32} {qt3 : Int} (hS : Sh L xs P S) (hM : qM P S = M) (ei1 : i1.toInt = qi1) (ei2 : i2.toInt = qi2) (et1 : t1.toInt = qt1) (et2 : t2.toInt = qt2) (et3 : t3.toInt = qt3) : qs (zf_X12_look_J74 20000 2252 i1 i2 2264 t1 t2 t3 S) (qf_X12_look_J74 20000 qi1 qi2 qt1 qt2 qt3 M) (tO (rr L xs P vu)) := by
  unfold zf_X12_look_J74 qf_X12_look_J74
  refine qs_gd (fun g10459 => ?_)
  refine qs_si hS hM (pa_p hS pl_2264 ts_2264) et1 g10459 (p_add et2 et3) (fun S10458 M10458 hS10458 hM10458 => ?_)
  refine qs_gr hS10458 pl_2252 ts_2252 rfl ?_
  refine qs_gd (fun g10462 => ?_)
  refine qs_xi hM10458 (pa_p hS10458 pl_2265 ts_2265) ei1 g10462 (fun v10461 h10461 => ?_)
  refine qs_ite (c_eq ei2 k_0) ?_ ?_
  · exact (qz_X12_look_J92 hS10458 hM10458 ei1 ei1 h10461 k_1)
  · exact (qz_X12_look_J92 hS10458 hM10458 ei1 ei1 h10461 k_0)
set_option maxRecDepth 20000 in
theorem qz_X12_look_J58 {P : Nat → Nat} {S : zm_S} {M : qm} {i1 : Int32} {qi1 : Int} {i2 : Int32} {qi2 : Int} (hS : Sh L xs P S) (hM : qM P S = M) (ei1 : i1.toInt = qi1) (ei2 : i2.toInt = qi2) : qs (zf_X12_look_J58 20000 2252 i1 i2 S) (qf_X12_look_J58 20000 qi1 qi2 M) (tO (rr L xs P vu)) := by
  unfold zf_X12_look_J58 qf_X12_look_J58
  refine qs_gr hS pl_2252 ts_2252 rfl ?_
  refine qs_gd (fun g10465 => ?_)
  refine qs_xi hM (pa_p hS pl_2264 ts_2264) ei1 g10465 (fun v10464 h10464 => ?_)
  refine qs_ite (c_eq ei2 k_0) ?_ ?_
  · exact (qz_X12_look_J74 hS hM ei1 ei2 ei1 h10464 k_0)
  · exact (qz_X12_look_J74 hS hM ei1 ei2 ei1 h10464 k_1)
set_option maxRecDepth 20000 in
theorem qz_X12_look_J36 {P : Nat → Nat} {S : zm_S} {M : qm} {i1 : Int32} {qi1 : Int} {t0 : Int32} {qt0 : Int} (hS : Sh L xs P S) (hM : qM P S = M) (ei1 : i1.toInt = qi1) (et0 : t0.toInt = qt0) : qs (zf_X12_look_J36 20000 2252 i1 t0 S) (qf_X12_look_J36 20000 qi1 qt0 M) (tO (rr L xs P vu)) := by
  unfold zf_X12_look_J36 qf_X12_look_J36
  refine qs_ite (c_eq et0 k_0) ?_ ?_
  · refine qs_gr hS pl_2252 ts_2252 rfl ?_
    refine qs_gd (fun g10468 => ?_)
    refine qs_xi hM (pa_p hS pl_2259 ts_2259) (p_add (p_mul k_144 ei1) k_23) g10468 (fun v10467 h10467 => ?_)
    refine qs_ite (c_eq h10467 k_4) ?_ ?_
    · exact (qz_X12_look_J58 hS hM ei1 et0)
    · exact qs_tr (show vu _ _ from trivial) hS hM
  · exact (qz_X12_look_J58 hS hM ei1 et0)
set_option maxRecDepth 20000 in
theorem qz_X12_look {P : Nat → Nat} {S : zm_S} {M : qm} {i1 : Int32} {qi1 : Int} (hS : Sh L xs P S) (hM : qM P S = M) (ei1 : i1.toInt = qi1) : qs (zf_X12_look 20000 2252 i1 S) (qf_X12_look 20000 qi1 M) (tO (rr L xs P vu)) := by
  unfold zf_X12_look qf_X12_look
  refine qs_gr hS pl_2252 ts_2252 rfl ?_
  refine qs_gd (fun g10471 => ?_)
  refine qs_xi hM (pa_p hS pl_2261 ts_2261) ei1 g10471 (fun v10470 h10470 => ?_)
  refine qs_gi hS hM pl_2252 ts_2252 (z := 0) rfl rfl (fun v10472 h10472 => ?_)
  refine qs_ite (c_eq h10470 h10472) ?_ ?_
  · refine qs_gr hS pl_2252 ts_2252 rfl ?_
    refine qs_gd (fun g10475 => ?_)
    refine qs_si hS hM (pa_p hS pl_2261 ts_2261) ei1 g10475 k_m1 (fun S10474 M10474 hS10474 hM10474 => ?_)
    refine qs_gi hS10474 hM10474 pl_2252 ts_2252 (z := 26) rfl rfl (fun v10476 h10476 => ?_)
    refine qs_ite (c_eq h10476 k_204) ?_ ?_
    · exact (qz_X12_look_J36 hS10474 hM10474 ei1 k_1)
    · exact (qz_X12_look_J36 hS10474 hM10474 ei1 k_0)
  · exact qs_tr (show vu _ _ from trivial) hS hM
set_option maxRecDepth 20000 in
theorem qz_X12_bitTime_L150_b (n : Nat) {P : Nat → Nat} {S : zm_S} {M : qm} {i3 : Int32} {qi3 : Int} (hS : Sh L xs P S) (hM : qM P S = M) (ei3 : i3.toInt = qi3) : qs (zf_X12_bitTime_L150 20000 (n + 1) 2252 i3 S) (qf_X12_bitTime_L150_b 20000 qi3 M) (tk (vs (rr L xs P vu) (rr L xs P vu)) (qc_X12_bitTime_L150 L xs P (zf_X12_bitTime_L150 20000 n))) := by
  refine qs_eq (zf_X12_bitTime_L150.eq_2 ..) ?_
  unfold qf_X12_bitTime_L150_b
  refine qs_ite (c_le k_8 ei3) ?_ ?_
  · exact qs_tr2 (show vu _ _ from trivial) hS hM
  · refine qs_zi hS pl_2252 ts_2252 ?_
    refine qs_b (qz_X12_look hS hM ei3) (fun v10478 S10478 w10478 M10478 h10478 hS10478 hM10478 => ?_)
    exact qs_tk ⟨_, _, rfl, (p_add ei3 k_1), hS10478, hM10478⟩
theorem qz_X12_bitTime_L150 (n : Nat) : ∀ {P : Nat → Nat} {S : zm_S} {M : qm} {i3 : Int32} {qi3 : Int} (hS : Sh L xs P S) (hM : qM P S = M) (ei3 : i3.toInt = qi3), qs (zf_X12_bitTime_L150 20000 n 2252 i3 S) (qf_X12_bitTime_L150 20000 n qi3 M) (tO (vs (rr L xs P vu) (rr L xs P vu))) := by
  induction n with
  | zero =>
    intros
    exact qs_none
  | succ n ih =>
    intro P S M i3 qi3 hS hM ei3
    unfold qf_X12_bitTime_L150
    refine qs_loop (C := (qc_X12_bitTime_L150 L xs P (zf_X12_bitTime_L150 20000 n))) (qz_X12_bitTime_L150_b n hS hM ei3) ?_
    rintro x s ⟨_, _, rfl, u0, hS2, hM2⟩
    exact ih hS2 hM2 u0
set_option maxRecDepth 20000 in
theorem qz_X12_bitTime_J79 {P : Nat → Nat} {S : zm_S} {M : qm} {i2 : Int32} {qi2 : Int} {t1 : Int32} {qt1 : Int} {t2 : Int32} {qt2 : Int} (hS : Sh L xs P S) (hM : qM P S = M) (ei2 : i2.toInt = qi2) (et1 : t1.toInt = qt1) (et2 : t2.toInt = qt2) : qs (zf_X12_bitTime_J79 20000 2252 i2 2252 t1 t2 S) (qf_X12_bitTime_J79 20000 qi2 qt1 qt2 M) (tO (rr L xs P vu)) := by
  unfold zf_X12_bitTime_J79 qf_X12_bitTime_J79
  refine qs_pi hS hM pl_2252 ts_2252 (z := 3) rfl rfl (p_sub et1 et2) (fun S10479 M10479 hS10479 hM10479 => ?_)
  refine qs_lp (qz_X12_bitTime_L85 20000 hS10479 hM10479 ei2 k_0) ?_ ?_
  · intro v10481 S10481 w10481 h10481 hS10481 hM10481
    dsimp only
    exact qs_tr h10481 hS10481 hM10481
  · intro v10481 S10481 w10481 h10481 hS10481 hM10481
    dsimp only
    refine qs_gr hS10481 pl_2252 ts_2252 rfl ?_
    refine qs_gi hS10481 hM10481 pl_2252 ts_2252 (z := 0) rfl rfl (fun v10483 h10483 => ?_)
    refine qs_gd (fun g10485 => ?_)
    refine qs_sz hS10481 hM10481 (pa_p hS10481 pl_2253 ts_2253) h10483 g10485.1 h10481 g10485.2 (fun S10484 M10484 hS10484 hM10484 => ?_)
    refine qs_lr (qz_X12_bitTime_L127 20000 hS10484 hM10484 k_0) ?_ ?_
    · intro v10487 S10487 w10487 M10487 h10487 hS10487 hM10487
      dsimp only
      exact qs_tr h10487 hS10487 hM10487
    · intro v10487 S10487 w10487 M10487 h10487 hS10487 hM10487
      dsimp only
      refine qs_zi hS10487 pl_2252 ts_2252 ?_
      refine qs_b (qz_X12_hear hS10487 hM10487 ) (fun v10489 S10489 w10489 M10489 h10489 hS10489 hM10489 => ?_)
      refine qs_lr (qz_X12_bitTime_L150 20000 hS10489 hM10489 k_0) ?_ ?_
      · intro v10491 S10491 w10491 M10491 h10491 hS10491 hM10491
        dsimp only
        exact qs_tr h10491 hS10491 hM10491
      · intro v10491 S10491 w10491 M10491 h10491 hS10491 hM10491
        dsimp only
        exact qs_tr (show vu _ _ from trivial) hS10491 hM10491
set_option maxRecDepth 20000 in
theorem qz_X12_bitTime_J56 {P : Nat → Nat} {S : zm_S} {M : qm} {t0 : Int32} {qt0 : Int} (hS : Sh L xs P S) (hM : qM P S = M) (et0 : t0.toInt = qt0) : qs (zf_X12_bitTime_J56 20000 2252 t0 S) (qf_X12_bitTime_J56 20000 qt0 M) (tO (rr L xs P vu)) := by
  unfold zf_X12_bitTime_J56 qf_X12_bitTime_J56
  refine qs_gi hS hM pl_2252 ts_2252 (z := 3) rfl rfl (fun v10492 h10492 => ?_)
  refine qs_gr hS pl_2252 ts_2252 rfl ?_
  refine qs_gi hS hM pl_2252 ts_2252 (z := 0) rfl rfl (fun v10494 h10494 => ?_)
  refine qs_gd (fun g10496 => ?_)
  refine qs_xi hM (pa_p hS pl_2254 ts_2254) h10494 g10496 (fun v10495 h10495 => ?_)
  refine qs_ite (c_eq h10495 k_0) ?_ ?_
  · exact (qz_X12_bitTime_J79 hS hM et0 h10492 k_0)
  · exact (qz_X12_bitTime_J79 hS hM et0 h10492 k_1)
set_option maxRecDepth 20000 in
theorem qz_X12_bitTime {P : Nat → Nat} {S : zm_S} {M : qm}  (hS : Sh L xs P S) (hM : qM P S = M)  : qs (zf_X12_bitTime 20000 2252 S) (qf_X12_bitTime 20000 M) (tO (rr L xs P vu)) := by
  unfold zf_X12_bitTime qf_X12_bitTime
  refine qs_gi hS hM pl_2252 ts_2252 (z := 0) rfl rfl (fun v10497 h10497 => ?_)
  refine qs_pi hS hM pl_2252 ts_2252 (z := 0) rfl rfl (p_add h10497 k_1) (fun S10498 M10498 hS10498 hM10498 => ?_)
  refine qs_zi hS10498 pl_2252 ts_2252 ?_
  refine qs_bp (qz_X12_idle hS10498 hM10498 ) (fun v10500 S10500 w10500 h10500 hS10500 hM10500 => ?_)
  refine qs_lr (qz_X12_bitTime_L17 20000 hS10500 hM10500 h10500 k_0) ?_ ?_
  · intro v10502 S10502 w10502 M10502 h10502 hS10502 hM10502
    dsimp only
    exact qs_tr h10502 hS10502 hM10502
  · intro v10502 S10502 w10502 M10502 h10502 hS10502 hM10502
    dsimp only
    refine qs_zi hS10502 pl_2252 ts_2252 ?_
    refine qs_b (qz_X12_answers hS10502 hM10502 ) (fun v10504 S10504 w10504 M10504 h10504 hS10504 hM10504 => ?_)
    refine qs_gr hS10504 pl_2252 ts_2252 rfl ?_
    refine qs_gi hS10504 hM10504 pl_2252 ts_2252 (z := 0) rfl rfl (fun v10506 h10506 => ?_)
    refine qs_gd (fun g10508 => ?_)
    refine qs_xi hM10504 (pa_p hS10504 pl_2254 ts_2254) h10506 g10508 (fun v10507 h10507 => ?_)
    refine qs_ite (c_eq h10507 k_0) ?_ ?_
    · exact (qz_X12_bitTime_J56 hS10504 hM10504 k_1)
    · exact (qz_X12_bitTime_J56 hS10504 hM10504 k_0)
set_option maxRecDepth 20000 in
theorem qz_X18_line__L2_b (n : Nat) {P : Nat → Nat} {S : zm_S} {M : qm} {i1 : Int32} {qi1 : Int} (hS : Sh L xs P S) (hM : qM P S = M) (ei1 : i1.toInt = qi1) : qs (zf_X18_line__L2 20000 (n + 1) 2156 i1 S) (qf_X18_line__L2_b 20000 qi1 M) (tk (vs (rr L xs P vu) (rr L xs P vu)) (qc_X18_line__L2 L xs P (zf_X18_line__L2 20000 n))) := by
  refine qs_eq (zf_X18_line__L2.eq_2 ..) ?_
  unfold qf_X18_line__L2_b
  refine qs_ite (c_le k_30 ei1) ?_ ?_
  · exact qs_tr2 (show vu _ _ from trivial) hS hM
  · refine qs_gr hS pl_2156 ts_2156 rfl ?_
    refine qs_gr hS pl_2252 ts_2252 rfl ?_
    refine qs_xi (i := 1) hM (pa_p hS pl_2269 ts_2269) k_1 (by decide) (fun v10511 h10511 => ?_)
    refine qs_gr hS pl_2156 ts_2156 rfl ?_
    refine qs_zi hS pl_2252 ts_2252 ?_
    refine qs_b (qz_X12_bitTime hS hM ) (fun v10514 S10514 w10514 M10514 h10514 hS10514 hM10514 => ?_)
    refine qs_gr hS10514 pl_2156 ts_2156 rfl ?_
    refine qs_gr hS10514 pl_2252 ts_2252 rfl ?_
    refine qs_xi (i := 3) hM10514 (pa_p hS10514 pl_2268 ts_2268) k_3 (by decide) (fun v10517 h10517 => ?_)
    refine qs_gr hS10514 pl_2156 ts_2156 rfl ?_
    refine qs_gr hS10514 pl_2252 ts_2252 rfl ?_
    refine qs_xi (i := 4) hM10514 (pa_p hS10514 pl_2268 ts_2268) k_4 (by decide) (fun v10520 h10520 => ?_)
    refine qs_gr hS10514 pl_2156 ts_2156 rfl ?_
    refine qs_gr hS10514 pl_2252 ts_2252 rfl ?_
    refine qs_xi (i := 1) hM10514 (pa_p hS10514 pl_2269 ts_2269) k_1 (by decide) (fun v10523 h10523 => ?_)
    refine qs_ite (c_le h10523 h10511) ?_ ?_
    · exact qs_tk ⟨_, _, rfl, (p_add ei1 k_1), hS10514, hM10514⟩
    · refine qs_gr hS10514 pl_2156 ts_2156 rfl ?_
      refine qs_gr hS10514 pl_2252 ts_2252 rfl ?_
      refine qs_xi (i := 5) hM10514 (pa_p hS10514 pl_2268 ts_2268) k_5 (by decide) (fun v10526 h10526 => ?_)
      refine qs_ite (c_le h10526 k_127) ?_ ?_
      · exact qs_tk ⟨_, _, rfl, (p_add ei1 k_1), hS10514, hM10514⟩
      · refine qs_ite (c_le (p_add (p_mul k_256 h10517) h10520) k_3) ?_ ?_
        · exact qs_tk ⟨_, _, rfl, (p_add ei1 k_1), hS10514, hM10514⟩
        · refine qs_ite (c_le k_10 (p_add (p_mul k_256 h10517) h10520)) ?_ ?_
          · exact qs_tk ⟨_, _, rfl, (p_add ei1 k_1), hS10514, hM10514⟩
          · refine qs_gr hS10514 pl_2156 ts_2156 rfl ?_
            refine qs_gr hS10514 pl_2235 ts_2235 rfl ?_
            refine qs_gr hS10514 pl_2156 ts_2156 rfl ?_
            refine qs_gr hS10514 pl_2252 ts_2252 rfl ?_
            refine qs_xi (i := 6) hM10514 (pa_p hS10514 pl_2268 ts_2268) k_6 (by decide) (fun v10531 h10531 => ?_)
            refine qs_gd (fun g10533 => ?_)
            refine qs_si hS10514 hM10514 (pa_p hS10514 pl_2247 ts_2247) (p_add (p_mul k_256 h10517) h10520) g10533 h10531 (fun S10532 M10532 hS10532 hM10532 => ?_)
            exact qs_tk ⟨_, _, rfl, (p_add ei1 k_1), hS10532, hM10532⟩
theorem qz_X18_line__L2 (n : Nat) : ∀ {P : Nat → Nat} {S : zm_S} {M : qm} {i1 : Int32} {qi1 : Int} (hS : Sh L xs P S) (hM : qM P S = M) (ei1 : i1.toInt = qi1), qs (zf_X18_line__L2 20000 n 2156 i1 S) (qf_X18_line__L2 20000 n qi1 M) (tO (vs (rr L xs P vu) (rr L xs P vu))) := by
  induction n with
  | zero =>
    intros
    exact qs_none
  | succ n ih =>
    intro P S M i1 qi1 hS hM ei1
    unfold qf_X18_line__L2
    refine qs_loop (C := (qc_X18_line__L2 L xs P (zf_X18_line__L2 20000 n))) (qz_X18_line__L2_b n hS hM ei1) ?_
    rintro x s ⟨_, _, rfl, u0, hS2, hM2⟩
    exact ih hS2 hM2 u0
set_option maxRecDepth 20000 in
theorem qz_X18_line_ {P : Nat → Nat} {S : zm_S} {M : qm}  (hS : Sh L xs P S) (hM : qM P S = M)  : qs (zf_X18_line_ 20000 2156 S) (qf_X18_line_ 20000 M) (tO (rr L xs P vu)) := by
  unfold zf_X18_line_ qf_X18_line_
  refine qs_lr (qz_X18_line__L2 20000 hS hM k_0) ?_ ?_
  · intro v10535 S10535 w10535 M10535 h10535 hS10535 hM10535
    dsimp only
    exact qs_tr h10535 hS10535 hM10535
  · intro v10535 S10535 w10535 M10535 h10535 hS10535 hM10535
    dsimp only
    exact qs_tr (show vu _ _ from trivial) hS10535 hM10535
set_option maxRecDepth 20000 in
theorem qz_X18_second_L186_b (n : Nat) {P : Nat → Nat} {S : zm_S} {M : qm} {i2 : Int32} {qi2 : Int} (hS : Sh L xs P S) (hM : qM P S = M) (ei2 : i2.toInt = qi2) : qs (zf_X18_second_L186 20000 (n + 1) 2156 i2 S) (qf_X18_second_L186_b 20000 qi2 M) (tk (vs (rr L xs P vu) (rr L xs P vu)) (qc_X18_second_L186 L xs P (zf_X18_second_L186 20000 n))) := by
  refine qs_eq (zf_X18_second_L186.eq_2 ..) ?_
  unfold qf_X18_second_L186_b
  refine qs_gi hS hM pl_2156 ts_2156 (z := 27) rfl rfl (fun v10536 h10536 => ?_)
  refine qs_ite (c_le h10536 ei2) ?_ ?_
  · exact qs_tr2 (show vu _ _ from trivial) hS hM
  · refine qs_gr hS pl_2156 ts_2156 rfl ?_
    refine qs_gd (fun g10539 => ?_)
    refine qs_xi hM (pa_p hS pl_2306 ts_2306) ei2 g10539 (fun v10538 h10538 => ?_)
    refine qs_gi hS hM pl_2156 ts_2156 (z := 9) rfl rfl (fun v10540 h10540 => ?_)
    refine qs_ite (c_le h10540 h10538) ?_ ?_
    · exact qs_tk ⟨_, _, rfl, (p_add ei2 k_1), hS, hM⟩
    · refine qs_gr hS pl_2156 ts_2156 rfl ?_
      refine qs_gd (fun g10543 => ?_)
      refine qs_xi hM (pa_p hS pl_2309 ts_2309) ei2 g10543 (fun v10542 h10542 => ?_)
      refine qs_ite (c_le k_0 h10542) ?_ ?_
      · exact qs_tk ⟨_, _, rfl, (p_add ei2 k_1), hS, hM⟩
      · refine qs_gr hS pl_2156 ts_2156 rfl ?_
        refine qs_gr hS pl_2156 ts_2156 rfl ?_
        refine qs_gd (fun g10547 => ?_)
        refine qs_xi hM (pa_p hS pl_2308 ts_2308) ei2 g10547 (fun v10546 h10546 => ?_)
        refine qs_gr hS pl_2156 ts_2156 rfl ?_
        refine qs_gd (fun g10550 => ?_)
        refine qs_xi hM (pa_p hS pl_2307 ts_2307) ei2 g10550 (fun v10549 h10549 => ?_)
        refine qs_gd (fun g10552 => ?_)
        refine qs_xi hM (pa_p hS pl_2326 ts_2326) (p_add (p_mul k_24 h10546) h10549) g10552 (fun v10551 h10551 => ?_)
        refine qs_ite (c_eq h10551 k_0) ?_ ?_
        · exact qs_tk ⟨_, _, rfl, (p_add ei2 k_1), hS, hM⟩
        · refine qs_gr hS pl_2156 ts_2156 rfl ?_
          refine qs_gi hS hM pl_2156 ts_2156 (z := 2) rfl rfl (fun v10554 h10554 => ?_)
          refine qs_gd (fun g10556 => ?_)
          refine qs_si hS hM (pa_p hS pl_2309 ts_2309) ei2 g10556 h10554 (fun S10555 M10555 hS10555 hM10555 => ?_)
          exact qs_tk ⟨_, _, rfl, (p_add ei2 k_1), hS10555, hM10555⟩
theorem qz_X18_second_L186 (n : Nat) : ∀ {P : Nat → Nat} {S : zm_S} {M : qm} {i2 : Int32} {qi2 : Int} (hS : Sh L xs P S) (hM : qM P S = M) (ei2 : i2.toInt = qi2), qs (zf_X18_second_L186 20000 n 2156 i2 S) (qf_X18_second_L186 20000 n qi2 M) (tO (vs (rr L xs P vu) (rr L xs P vu))) := by
  induction n with
  | zero =>
    intros
    exact qs_none
  | succ n ih =>
    intro P S M i2 qi2 hS hM ei2
    unfold qf_X18_second_L186
    refine qs_loop (C := (qc_X18_second_L186 L xs P (zf_X18_second_L186 20000 n))) (qz_X18_second_L186_b n hS hM ei2) ?_
    rintro x s ⟨_, _, rfl, u0, hS2, hM2⟩
    exact ih hS2 hM2 u0
set_option maxRecDepth 20000 in
theorem qz_X18_leave_L2_b (n : Nat) {P : Nat → Nat} {S : zm_S} {M : qm} {i1 : Int32} {qi1 : Int} (hS : Sh L xs P S) (hM : qM P S = M) (ei1 : i1.toInt = qi1) : qs (zf_X18_leave_L2 20000 (n + 1) 2156 i1 S) (qf_X18_leave_L2_b 20000 qi1 M) (tk (vs (rr L xs P vu) (rr L xs P vu)) (qc_X18_leave_L2 L xs P (zf_X18_leave_L2 20000 n))) := by
  refine qs_eq (zf_X18_leave_L2.eq_2 ..) ?_
  unfold qf_X18_leave_L2_b
  refine qs_ite (c_le k_120 ei1) ?_ ?_
  · exact qs_tr2 (show vu _ _ from trivial) hS hM
  · refine qs_gr hS pl_2156 ts_2156 rfl ?_
    refine qs_gd (fun g10559 => ?_)
    refine qs_si hS hM (pa_p hS pl_2330 ts_2330) ei1 g10559 k_0 (fun S10558 M10558 hS10558 hM10558 => ?_)
    exact qs_tk ⟨_, _, rfl, (p_add ei1 k_1), hS10558, hM10558⟩
theorem qz_X18_leave_L2 (n : Nat) : ∀ {P : Nat → Nat} {S : zm_S} {M : qm} {i1 : Int32} {qi1 : Int} (hS : Sh L xs P S) (hM : qM P S = M) (ei1 : i1.toInt = qi1), qs (zf_X18_leave_L2 20000 n 2156 i1 S) (qf_X18_leave_L2 20000 n qi1 M) (tO (vs (rr L xs P vu) (rr L xs P vu))) := by
  induction n with
  | zero =>
    intros
    exact qs_none
  | succ n ih =>
    intro P S M i1 qi1 hS hM ei1
    unfold qf_X18_leave_L2
    refine qs_loop (C := (qc_X18_leave_L2 L xs P (zf_X18_leave_L2 20000 n))) (qz_X18_leave_L2_b n hS hM ei1) ?_
    rintro x s ⟨_, _, rfl, u0, hS2, hM2⟩
    exact ih hS2 hM2 u0
set_option maxRecDepth 20000 in
theorem qz_X18_leave_L23_b (n : Nat) {P : Nat → Nat} {S : zm_S} {M : qm} {i1 : Int32} {qi1 : Int} (hS : Sh L xs P S) (hM : qM P S = M) (ei1 : i1.toInt = qi1) : qs (zf_X18_leave_L23 20000 (n + 1) 2156 i1 S) (qf_X18_leave_L23_b 20000 qi1 M) (tk (vs (rr L xs P vu) (rr L xs P vu)) (qc_X18_leave_L23 L xs P (zf_X18_leave_L23 20000 n))) := by
  refine qs_eq (zf_X18_leave_L23.eq_2 ..) ?_
  unfold qf_X18_leave_L23_b
  refine qs_gi hS hM pl_2156 ts_2156 (z := 27) rfl rfl (fun v10560 h10560 => ?_)
  refine qs_ite (c_le h10560 ei1) ?_ ?_
  · exact qs_tr2 (show vu _ _ from trivial) hS hM
  · refine qs_gr hS pl_2156 ts_2156 rfl ?_
    refine qs_gd (fun g10563 => ?_)
    refine qs_sz hS hM (pa_p hS pl_2331 ts_2331) ei1 g10563 k_0 (by decide) (fun S10562 M10562 hS10562 hM10562 => ?_)
    exact qs_tk ⟨_, _, rfl, (p_add ei1 k_1), hS10562, hM10562⟩
theorem qz_X18_leave_L23 (n : Nat) : ∀ {P : Nat → Nat} {S : zm_S} {M : qm} {i1 : Int32} {qi1 : Int} (hS : Sh L xs P S) (hM : qM P S = M) (ei1 : i1.toInt = qi1), qs (zf_X18_leave_L23 20000 n 2156 i1 S) (qf_X18_leave_L23 20000 n qi1 M) (tO (vs (rr L xs P vu) (rr L xs P vu))) := by
  induction n with
  | zero =>
    intros
    exact qs_none
  | succ n ih =>
    intro P S M i1 qi1 hS hM ei1
    unfold qf_X18_leave_L23
    refine qs_loop (C := (qc_X18_leave_L23 L xs P (zf_X18_leave_L23 20000 n))) (qz_X18_leave_L23_b n hS hM ei1) ?_
    rintro x s ⟨_, _, rfl, u0, hS2, hM2⟩
    exact ih hS2 hM2 u0
set_option maxRecDepth 20000 in
theorem qz_X18_nextOne_J135 {P : Nat → Nat} {S : zm_S} {M : qm} {i2 : Int32} {qi2 : Int} (hS : Sh L xs P S) (hM : qM P S = M) (ei2 : i2.toInt = qi2) {k : Nat → Int32 → Int32 → zm_S → Option ((Int32 × zm_S) ⊕ ((Int32) × zm_S))} : qs (zf_X18_nextOne_J135 20000 k 2156 i2 S) (qf_X18_nextOne_J135 20000 qi2 M) (tk (vs (rp L xs P M vi) (rp L xs P M vi)) (qc_X18_nextOne_L4 L xs P M k)) := by
  unfold zf_X18_nextOne_J135 qf_X18_nextOne_J135
  exact qs_tk ⟨_, _, _, rfl, ei2, (p_add ei2 k_1), hS, hM⟩
set_option maxRecDepth 20000 in
theorem qz_X18_nextOne_J98 {P : Nat → Nat} {S : zm_S} {M : qm} {i1 : Int32} {qi1 : Int} {i2 : Int32} {qi2 : Int} {t0 : Int32} {qt0 : Int} (hS : Sh L xs P S) (hM : qM P S = M) (ei1 : i1.toInt = qi1) (ei2 : i2.toInt = qi2) (et0 : t0.toInt = qt0) {k : Nat → Int32 → Int32 → zm_S → Option ((Int32 × zm_S) ⊕ ((Int32) × zm_S))} : qs (zf_X18_nextOne_J98 20000 k 2156 i1 i2 t0 S) (qf_X18_nextOne_J98 20000 qi1 qi2 qt0 M) (tk (vs (rp L xs P M vi) (rp L xs P M vi)) (qc_X18_nextOne_L4 L xs P M k)) := by
  unfold zf_X18_nextOne_J98 qf_X18_nextOne_J98
  refine qs_ite (c_le et0 k_0) ?_ ?_
  · exact qs_tk ⟨_, _, _, rfl, ei1, (p_add ei2 k_1), hS, hM⟩
  · refine qs_ite (c_lt ei1 k_0) ?_ ?_
    · exact (qz_X18_nextOne_J135 hS hM ei2)
    · refine qs_gr hS pl_2156 ts_2156 rfl ?_
      refine qs_gr hS pl_2156 ts_2156 rfl ?_
      refine qs_gd (fun g10567 => ?_)
      refine qs_xi hM (pa_p hS pl_2308 ts_2308) ei1 g10567 (fun v10566 h10566 => ?_)
      refine qs_gr hS pl_2156 ts_2156 rfl ?_
      refine qs_gd (fun g10570 => ?_)
      refine qs_xi hM (pa_p hS pl_2307 ts_2307) ei1 g10570 (fun v10569 h10569 => ?_)
      refine qs_gd (fun g10572 => ?_)
      refine qs_xi hM (pa_p hS pl_2328 ts_2328) (p_add (p_mul k_24 h10566) h10569) g10572 (fun v10571 h10571 => ?_)
      refine qs_ite (c_le h10571 et0) ?_ ?_
      · exact qs_tk ⟨_, _, _, rfl, ei1, (p_add ei2 k_1), hS, hM⟩
      · exact (qz_X18_nextOne_J135 hS hM ei2)
set_option maxRecDepth 20000 in
theorem qz_X18_nextOne_J68 {P : Nat → Nat} {S : zm_S} {M : qm} {i1 : Int32} {qi1 : Int} {i2 : Int32} {qi2 : Int} {t0 : Int32} {qt0 : Int} (hS : Sh L xs P S) (hM : qM P S = M) (ei1 : i1.toInt = qi1) (ei2 : i2.toInt = qi2) (et0 : t0.toInt = qt0) {k : Nat → Int32 → Int32 → zm_S → Option ((Int32 × zm_S) ⊕ ((Int32) × zm_S))} : qs (zf_X18_nextOne_J68 20000 k 2156 i1 i2 t0 S) (qf_X18_nextOne_J68 20000 qi1 qi2 qt0 M) (tk (vs (rp L xs P M vi) (rp L xs P M vi)) (qc_X18_nextOne_L4 L xs P M k)) := by
  unfold zf_X18_nextOne_J68 qf_X18_nextOne_J68
  refine qs_ite (c_eq et0 k_0) ?_ ?_
  · exact (qz_X18_nextOne_J98 hS hM ei1 ei2 k_0)
  · refine qs_gr hS pl_2156 ts_2156 rfl ?_
    refine qs_gr hS pl_2156 ts_2156 rfl ?_
    refine qs_gd (fun g10576 => ?_)
    refine qs_xi hM (pa_p hS pl_2308 ts_2308) ei2 g10576 (fun v10575 h10575 => ?_)
    refine qs_gr hS pl_2156 ts_2156 rfl ?_
    refine qs_gd (fun g10579 => ?_)
    refine qs_xi hM (pa_p hS pl_2307 ts_2307) ei2 g10579 (fun v10578 h10578 => ?_)
    refine qs_gd (fun g10581 => ?_)
    refine qs_xi hM (pa_p hS pl_2328 ts_2328) (p_add (p_mul k_24 h10575) h10578) g10581 (fun v10580 h10580 => ?_)
    exact (qz_X18_nextOne_J98 hS hM ei1 ei2 h10580)
set_option maxRecDepth 20000 in
theorem qz_X18_nextOne_J67 {P : Nat → Nat} {S : zm_S} {M : qm} {i1 : Int32} {qi1 : Int} {i2 : Int32} {qi2 : Int} (hS : Sh L xs P S) (hM : qM P S = M) (ei1 : i1.toInt = qi1) (ei2 : i2.toInt = qi2) {k : Nat → Int32 → Int32 → zm_S → Option ((Int32 × zm_S) ⊕ ((Int32) × zm_S))} : qs (zf_X18_nextOne_J67 20000 k 2156 i1 i2 S) (qf_X18_nextOne_J67 20000 qi1 qi2 M) (tk (vs (rp L xs P M vi) (rp L xs P M vi)) (qc_X18_nextOne_L4 L xs P M k)) := by
  unfold zf_X18_nextOne_J67 qf_X18_nextOne_J67
  exact (qz_X18_nextOne_J68 hS hM ei1 ei2 k_0)
set_option maxRecDepth 20000 in
theorem qz_X18_nextOne_L4_b (n : Nat) {P : Nat → Nat} {S : zm_S} {M : qm} {i1 : Int32} {qi1 : Int} {i2 : Int32} {qi2 : Int} (hS : Sh L xs P S) (hM : qM P S = M) (ei1 : i1.toInt = qi1) (ei2 : i2.toInt = qi2) : qs (zf_X18_nextOne_L4 20000 (n + 1) 2156 i1 i2 S) (qf_X18_nextOne_L4_b 20000 qi1 qi2 M) (tk (vs (rp L xs P M vi) (rp L xs P M vi)) (qc_X18_nextOne_L4 L xs P M (zf_X18_nextOne_L4 20000 n))) := by
  refine qs_eq (zf_X18_nextOne_L4.eq_2 ..) ?_
  unfold qf_X18_nextOne_L4_b
  refine qs_gi hS hM pl_2156 ts_2156 (z := 27) rfl rfl (fun v10582 h10582 => ?_)
  refine qs_ite (c_le h10582 ei2) ?_ ?_
  · exact qs_tp2 (show vi _ _ from ei1) hS hM
  · refine qs_gr hS pl_2156 ts_2156 rfl ?_
    refine qs_gd (fun g10585 => ?_)
    refine qs_xi hM (pa_p hS pl_2331 ts_2331) ei2 g10585 (fun v10584 h10584 => ?_)
    refine qs_ite (c_eq h10584 k_0) ?_ ?_
    · refine qs_gr hS pl_2156 ts_2156 rfl ?_
      refine qs_gd (fun g10588 => ?_)
      refine qs_xi hM (pa_p hS pl_2306 ts_2306) ei2 g10588 (fun v10587 h10587 => ?_)
      refine qs_gi hS hM pl_2156 ts_2156 (z := 9) rfl rfl (fun v10589 h10589 => ?_)
      refine qs_ite (c_le h10589 h10587) ?_ ?_
      · exact (qz_X18_nextOne_J67 hS hM ei1 ei2)
      · refine qs_gr hS pl_2156 ts_2156 rfl ?_
        refine qs_gd (fun g10592 => ?_)
        refine qs_xi hM (pa_p hS pl_2309 ts_2309) ei2 g10592 (fun v10591 h10591 => ?_)
        refine qs_ite (c_le k_0 h10591) ?_ ?_
        · exact (qz_X18_nextOne_J67 hS hM ei1 ei2)
        · refine qs_gi hS hM pl_2156 ts_2156 (z := 2) rfl rfl (fun v10593 h10593 => ?_)
          refine qs_gr hS pl_2156 ts_2156 rfl ?_
          refine qs_gd (fun g10596 => ?_)
          refine qs_xi hM (pa_p hS pl_2311 ts_2311) ei2 g10596 (fun v10595 h10595 => ?_)
          refine qs_gr hS pl_2156 ts_2156 rfl ?_
          refine qs_gd (fun g10599 => ?_)
          refine qs_xi hM (pa_p hS pl_2305 ts_2305) ei2 g10599 (fun v10598 h10598 => ?_)
          refine qs_ite (c_lt (p_sub h10593 h10595) h10598) ?_ ?_
          · exact (qz_X18_nextOne_J67 hS hM ei1 ei2)
          · exact (qz_X18_nextOne_J68 hS hM ei1 ei2 k_1)
    · exact (qz_X18_nextOne_J67 hS hM ei1 ei2)
theorem qz_X18_nextOne_L4 (n : Nat) : ∀ {P : Nat → Nat} {S : zm_S} {M : qm} {i1 : Int32} {qi1 : Int} {i2 : Int32} {qi2 : Int} (hS : Sh L xs P S) (hM : qM P S = M) (ei1 : i1.toInt = qi1) (ei2 : i2.toInt = qi2), qs (zf_X18_nextOne_L4 20000 n 2156 i1 i2 S) (qf_X18_nextOne_L4 20000 n qi1 qi2 M) (tO (vs (rp L xs P M vi) (rp L xs P M vi))) := by
  induction n with
  | zero =>
    intros
    exact qs_none
  | succ n ih =>
    intro P S M i1 qi1 i2 qi2 hS hM ei1 ei2
    unfold qf_X18_nextOne_L4
    refine qs_loop (C := (qc_X18_nextOne_L4 L xs P M (zf_X18_nextOne_L4 20000 n))) (qz_X18_nextOne_L4_b n hS hM ei1 ei2) ?_
    rintro x s ⟨_, _, _, rfl, u0, u1, hS2, hM2⟩
    exact ih hS2 hM2 u0 u1
set_option maxRecDepth 20000 in
theorem qz_X18_nextOne {P : Nat → Nat} {S : zm_S} {M : qm}  (hS : Sh L xs P S) (hM : qM P S = M)  : qs (zf_X18_nextOne 20000 2156 S) (qf_X18_nextOne 20000 M) (tO (rp L xs P M vi)) := by
  unfold zf_X18_nextOne qf_X18_nextOne
  refine qs_lp (qz_X18_nextOne_L4 20000 hS hM k_m1 k_0) ?_ ?_
  · intro v10601 S10601 w10601 h10601 hS10601 hM10601
    dsimp only
    exact qs_tp h10601 hS10601 hM10601
  · intro v10601 S10601 w10601 h10601 hS10601 hM10601
    dsimp only
    exact qs_tp (show vi _ _ from h10601) hS10601 hM10601
set_option maxRecDepth 20000 in
theorem qz_X18_goesThrough_L15_b (n : Nat) {P : Nat → Nat} {S : zm_S} {M : qm} {i1 : Int32} {qi1 : Int} {i2 : Int32} {qi2 : Int} {i4 : Int32} {qi4 : Int} {i5 : Int32} {qi5 : Int} (hS : Sh L xs P S) (hM : qM P S = M) (ei1 : i1.toInt = qi1) (ei2 : i2.toInt = qi2) (ei4 : i4.toInt = qi4) (ei5 : i5.toInt = qi5) : qs (zf_X18_goesThrough_L15 20000 (n + 1) 2156 i1 i2 i4 i5 S) (qf_X18_goesThrough_L15_b 20000 qi1 qi2 qi4 qi5 M) (tk (vs (rr L xs P vi) (rr L xs P vu)) (qc_X18_goesThrough_L15 L xs P (zf_X18_goesThrough_L15 20000 n))) := by
  refine qs_eq (zf_X18_goesThrough_L15.eq_2 ..) ?_
  unfold qf_X18_goesThrough_L15_b
  refine qs_ite (c_lt ei4 k_0) ?_ ?_
  · exact qs_tr2 (show vu _ _ from trivial) hS hM
  · refine qs_gr hS pl_2156 ts_2156 rfl ?_
    refine qs_gr hS pl_2157 ts_2157 rfl ?_
    refine qs_gd (fun g10605 => ?_)
    refine qs_xi hM (pa_p hS pl_2162 ts_2162) ei4 g10605 (fun v10604 h10604 => ?_)
    refine qs_ite (c_le h10604 ei5) ?_ ?_
    · exact qs_tr2 (show vu _ _ from trivial) hS hM
    · refine qs_gr hS pl_2156 ts_2156 rfl ?_
      refine qs_zi hS pl_2157 ts_2157 ?_
      refine qs_bp (qz_X16_isThere hS hM ei4 ei5 ei1 ei2) (fun v10608 S10608 w10608 h10608 hS10608 hM10608 => ?_)
      refine qs_ite (c_eq h10608 k_0) ?_ ?_
      · exact qs_tk ⟨_, _, _, _, _, rfl, ei1, ei2, ei4, (p_add ei5 k_1), hS10608, hM10608⟩
      · refine qs_gr hS10608 pl_2156 ts_2156 rfl ?_
        refine qs_gd (fun g10611 => ?_)
        refine qs_xi hM10608 (pa_p hS10608 pl_2330 ts_2330) (p_add (p_mul k_6 ei4) ei5) g10611 (fun v10610 h10610 => ?_)
        refine qs_gr hS10608 pl_2156 ts_2156 rfl ?_
        refine qs_gr hS10608 pl_2157 ts_2157 rfl ?_
        refine qs_gd (fun g10615 => ?_)
        refine qs_xi hM10608 (pa_p hS10608 pl_2165 ts_2165) (p_add (p_mul k_6 ei4) ei5) g10615 (fun v10614 h10614 => ?_)
        refine qs_ite (c_le h10614 h10610) ?_ ?_
        · exact qs_tk ⟨_, _, _, _, _, rfl, ei1, ei2, ei4, (p_add ei5 k_1), hS10608, hM10608⟩
        · refine qs_gr hS10608 pl_2156 ts_2156 rfl ?_
          refine qs_gd (fun g10618 => ?_)
          refine qs_xi hM10608 (pa_p hS10608 pl_2330 ts_2330) (p_add (p_mul k_6 ei4) ei5) g10618 (fun v10617 h10617 => ?_)
          refine qs_gd (fun g10620 => ?_)
          refine qs_si hS10608 hM10608 (pa_p hS10608 pl_2330 ts_2330) (p_add (p_mul k_6 ei4) ei5) g10620 (p_add h10617 k_1) (fun S10619 M10619 hS10619 hM10619 => ?_)
          exact qs_tr1 (show vi _ _ from k_1) hS10619 hM10619
theorem qz_X18_goesThrough_L15 (n : Nat) : ∀ {P : Nat → Nat} {S : zm_S} {M : qm} {i1 : Int32} {qi1 : Int} {i2 : Int32} {qi2 : Int} {i4 : Int32} {qi4 : Int} {i5 : Int32} {qi5 : Int} (hS : Sh L xs P S) (hM : qM P S = M) (ei1 : i1.toInt = qi1) (ei2 : i2.toInt = qi2) (ei4 : i4.toInt = qi4) (ei5 : i5.toInt = qi5), qs (zf_X18_goesThrough_L15 20000 n 2156 i1 i2 i4 i5 S) (qf_X18_goesThrough_L15 20000 n qi1 qi2 qi4 qi5 M) (tO (vs (rr L xs P vi) (rr L xs P vu))) := by
  induction n with
  | zero =>
    intros
    exact qs_none
  | succ n ih =>
    intro P S M i1 qi1 i2 qi2 i4 qi4 i5 qi5 hS hM ei1 ei2 ei4 ei5
    unfold qf_X18_goesThrough_L15
    refine qs_loop (C := (qc_X18_goesThrough_L15 L xs P (zf_X18_goesThrough_L15 20000 n))) (qz_X18_goesThrough_L15_b n hS hM ei1 ei2 ei4 ei5) ?_
    rintro x s ⟨_, _, _, _, _, rfl, u0, u1, u2, u3, hS2, hM2⟩
    exact ih hS2 hM2 u0 u1 u2 u3
set_option maxRecDepth 20000 in
theorem qz_X18_goesThrough_J108 {P : Nat → Nat} {S : zm_S} {M : qm} {i4 : Int32} {qi4 : Int} (hS : Sh L xs P S) (hM : qM P S = M) (ei4 : i4.toInt = qi4) : qs (zf_X18_goesThrough_J108 20000 i4 S) (qf_X18_goesThrough_J108 20000 qi4 M) (tO (rr L xs P vi)) := by
  unfold zf_X18_goesThrough_J108 qf_X18_goesThrough_J108
  refine qs_ite (c_le k_0 ei4) ?_ ?_
  · exact qs_tr (show vi _ _ from k_0) hS hM
  · exact qs_tr (show vi _ _ from k_1) hS hM
set_option maxRecDepth 20000 in
theorem qz_X18_goesThrough {P : Nat → Nat} {S : zm_S} {M : qm} {i1 : Int32} {qi1 : Int} {i2 : Int32} {qi2 : Int} {i3 : Int32} {qi3 : Int} (hS : Sh L xs P S) (hM : qM P S = M) (ei1 : i1.toInt = qi1) (ei2 : i2.toInt = qi2) (ei3 : i3.toInt = qi3) : qs (zf_X18_goesThrough 20000 2156 i1 i2 i3 S) (qf_X18_goesThrough 20000 qi1 qi2 qi3 M) (tO (rr L xs P vi)) := by
  unfold zf_X18_goesThrough qf_X18_goesThrough
  refine qs_gr hS pl_2156 ts_2156 rfl ?_
  refine qs_zi hS pl_2157 ts_2157 ?_
  refine qs_bp (qz_X16_lineBetween hS hM ei1 ei2 ei3) (fun v10623 S10623 w10623 h10623 hS10623 hM10623 => ?_)
  refine qs_lr (qz_X18_goesThrough_L15 20000 hS10623 hM10623 ei1 ei2 h10623 k_0) ?_ ?_
  · intro v10625 S10625 w10625 M10625 h10625 hS10625 hM10625
    dsimp only
    exact qs_tr h10625 hS10625 hM10625
  · intro v10625 S10625 w10625 M10625 h10625 hS10625 hM10625
    dsimp only
    exact (qz_X18_goesThrough_J108 hS10625 hM10625 h10623)
set_option maxRecDepth 20000 in
theorem qz_X18_step_J158 {P : Nat → Nat} {S : zm_S} {M : qm} {i1 : Int32} {qi1 : Int} {i2 : Int32} {qi2 : Int} {i3 : Int32} {qi3 : Int} {i4 : Int32} {qi4 : Int} {i5 : Int32} {qi5 : Int} {i6 : Int32} {qi6 : Int} (hS : Sh L xs P S) (hM : qM P S = M) (ei1 : i1.toInt = qi1) (ei2 : i2.toInt = qi2) (ei3 : i3.toInt = qi3) (ei4 : i4.toInt = qi4) (ei5 : i5.toInt = qi5) (ei6 : i6.toInt = qi6) {k : Nat → Int32 → Int32 → Int32 → zm_S → Option ((Unit × zm_S) ⊕ ((Unit) × zm_S))} : qs (zf_X18_step_J158 20000 k 2156 i1 i2 i3 i4 i5 i6 S) (qf_X18_step_J158 20000 qi1 qi2 qi3 qi4 qi5 qi6 M) (tk (vs (rr L xs P vu) (rr L xs P vu)) (qc_X18_step_L24 L xs P k)) := by
  unfold zf_X18_step_J158 qf_X18_step_J158
  refine qs_gr hS pl_2156 ts_2156 rfl ?_
  refine qs_gd (fun g10628 => ?_)
  refine qs_xi hM (pa_p hS pl_2307 ts_2307) ei1 g10628 (fun v10627 h10627 => ?_)
  refine qs_gr hS pl_2156 ts_2156 rfl ?_
  refine qs_gd (fun g10631 => ?_)
  refine qs_xi hM (pa_p hS pl_2308 ts_2308) ei1 g10631 (fun v10630 h10630 => ?_)
  refine qs_zi hS pl_2156 ts_2156 ?_
  refine qs_b (qz_X18_goesThrough hS hM h10627 h10630 ei3) (fun v10633 S10633 w10633 M10633 h10633 hS10633 hM10633 => ?_)
  refine qs_ite (c_eq h10633 k_0) ?_ ?_
  · exact qs_tk ⟨_, _, _, _, rfl, ei1, ei2, (p_add ei3 k_1), hS10633, hM10633⟩
  · refine qs_gr hS10633 pl_2156 ts_2156 rfl ?_
    refine qs_ite (c_eq ei6 k_0) ?_ ?_
    · refine qs_gr hS10633 pl_2156 ts_2156 rfl ?_
      refine qs_gd (fun g10637 => ?_)
      refine qs_xi hM10633 (pa_p hS10633 pl_2329 ts_2329) (p_add (p_mul k_24 ei5) ei4) g10637 (fun v10636 h10636 => ?_)
      refine qs_gd (fun g10639 => ?_)
      refine qs_si hS10633 hM10633 (pa_p hS10633 pl_2306 ts_2306) ei1 g10639 h10636 (fun S10638 M10638 hS10638 hM10638 => ?_)
      refine qs_gr hS10638 pl_2156 ts_2156 rfl ?_
      refine qs_ite (c_eq ei6 k_0) ?_ ?_
      · refine qs_gd (fun g10642 => ?_)
        refine qs_si hS10638 hM10638 (pa_p hS10638 pl_2307 ts_2307) ei1 g10642 ei4 (fun S10641 M10641 hS10641 hM10641 => ?_)
        refine qs_gr hS10641 pl_2156 ts_2156 rfl ?_
        refine qs_ite (c_eq ei6 k_0) ?_ ?_
        · refine qs_gd (fun g10645 => ?_)
          refine qs_si hS10641 hM10641 (pa_p hS10641 pl_2308 ts_2308) ei1 g10645 ei5 (fun S10644 M10644 hS10644 hM10644 => ?_)
          refine qs_gr hS10644 pl_2156 ts_2156 rfl ?_
          refine qs_gd (fun g10648 => ?_)
          refine qs_xi hM10644 (pa_p hS10644 pl_2310 ts_2310) ei1 g10648 (fun v10647 h10647 => ?_)
          refine qs_gd (fun g10650 => ?_)
          refine qs_si hS10644 hM10644 (pa_p hS10644 pl_2310 ts_2310) ei1 g10650 (p_add h10647 k_1) (fun S10649 M10649 hS10649 hM10649 => ?_)
          refine qs_gr hS10649 pl_2156 ts_2156 rfl ?_
          refine qs_gi hS10649 hM10649 pl_2156 ts_2156 (z := 2) rfl rfl (fun v10652 h10652 => ?_)
          refine qs_gd (fun g10654 => ?_)
          refine qs_si hS10649 hM10649 (pa_p hS10649 pl_2311 ts_2311) ei1 g10654 h10652 (fun S10653 M10653 hS10653 hM10653 => ?_)
          exact qs_tr1 (show vu _ _ from trivial) hS10653 hM10653
        · refine qs_gd (fun g10656 => ?_)
          refine qs_si hS10641 hM10641 (pa_p hS10641 pl_2308 ts_2308) ei1 g10656 k_m1 (fun S10655 M10655 hS10655 hM10655 => ?_)
          refine qs_gr hS10655 pl_2156 ts_2156 rfl ?_
          refine qs_gd (fun g10659 => ?_)
          refine qs_xi hM10655 (pa_p hS10655 pl_2310 ts_2310) ei1 g10659 (fun v10658 h10658 => ?_)
          refine qs_gd (fun g10661 => ?_)
          refine qs_si hS10655 hM10655 (pa_p hS10655 pl_2310 ts_2310) ei1 g10661 (p_add h10658 k_1) (fun S10660 M10660 hS10660 hM10660 => ?_)
          refine qs_gr hS10660 pl_2156 ts_2156 rfl ?_
          refine qs_gi hS10660 hM10660 pl_2156 ts_2156 (z := 2) rfl rfl (fun v10663 h10663 => ?_)
          refine qs_gd (fun g10665 => ?_)
          refine qs_si hS10660 hM10660 (pa_p hS10660 pl_2311 ts_2311) ei1 g10665 h10663 (fun S10664 M10664 hS10664 hM10664 => ?_)
          exact qs_tr1 (show vu _ _ from trivial) hS10664 hM10664
      · refine qs_gd (fun g10667 => ?_)
        refine qs_si hS10638 hM10638 (pa_p hS10638 pl_2307 ts_2307) ei1 g10667 k_m1 (fun S10666 M10666 hS10666 hM10666 => ?_)
        refine qs_gr hS10666 pl_2156 ts_2156 rfl ?_
        refine qs_ite (c_eq ei6 k_0) ?_ ?_
        · refine qs_gd (fun g10670 => ?_)
          refine qs_si hS10666 hM10666 (pa_p hS10666 pl_2308 ts_2308) ei1 g10670 ei5 (fun S10669 M10669 hS10669 hM10669 => ?_)
          refine qs_gr hS10669 pl_2156 ts_2156 rfl ?_
          refine qs_gd (fun g10673 => ?_)
          refine qs_xi hM10669 (pa_p hS10669 pl_2310 ts_2310) ei1 g10673 (fun v10672 h10672 => ?_)
          refine qs_gd (fun g10675 => ?_)
          refine qs_si hS10669 hM10669 (pa_p hS10669 pl_2310 ts_2310) ei1 g10675 (p_add h10672 k_1) (fun S10674 M10674 hS10674 hM10674 => ?_)
          refine qs_gr hS10674 pl_2156 ts_2156 rfl ?_
          refine qs_gi hS10674 hM10674 pl_2156 ts_2156 (z := 2) rfl rfl (fun v10677 h10677 => ?_)
          refine qs_gd (fun g10679 => ?_)
          refine qs_si hS10674 hM10674 (pa_p hS10674 pl_2311 ts_2311) ei1 g10679 h10677 (fun S10678 M10678 hS10678 hM10678 => ?_)
          exact qs_tr1 (show vu _ _ from trivial) hS10678 hM10678
        · refine qs_gd (fun g10681 => ?_)
          refine qs_si hS10666 hM10666 (pa_p hS10666 pl_2308 ts_2308) ei1 g10681 k_m1 (fun S10680 M10680 hS10680 hM10680 => ?_)
          refine qs_gr hS10680 pl_2156 ts_2156 rfl ?_
          refine qs_gd (fun g10684 => ?_)
          refine qs_xi hM10680 (pa_p hS10680 pl_2310 ts_2310) ei1 g10684 (fun v10683 h10683 => ?_)
          refine qs_gd (fun g10686 => ?_)
          refine qs_si hS10680 hM10680 (pa_p hS10680 pl_2310 ts_2310) ei1 g10686 (p_add h10683 k_1) (fun S10685 M10685 hS10685 hM10685 => ?_)
          refine qs_gr hS10685 pl_2156 ts_2156 rfl ?_
          refine qs_gi hS10685 hM10685 pl_2156 ts_2156 (z := 2) rfl rfl (fun v10688 h10688 => ?_)
          refine qs_gd (fun g10690 => ?_)
          refine qs_si hS10685 hM10685 (pa_p hS10685 pl_2311 ts_2311) ei1 g10690 h10688 (fun S10689 M10689 hS10689 hM10689 => ?_)
          exact qs_tr1 (show vu _ _ from trivial) hS10689 hM10689
    · refine qs_gi hS10633 hM10633 pl_2156 ts_2156 (z := 9) rfl rfl (fun v10691 h10691 => ?_)
      refine qs_gd (fun g10693 => ?_)
      refine qs_si hS10633 hM10633 (pa_p hS10633 pl_2306 ts_2306) ei1 g10693 h10691 (fun S10692 M10692 hS10692 hM10692 => ?_)
      refine qs_gr hS10692 pl_2156 ts_2156 rfl ?_
      refine qs_ite (c_eq ei6 k_0) ?_ ?_
      · refine qs_gd (fun g10696 => ?_)
        refine qs_si hS10692 hM10692 (pa_p hS10692 pl_2307 ts_2307) ei1 g10696 ei4 (fun S10695 M10695 hS10695 hM10695 => ?_)
        refine qs_gr hS10695 pl_2156 ts_2156 rfl ?_
        refine qs_ite (c_eq ei6 k_0) ?_ ?_
        · refine qs_gd (fun g10699 => ?_)
          refine qs_si hS10695 hM10695 (pa_p hS10695 pl_2308 ts_2308) ei1 g10699 ei5 (fun S10698 M10698 hS10698 hM10698 => ?_)
          refine qs_gr hS10698 pl_2156 ts_2156 rfl ?_
          refine qs_gd (fun g10702 => ?_)
          refine qs_xi hM10698 (pa_p hS10698 pl_2310 ts_2310) ei1 g10702 (fun v10701 h10701 => ?_)
          refine qs_gd (fun g10704 => ?_)
          refine qs_si hS10698 hM10698 (pa_p hS10698 pl_2310 ts_2310) ei1 g10704 (p_add h10701 k_1) (fun S10703 M10703 hS10703 hM10703 => ?_)
          refine qs_gr hS10703 pl_2156 ts_2156 rfl ?_
          refine qs_gi hS10703 hM10703 pl_2156 ts_2156 (z := 2) rfl rfl (fun v10706 h10706 => ?_)
          refine qs_gd (fun g10708 => ?_)
          refine qs_si hS10703 hM10703 (pa_p hS10703 pl_2311 ts_2311) ei1 g10708 h10706 (fun S10707 M10707 hS10707 hM10707 => ?_)
          exact qs_tr1 (show vu _ _ from trivial) hS10707 hM10707
        · refine qs_gd (fun g10710 => ?_)
          refine qs_si hS10695 hM10695 (pa_p hS10695 pl_2308 ts_2308) ei1 g10710 k_m1 (fun S10709 M10709 hS10709 hM10709 => ?_)
          refine qs_gr hS10709 pl_2156 ts_2156 rfl ?_
          refine qs_gd (fun g10713 => ?_)
          refine qs_xi hM10709 (pa_p hS10709 pl_2310 ts_2310) ei1 g10713 (fun v10712 h10712 => ?_)
          refine qs_gd (fun g10715 => ?_)
          refine qs_si hS10709 hM10709 (pa_p hS10709 pl_2310 ts_2310) ei1 g10715 (p_add h10712 k_1) (fun S10714 M10714 hS10714 hM10714 => ?_)
          refine qs_gr hS10714 pl_2156 ts_2156 rfl ?_
          refine qs_gi hS10714 hM10714 pl_2156 ts_2156 (z := 2) rfl rfl (fun v10717 h10717 => ?_)
          refine qs_gd (fun g10719 => ?_)
          refine qs_si hS10714 hM10714 (pa_p hS10714 pl_2311 ts_2311) ei1 g10719 h10717 (fun S10718 M10718 hS10718 hM10718 => ?_)
          exact qs_tr1 (show vu _ _ from trivial) hS10718 hM10718
      · refine qs_gd (fun g10721 => ?_)
        refine qs_si hS10692 hM10692 (pa_p hS10692 pl_2307 ts_2307) ei1 g10721 k_m1 (fun S10720 M10720 hS10720 hM10720 => ?_)
        refine qs_gr hS10720 pl_2156 ts_2156 rfl ?_
        refine qs_ite (c_eq ei6 k_0) ?_ ?_
        · refine qs_gd (fun g10724 => ?_)
          refine qs_si hS10720 hM10720 (pa_p hS10720 pl_2308 ts_2308) ei1 g10724 ei5 (fun S10723 M10723 hS10723 hM10723 => ?_)
          refine qs_gr hS10723 pl_2156 ts_2156 rfl ?_
          refine qs_gd (fun g10727 => ?_)
          refine qs_xi hM10723 (pa_p hS10723 pl_2310 ts_2310) ei1 g10727 (fun v10726 h10726 => ?_)
          refine qs_gd (fun g10729 => ?_)
          refine qs_si hS10723 hM10723 (pa_p hS10723 pl_2310 ts_2310) ei1 g10729 (p_add h10726 k_1) (fun S10728 M10728 hS10728 hM10728 => ?_)
          refine qs_gr hS10728 pl_2156 ts_2156 rfl ?_
          refine qs_gi hS10728 hM10728 pl_2156 ts_2156 (z := 2) rfl rfl (fun v10731 h10731 => ?_)
          refine qs_gd (fun g10733 => ?_)
          refine qs_si hS10728 hM10728 (pa_p hS10728 pl_2311 ts_2311) ei1 g10733 h10731 (fun S10732 M10732 hS10732 hM10732 => ?_)
          exact qs_tr1 (show vu _ _ from trivial) hS10732 hM10732
        · refine qs_gd (fun g10735 => ?_)
          refine qs_si hS10720 hM10720 (pa_p hS10720 pl_2308 ts_2308) ei1 g10735 k_m1 (fun S10734 M10734 hS10734 hM10734 => ?_)
          refine qs_gr hS10734 pl_2156 ts_2156 rfl ?_
          refine qs_gd (fun g10738 => ?_)
          refine qs_xi hM10734 (pa_p hS10734 pl_2310 ts_2310) ei1 g10738 (fun v10737 h10737 => ?_)
          refine qs_gd (fun g10740 => ?_)
          refine qs_si hS10734 hM10734 (pa_p hS10734 pl_2310 ts_2310) ei1 g10740 (p_add h10737 k_1) (fun S10739 M10739 hS10739 hM10739 => ?_)
          refine qs_gr hS10739 pl_2156 ts_2156 rfl ?_
          refine qs_gi hS10739 hM10739 pl_2156 ts_2156 (z := 2) rfl rfl (fun v10742 h10742 => ?_)
          refine qs_gd (fun g10744 => ?_)
          refine qs_si hS10739 hM10739 (pa_p hS10739 pl_2311 ts_2311) ei1 g10744 h10742 (fun S10743 M10743 hS10743 hM10743 => ?_)
          exact qs_tr1 (show vu _ _ from trivial) hS10743 hM10743
set_option maxRecDepth 20000 in
theorem qz_X18_step_J125 {P : Nat → Nat} {S : zm_S} {M : qm} {i1 : Int32} {qi1 : Int} {i2 : Int32} {qi2 : Int} {i3 : Int32} {qi3 : Int} {i4 : Int32} {qi4 : Int} {i5 : Int32} {qi5 : Int} {i6 : Int32} {qi6 : Int} {t0 : Int32} {qt0 : Int} (hS : Sh L xs P S) (hM : qM P S = M) (ei1 : i1.toInt = qi1) (ei2 : i2.toInt = qi2) (ei3 : i3.toInt = qi3) (ei4 : i4.toInt = qi4) (ei5 : i5.toInt = qi5) (ei6 : i6.toInt = qi6) (et0 : t0.toInt = qt0) {k : Nat → Int32 → Int32 → Int32 → zm_S → Option ((Unit × zm_S) ⊕ ((Unit) × zm_S))} : qs (zf_X18_step_J125 20000 k 2156 i1 i2 i3 i4 i5 i6 t0 S) (qf_X18_step_J125 20000 qi1 qi2 qi3 qi4 qi5 qi6 qt0 M) (tk (vs (rr L xs P vu) (rr L xs P vu)) (qc_X18_step_L24 L xs P k)) := by
  unfold zf_X18_step_J125 qf_X18_step_J125
  refine qs_ite (c_eq et0 k_0) ?_ ?_
  · exact qs_tk ⟨_, _, _, _, rfl, ei1, ei2, (p_add ei3 k_1), hS, hM⟩
  · refine qs_bp (qz_X18_isCell hS hM ei4 ei5) (fun v10745 S10745 w10745 h10745 hS10745 hM10745 => ?_)
    refine qs_ite (c_eq h10745 k_0) ?_ ?_
    · exact (qz_X18_step_J158 hS10745 hM10745 ei1 ei2 ei3 ei4 ei5 ei6)
    · refine qs_gr hS10745 pl_2156 ts_2156 rfl ?_
      refine qs_gd (fun g10748 => ?_)
      refine qs_xi hM10745 (pa_p hS10745 pl_2326 ts_2326) (p_add (p_mul k_24 ei5) ei4) g10748 (fun v10747 h10747 => ?_)
      refine qs_ite (c_eq h10747 k_0) ?_ ?_
      · exact (qz_X18_step_J158 hS10745 hM10745 ei1 ei2 ei3 ei4 ei5 ei6)
      · exact qs_tk ⟨_, _, _, _, rfl, ei1, ei2, (p_add ei3 k_1), hS10745, hM10745⟩
set_option maxRecDepth 20000 in
theorem qz_X18_step_J124 {P : Nat → Nat} {S : zm_S} {M : qm} {i1 : Int32} {qi1 : Int} {i2 : Int32} {qi2 : Int} {i3 : Int32} {qi3 : Int} {i4 : Int32} {qi4 : Int} {i5 : Int32} {qi5 : Int} {i6 : Int32} {qi6 : Int} (hS : Sh L xs P S) (hM : qM P S = M) (ei1 : i1.toInt = qi1) (ei2 : i2.toInt = qi2) (ei3 : i3.toInt = qi3) (ei4 : i4.toInt = qi4) (ei5 : i5.toInt = qi5) (ei6 : i6.toInt = qi6) {k : Nat → Int32 → Int32 → Int32 → zm_S → Option ((Unit × zm_S) ⊕ ((Unit) × zm_S))} : qs (zf_X18_step_J124 20000 k 2156 i1 i2 i3 i4 i5 i6 S) (qf_X18_step_J124 20000 qi1 qi2 qi3 qi4 qi5 qi6 M) (tk (vs (rr L xs P vu) (rr L xs P vu)) (qc_X18_step_L24 L xs P k)) := by
  unfold zf_X18_step_J124 qf_X18_step_J124
  exact (qz_X18_step_J125 hS hM ei1 ei2 ei3 ei4 ei5 ei6 k_0)
set_option maxRecDepth 20000 in
theorem qz_X18_step_J89 {P : Nat → Nat} {S : zm_S} {M : qm} {i1 : Int32} {qi1 : Int} {i2 : Int32} {qi2 : Int} {i3 : Int32} {qi3 : Int} {i4 : Int32} {qi4 : Int} {i5 : Int32} {qi5 : Int} {i6 : Int32} {qi6 : Int} {t0 : Int32} {qt0 : Int} (hS : Sh L xs P S) (hM : qM P S = M) (ei1 : i1.toInt = qi1) (ei2 : i2.toInt = qi2) (ei3 : i3.toInt = qi3) (ei4 : i4.toInt = qi4) (ei5 : i5.toInt = qi5) (ei6 : i6.toInt = qi6) (et0 : t0.toInt = qt0) {k : Nat → Int32 → Int32 → Int32 → zm_S → Option ((Unit × zm_S) ⊕ ((Unit) × zm_S))} : qs (zf_X18_step_J89 20000 k 2156 i1 i2 i3 i4 i5 i6 t0 S) (qf_X18_step_J89 20000 qi1 qi2 qi3 qi4 qi5 qi6 qt0 M) (tk (vs (rr L xs P vu) (rr L xs P vu)) (qc_X18_step_L24 L xs P k)) := by
  unfold zf_X18_step_J89 qf_X18_step_J89
  refine qs_ite (c_eq ei6 k_0) ?_ ?_
  · refine qs_ite (c_le et0 k_0) ?_ ?_
    · exact (qz_X18_step_J124 hS hM ei1 ei2 ei3 ei4 ei5 ei6)
    · refine qs_ite (c_le ei2 et0) ?_ ?_
      · exact (qz_X18_step_J124 hS hM ei1 ei2 ei3 ei4 ei5 ei6)
      · exact (qz_X18_step_J125 hS hM ei1 ei2 ei3 ei4 ei5 ei6 k_1)
  · refine qs_ite (c_eq ei2 k_1) ?_ ?_
    · exact (qz_X18_step_J125 hS hM ei1 ei2 ei3 ei4 ei5 ei6 k_1)
    · exact (qz_X18_step_J125 hS hM ei1 ei2 ei3 ei4 ei5 ei6 k_0)
set_option maxRecDepth 20000 in
theorem qz_X18_step_L24_b (n : Nat) {P : Nat → Nat} {S : zm_S} {M : qm} {i1 : Int32} {qi1 : Int} {i2 : Int32} {qi2 : Int} {i3 : Int32} {qi3 : Int} (hS : Sh L xs P S) (hM : qM P S = M) (ei1 : i1.toInt = qi1) (ei2 : i2.toInt = qi2) (ei3 : i3.toInt = qi3) : qs (zf_X18_step_L24 20000 (n + 1) 2156 i1 i2 i3 S) (qf_X18_step_L24_b 20000 qi1 qi2 qi3 M) (tk (vs (rr L xs P vu) (rr L xs P vu)) (qc_X18_step_L24 L xs P (zf_X18_step_L24 20000 n))) := by
  refine qs_eq (zf_X18_step_L24.eq_2 ..) ?_
  unfold qf_X18_step_L24_b
  refine qs_ite (c_le k_4 ei3) ?_ ?_
  · exact qs_tr2 (show vu _ _ from trivial) hS hM
  · refine qs_ite (c_le ei2 k_0) ?_ ?_
    · exact qs_tr2 (show vu _ _ from trivial) hS hM
    · refine qs_gr hS pl_2156 ts_2156 rfl ?_
      refine qs_gd (fun g10751 => ?_)
      refine qs_xi hM (pa_p hS pl_2307 ts_2307) ei1 g10751 (fun v10750 h10750 => ?_)
      refine qs_bp (qz_X18_nextX hS hM h10750 ei3) (fun v10752 S10752 w10752 h10752 hS10752 hM10752 => ?_)
      refine qs_gr hS10752 pl_2156 ts_2156 rfl ?_
      refine qs_gd (fun g10755 => ?_)
      refine qs_xi hM10752 (pa_p hS10752 pl_2308 ts_2308) ei1 g10755 (fun v10754 h10754 => ?_)
      refine qs_bp (qz_X18_nextY hS10752 hM10752 h10754 ei3) (fun v10756 S10756 w10756 h10756 hS10756 hM10756 => ?_)
      refine qs_zi hS10756 pl_2156 ts_2156 ?_
      refine qs_bp (qz_X18_isOutside hS10756 hM10756 h10752 h10756) (fun v10758 S10758 w10758 h10758 hS10758 hM10758 => ?_)
      refine qs_ite (c_eq h10758 k_0) ?_ ?_
      · refine qs_gr hS10758 pl_2156 ts_2156 rfl ?_
        refine qs_gd (fun g10761 => ?_)
        refine qs_xi hM10758 (pa_p hS10758 pl_2328 ts_2328) (p_add (p_mul k_24 h10756) h10752) g10761 (fun v10760 h10760 => ?_)
        exact (qz_X18_step_J89 hS10758 hM10758 ei1 ei2 ei3 h10752 h10756 h10758 h10760)
      · exact (qz_X18_step_J89 hS10758 hM10758 ei1 ei2 ei3 h10752 h10756 h10758 k_0)
theorem qz_X18_step_L24 (n : Nat) : ∀ {P : Nat → Nat} {S : zm_S} {M : qm} {i1 : Int32} {qi1 : Int} {i2 : Int32} {qi2 : Int} {i3 : Int32} {qi3 : Int} (hS : Sh L xs P S) (hM : qM P S = M) (ei1 : i1.toInt = qi1) (ei2 : i2.toInt = qi2) (ei3 : i3.toInt = qi3), qs (zf_X18_step_L24 20000 n 2156 i1 i2 i3 S) (qf_X18_step_L24 20000 n qi1 qi2 qi3 M) (tO (vs (rr L xs P vu) (rr L xs P vu))) := by
  induction n with
  | zero =>
    intros
    exact qs_none
  | succ n ih =>
    intro P S M i1 qi1 i2 qi2 i3 qi3 hS hM ei1 ei2 ei3
    unfold qf_X18_step_L24
    refine qs_loop (C := (qc_X18_step_L24 L xs P (zf_X18_step_L24 20000 n))) (qz_X18_step_L24_b n hS hM ei1 ei2 ei3) ?_
    rintro x s ⟨_, _, _, _, rfl, u0, u1, u2, hS2, hM2⟩
    exact ih hS2 hM2 u0 u1 u2
set_option maxRecDepth 20000 in
theorem qz_X18_step {P : Nat → Nat} {S : zm_S} {M : qm} {i1 : Int32} {qi1 : Int} (hS : Sh L xs P S) (hM : qM P S = M) (ei1 : i1.toInt = qi1) : qs (zf_X18_step 20000 2156 i1 S) (qf_X18_step 20000 qi1 M) (tO (rr L xs P vu)) := by
  unfold zf_X18_step qf_X18_step
  refine qs_gr hS pl_2156 ts_2156 rfl ?_
  refine qs_gr hS pl_2156 ts_2156 rfl ?_
  refine qs_gd (fun g10765 => ?_)
  refine qs_xi hM (pa_p hS pl_2308 ts_2308) ei1 g10765 (fun v10764 h10764 => ?_)
  refine qs_gr hS pl_2156 ts_2156 rfl ?_
  refine qs_gd (fun g10768 => ?_)
  refine qs_xi hM (pa_p hS pl_2307 ts_2307) ei1 g10768 (fun v10767 h10767 => ?_)
  refine qs_gd (fun g10770 => ?_)
  refine qs_xi hM (pa_p hS pl_2328 ts_2328) (p_add (p_mul k_24 h10764) h10767) g10770 (fun v10769 h10769 => ?_)
  refine qs_lr (qz_X18_step_L24 20000 hS hM ei1 h10769 k_0) ?_ ?_
  · intro v10772 S10772 w10772 M10772 h10772 hS10772 hM10772
    dsimp only
    exact qs_tr h10772 hS10772 hM10772
  · intro v10772 S10772 w10772 M10772 h10772 hS10772 hM10772
    dsimp only
    exact qs_tr (show vu _ _ from trivial) hS10772 hM10772
end QZ
