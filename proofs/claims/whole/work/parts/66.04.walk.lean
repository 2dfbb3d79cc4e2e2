/-! ===== each function over memories is the one over plain states, by program (wip/tools/q) ===== -/
section QZ
variable {L : Nat} {xs : Nat → Int32}
set_option maxRecDepth 20000 in
theorem qz_X0_isOff {P : Nat → Nat} {S : zm_S} {M : qm} {i1 : Int32} {qi1 : Int} (hS : Sh L xs P S) (hM : qM P S = M) (ei1 : i1.toInt = qi1) : qs (zf_X0_isOff 20000 824 i1 S) (qf_X0_isOff 20000 qi1 M) (tO (rp L xs P M vi)) := by
  unfold zf_X0_isOff qf_X0_isOff
  refine qs_zi hS pl_824 ts_824 ?_
  refine qs_bp (qz_X0_factOf hS hM ei1 k_11) (fun v4588 S4588 w4588 h4588 hS4588 hM4588 => ?_)
  refine qs_ite (c_eq h4588 k_m1) ?_ ?_
  · exact qs_tp (show vi _ _ from k_0) hS4588 hM4588
  · exact qs_tp (show vi _ _ from k_1) hS4588 hM4588
set_option maxRecDepth 20000 in
theorem qz_X10_isCaught {P : Nat → Nat} {S : zm_S} {M : qm} {i1 : Int32} {qi1 : Int} (hS : Sh L xs P S) (hM : qM P S = M) (ei1 : i1.toInt = qi1) : qs (zf_X10_isCaught 20000 756 i1 S) (qf_X10_isCaught 20000 qi1 M) (tO (rp L xs P M vi)) := by
  unfold zf_X10_isCaught qf_X10_isCaught
  refine qs_gr hS pl_756 ts_756 rfl ?_
  refine qs_gd (fun g4591 => ?_)
  refine qs_xt hS pl_761 ts_761 (Or.inl rfl) ei1 g4591 (fun b4590 r4590 => ?_)
  refine qs_yi (j := 3) hS hM qt_761 tq_761 r4590 k_3 (by decide) (fun v4592 h4592 => ?_)
  refine qs_ite (c_eq h4592 k_m1) ?_ ?_
  · exact qs_tp (show vi _ _ from k_0) hS hM
  · exact qs_tp (show vi _ _ from k_1) hS hM
set_option maxRecDepth 20000 in
theorem qz_X10_putInto_J56 {P : Nat → Nat} {S : zm_S} {M : qm} {i5 : Int32} {qi5 : Int} {a6 : Nat} {qa6 : Int} {t0 : Nat} {qt0 : Int} {t1 : Int32} {qt1 : Int} {t2 : Int32} {qt2 : Int} (hS : Sh L xs P S) (hM : qM P S = M) (ei5 : i5.toInt = qi5) (ra6 : pr a6 762 40 qa6) (rt0 : pr t0 762 40 qt0) (et1 : t1.toInt = qt1) (et2 : t2.toInt = qt2) : qs (zf_X10_putInto_J56 20000 i5 a6 t0 t1 t2 S) (qf_X10_putInto_J56 20000 qi5 qa6 qt0 qt1 qt2 M) (tO (rr L xs P vu)) := by
  unfold zf_X10_putInto_J56 qf_X10_putInto_J56
  refine qs_gd (fun g4594 => ?_)
  refine qs_ysi hS hM qt_761 tq_761 rt0 et1 g4594 et2 (fun S4593 M4593 hS4593 hM4593 => ?_)
  refine qs_ysi hS4593 hM4593 qt_761 tq_761 ra6 k_5 (by decide) ei5 (fun S4595 M4595 hS4595 hM4595 => ?_)
  exact qs_tr (show vu _ _ from trivial) hS4595 hM4595
set_option maxRecDepth 20000 in
theorem qz_X10_putInto_J41 {P : Nat → Nat} {S : zm_S} {M : qm} {i4 : Int32} {qi4 : Int} {i5 : Int32} {qi5 : Int} {a6 : Nat} {qa6 : Int} {i7 : Int32} {qi7 : Int} {t0 : Nat} {qt0 : Int} {t1 : Int32} {qt1 : Int} {t2 : Int32} {qt2 : Int} (hS : Sh L xs P S) (hM : qM P S = M) (ei4 : i4.toInt = qi4) (ei5 : i5.toInt = qi5) (ra6 : pr a6 762 40 qa6) (ei7 : i7.toInt = qi7) (rt0 : pr t0 762 40 qt0) (et1 : t1.toInt = qt1) (et2 : t2.toInt = qt2) : qs (zf_X10_putInto_J41 20000 i4 i5 a6 i7 t0 t1 t2 S) (qf_X10_putInto_J41 20000 qi4 qi5 qa6 qi7 qt0 qt1 qt2 M) (tO (rr L xs P vu)) := by
  unfold zf_X10_putInto_J41 qf_X10_putInto_J41
  refine qs_gd (fun g4597 => ?_)
  refine qs_ysi hS hM qt_761 tq_761 rt0 et1 g4597 et2 (fun S4596 M4596 hS4596 hM4596 => ?_)
  refine qs_ite (c_eq ei7 k_0) ?_ ?_
  · exact (qz_X10_putInto_J56 hS4596 hM4596 ei5 ra6 ra6 k_2 ei4)
  · exact (qz_X10_putInto_J56 hS4596 hM4596 ei5 ra6 ra6 k_2 k_m1)
set_option maxRecDepth 20000 in
theorem qz_X10_putInto_J21 {P : Nat → Nat} {S : zm_S} {M : qm} {i2 : Int32} {qi2 : Int} {i3 : Int32} {qi3 : Int} {i4 : Int32} {qi4 : Int} {i5 : Int32} {qi5 : Int} {a6 : Nat} {qa6 : Int} {t0 : Int32} {qt0 : Int} (hS : Sh L xs P S) (hM : qM P S = M) (ei2 : i2.toInt = qi2) (ei3 : i3.toInt = qi3) (ei4 : i4.toInt = qi4) (ei5 : i5.toInt = qi5) (ra6 : pr a6 762 40 qa6) (et0 : t0.toInt = qt0) : qs (zf_X10_putInto_J21 20000 i2 i3 i4 i5 a6 t0 S) (qf_X10_putInto_J21 20000 qi2 qi3 qi4 qi5 qa6 qt0 M) (tO (rr L xs P vu)) := by
  unfold zf_X10_putInto_J21 qf_X10_putInto_J21
  refine qs_ysi hS hM qt_761 tq_761 ra6 k_0 (by decide) ei2 (fun S4598 M4598 hS4598 hM4598 => ?_)
  refine qs_ite (c_eq et0 k_0) ?_ ?_
  · exact (qz_X10_putInto_J41 hS4598 hM4598 ei4 ei5 ra6 et0 ra6 k_1 ei3)
  · exact (qz_X10_putInto_J41 hS4598 hM4598 ei4 ei5 ra6 et0 ra6 k_1 k_m1)
set_option maxRecDepth 20000 in
theorem qz_X10_putInto {P : Nat → Nat} {S : zm_S} {M : qm} {i1 : Int32} {qi1 : Int} {i2 : Int32} {qi2 : Int} {i3 : Int32} {qi3 : Int} {i4 : Int32} {qi4 : Int} {i5 : Int32} {qi5 : Int} (hS : Sh L xs P S) (hM : qM P S = M) (ei1 : i1.toInt = qi1) (ei2 : i2.toInt = qi2) (ei3 : i3.toInt = qi3) (ei4 : i4.toInt = qi4) (ei5 : i5.toInt = qi5) : qs (zf_X10_putInto 20000 756 i1 i2 i3 i4 i5 S) (qf_X10_putInto 20000 qi1 qi2 qi3 qi4 qi5 M) (tO (rr L xs P vu)) := by
  unfold zf_X10_putInto qf_X10_putInto
  refine qs_gr hS pl_756 ts_756 rfl ?_
  refine qs_gd (fun g4601 => ?_)
  refine qs_xt hS pl_761 ts_761 (Or.inl rfl) ei1 g4601 (fun b4600 r4600 => ?_)
  refine qs_zi hS pl_756 ts_756 ?_
  refine qs_bp (qz_X10_outside hS hM ) (fun v4603 S4603 w4603 h4603 hS4603 hM4603 => ?_)
  refine qs_ite (c_eq ei2 h4603) ?_ ?_
  · exact (qz_X10_putInto_J21 hS4603 hM4603 ei2 ei3 ei4 ei5 r4600 k_1)
  · exact (qz_X10_putInto_J21 hS4603 hM4603 ei2 ei3 ei4 ei5 r4600 k_0)
set_option maxRecDepth 20000 in
theorem qz_X0_comeIn_J16 {P : Nat → Nat} {S : zm_S} {M : qm} {i1 : Int32} {qi1 : Int} {i2 : Int32} {qi2 : Int} {i3 : Int32} {qi3 : Int} {i4 : Int32} {qi4 : Int} {t0 : Int32} {qt0 : Int} (hS : Sh L xs P S) (hM : qM P S = M) (ei1 : i1.toInt = qi1) (ei2 : i2.toInt = qi2) (ei3 : i3.toInt = qi3) (ei4 : i4.toInt = qi4) (et0 : t0.toInt = qt0) : qs (zf_X0_comeIn_J16 20000 824 i1 i2 i3 i4 t0 S) (qf_X0_comeIn_J16 20000 qi1 qi2 qi3 qi4 qt0 M) (tO (rr L xs P vu)) := by
  unfold zf_X0_comeIn_J16 qf_X0_comeIn_J16
  refine qs_gr hS pl_824 ts_824 rfl ?_
  refine qs_zi hS pl_824 ts_824 ?_
  refine qs_bp (qz_X0_factOf hS hM ei2 et0) (fun v4606 S4606 w4606 h4606 hS4606 hM4606 => ?_)
  refine qs_zi hS4606 pl_824 ts_824 ?_
  refine qs_bp (qz_X0_factOf hS4606 hM4606 ei2 (p_add et0 k_1)) (fun v4608 S4608 w4608 h4608 hS4608 hM4608 => ?_)
  refine qs_zi hS4608 pl_756 ts_756 ?_
  refine qs_b (qz_X10_putInto hS4608 hM4608 ei1 ei3 h4606 h4608 ei4) (fun v4610 S4610 w4610 M4610 h4610 hS4610 hM4610 => ?_)
  exact qs_tr (show vu _ _ from trivial) hS4610 hM4610
set_option maxRecDepth 20000 in
theorem qz_X0_comeIn {P : Nat → Nat} {S : zm_S} {M : qm} {i1 : Int32} {qi1 : Int} {i2 : Int32} {qi2 : Int} {i3 : Int32} {qi3 : Int} {i4 : Int32} {qi4 : Int} (hS : Sh L xs P S) (hM : qM P S = M) (ei1 : i1.toInt = qi1) (ei2 : i2.toInt = qi2) (ei3 : i3.toInt = qi3) (ei4 : i4.toInt = qi4) : qs (zf_X0_comeIn 20000 824 i1 i2 i3 i4 S) (qf_X0_comeIn 20000 qi1 qi2 qi3 qi4 M) (tO (rr L xs P vu)) := by
  unfold zf_X0_comeIn qf_X0_comeIn
  refine qs_zi hS pl_824 ts_824 ?_
  refine qs_bp (qz_X0_factOf hS hM ei2 k_0) (fun v4612 S4612 w4612 h4612 hS4612 hM4612 => ?_)
  refine qs_ite (c_eq ei3 h4612) ?_ ?_
  · exact (qz_X0_comeIn_J16 hS4612 hM4612 ei1 ei2 ei3 ei4 k_4)
  · exact (qz_X0_comeIn_J16 hS4612 hM4612 ei1 ei2 ei3 ei4 k_6)
set_option maxRecDepth 20000 in
theorem qz_X0_isNoted {P : Nat → Nat} {S : zm_S} {M : qm} {i1 : Int32} {qi1 : Int} {i2 : Int32} {qi2 : Int} {i3 : Int32} {qi3 : Int} (hS : Sh L xs P S) (hM : qM P S = M) (ei1 : i1.toInt = qi1) (ei2 : i2.toInt = qi2) (ei3 : i3.toInt = qi3) : qs (zf_X0_isNoted 20000 824 i1 i2 i3 S) (qf_X0_isNoted 20000 qi1 qi2 qi3 M) (tO (rp L xs P M vi)) := by
  unfold zf_X0_isNoted qf_X0_isNoted
  refine qs_zi hS pl_824 ts_824 ?_
  refine qs_bp (qz_X0_latestNote hS hM ei1 ei2) (fun v4614 S4614 w4614 h4614 hS4614 hM4614 => ?_)
  refine qs_ite (c_eq h4614 k_m1) ?_ ?_
  · exact qs_tp (show vi _ _ from k_0) hS4614 hM4614
  · refine qs_ite (c_lt ei3 h4614) ?_ ?_
    · exact qs_tp (show vi _ _ from k_0) hS4614 hM4614
    · exact qs_tp (show vi _ _ from k_1) hS4614 hM4614
set_option maxRecDepth 20000 in
theorem qz_X0_cardRefusal {P : Nat → Nat} {S : zm_S} {M : qm} {i1 : Int32} {qi1 : Int} {i2 : Int32} {qi2 : Int} {i3 : Int32} {qi3 : Int} (hS : Sh L xs P S) (hM : qM P S = M) (ei1 : i1.toInt = qi1) (ei2 : i2.toInt = qi2) (ei3 : i3.toInt = qi3) : qs (zf_X0_cardRefusal 20000 824 i1 i2 i3 S) (qf_X0_cardRefusal 20000 qi1 qi2 qi3 M) (tO (rp L xs P M vi)) := by
  unfold zf_X0_cardRefusal qf_X0_cardRefusal
  refine qs_gr hS pl_824 ts_824 rfl ?_
  refine qs_gd (fun g4617 => ?_)
  refine qs_xt hS pl_828 ts_828 (Or.inl rfl) ei1 g4617 (fun b4616 r4616 => ?_)
  refine qs_yi (j := 2) hS hM qt_828 tq_828 r4616 k_2 (by decide) (fun v4618 h4618 => ?_)
  refine qs_ite (c_lt h4618 ei3) ?_ ?_
  · refine qs_gr hS pl_824 ts_824 rfl ?_
    refine qs_gd (fun g4621 => ?_)
    refine qs_xt hS pl_828 ts_828 (Or.inl rfl) ei1 g4621 (fun b4620 r4620 => ?_)
    refine qs_yi (j := 1) hS hM qt_828 tq_828 r4620 k_1 (by decide) (fun v4622 h4622 => ?_)
    refine qs_ite (c_le ei2 h4622) ?_ ?_
    · refine qs_zi hS pl_824 ts_824 ?_
      refine qs_bp (qz_X0_isNoted hS hM (p_add k_100 ei1) ei3 ei2) (fun v4624 S4624 w4624 h4624 hS4624 hM4624 => ?_)
      refine qs_ite (c_eq h4624 k_0) ?_ ?_
      · exact qs_tp (show vi _ _ from k_0) hS4624 hM4624
      · exact qs_tp (show vi _ _ from k_3) hS4624 hM4624
    · exact qs_tp (show vi _ _ from k_2) hS hM
  · exact qs_tp (show vi _ _ from k_1) hS hM
set_option maxRecDepth 20000 in
theorem qz_X10_groupOf {P : Nat → Nat} {S : zm_S} {M : qm} {i1 : Int32} {qi1 : Int} (hS : Sh L xs P S) (hM : qM P S = M) (ei1 : i1.toInt = qi1) : qs (zf_X10_groupOf 20000 756 i1 S) (qf_X10_groupOf 20000 qi1 M) (tO (rp L xs P M vi)) := by
  unfold zf_X10_groupOf qf_X10_groupOf
  refine qs_gr hS pl_756 ts_756 rfl ?_
  refine qs_gd (fun g4627 => ?_)
  refine qs_xt hS pl_761 ts_761 (Or.inl rfl) ei1 g4627 (fun b4626 r4626 => ?_)
  refine qs_yi (j := 6) hS hM qt_761 tq_761 r4626 k_6 (by decide) (fun v4628 h4628 => ?_)
  exact qs_tp (show vi _ _ from h4628) hS hM
set_option maxRecDepth 20000 in
theorem qz_X10_zoneOf {P : Nat → Nat} {S : zm_S} {M : qm} {i1 : Int32} {qi1 : Int} (hS : Sh L xs P S) (hM : qM P S = M) (ei1 : i1.toInt = qi1) : qs (zf_X10_zoneOf 20000 756 i1 S) (qf_X10_zoneOf 20000 qi1 M) (tO (rp L xs P M vi)) := by
  unfold zf_X10_zoneOf qf_X10_zoneOf
  refine qs_ite (c_lt ei1 k_0) ?_ ?_
  · exact qs_tp (show vi _ _ from k_m1) hS hM
  · refine qs_gr hS pl_756 ts_756 rfl ?_
    refine qs_gi hS hM pl_51 ts_51 (z := 3) rfl rfl (fun v4630 h4630 => ?_)
    refine qs_ite (c_le h4630 ei1) ?_ ?_
    · exact qs_tp (show vi _ _ from k_m1) hS hM
    · refine qs_gr hS pl_756 ts_756 rfl ?_
      refine qs_gr hS pl_51 ts_51 rfl ?_
      refine qs_gd (fun g4634 => ?_)
      refine qs_xi hM (pa_s hS (d := 58) rfl (by decide) (by decide) sf_58) ei1 g4634 (fun v4633 h4633 => ?_)
      exact qs_tp (show vi _ _ from (p_mod h4633 k_10)) hS hM
set_option maxRecDepth 20000 in
theorem qz_X0_hasRight_J127 {P : Nat → Nat} {S : zm_S} {M : qm} {i3 : Int32} {qi3 : Int} {i4 : Int32} {qi4 : Int} {i5 : Int32} {qi5 : Int} {i6 : Int32} {qi6 : Int} {i7 : Int32} {qi7 : Int} {i9 : Int32} {qi9 : Int} {t0 : Int32} {qt0 : Int} (hS : Sh L xs P S) (hM : qM P S = M) (ei3 : i3.toInt = qi3) (ei4 : i4.toInt = qi4) (ei5 : i5.toInt = qi5) (ei6 : i6.toInt = qi6) (ei7 : i7.toInt = qi7) (ei9 : i9.toInt = qi9) (et0 : t0.toInt = qt0) {k : Nat → Int32 → Int32 → Int32 → Int32 → Int32 → zm_S → Option ((Int32 × zm_S) ⊕ ((Unit) × zm_S))} : qs (zf_X0_hasRight_J127 20000 k 824 i3 i4 i5 i6 i7 i9 t0 S) (qf_X0_hasRight_J127 20000 qi3 qi4 qi5 qi6 qi7 qi9 qt0 M) (tk (vs (rp L xs P M vi) (rp L xs P M vu)) (qc_X0_hasRight_L43 L xs P M k)) := by
  unfold zf_X0_hasRight_J127 qf_X0_hasRight_J127
  refine qs_ite (c_eq ei9 k_0) ?_ ?_
  · exact qs_tk ⟨_, _, _, _, _, _, rfl, ei3, ei4, ei5, ei6, (p_add ei7 k_1), hS, hM⟩
  · refine qs_ite (c_eq et0 k_0) ?_ ?_
    · exact qs_tk ⟨_, _, _, _, _, _, rfl, ei3, ei4, ei5, ei6, (p_add ei7 k_1), hS, hM⟩
    · refine qs_zi hS pl_824 ts_824 ?_
      refine qs_bp (qz_X0_isNoted hS hM ei7 ei4 ei3) (fun v4636 S4636 w4636 h4636 hS4636 hM4636 => ?_)
      refine qs_ite (c_eq h4636 k_0) ?_ ?_
      · exact qs_tp1 (show vi _ _ from k_1) hS4636 hM4636
      · exact qs_tk ⟨_, _, _, _, _, _, rfl, ei3, ei4, ei5, ei6, (p_add ei7 k_1), hS4636, hM4636⟩
set_option maxRecDepth 20000 in
theorem qz_X0_hasRight_J126 {P : Nat → Nat} {S : zm_S} {M : qm} {i3 : Int32} {qi3 : Int} {i4 : Int32} {qi4 : Int} {i5 : Int32} {qi5 : Int} {i6 : Int32} {qi6 : Int} {i7 : Int32} {qi7 : Int} {i9 : Int32} {qi9 : Int} (hS : Sh L xs P S) (hM : qM P S = M) (ei3 : i3.toInt = qi3) (ei4 : i4.toInt = qi4) (ei5 : i5.toInt = qi5) (ei6 : i6.toInt = qi6) (ei7 : i7.toInt = qi7) (ei9 : i9.toInt = qi9) {k : Nat → Int32 → Int32 → Int32 → Int32 → Int32 → zm_S → Option ((Int32 × zm_S) ⊕ ((Unit) × zm_S))} : qs (zf_X0_hasRight_J126 20000 k 824 i3 i4 i5 i6 i7 i9 S) (qf_X0_hasRight_J126 20000 qi3 qi4 qi5 qi6 qi7 qi9 M) (tk (vs (rp L xs P M vi) (rp L xs P M vu)) (qc_X0_hasRight_L43 L xs P M k)) := by
  unfold zf_X0_hasRight_J126 qf_X0_hasRight_J126
  exact (qz_X0_hasRight_J127 hS hM ei3 ei4 ei5 ei6 ei7 ei9 k_0)
set_option maxRecDepth 20000 in
theorem qz_X0_isInSpan {P : Nat → Nat} {S : zm_S} {M : qm} {i0 : Int32} {qi0 : Int} {i1 : Int32} {qi1 : Int} {i2 : Int32} {qi2 : Int} (hS : Sh L xs P S) (hM : qM P S = M) (ei0 : i0.toInt = qi0) (ei1 : i1.toInt = qi1) (ei2 : i2.toInt = qi2) : qs (zf_X0_isInSpan 20000 i0 i1 i2 S) (qf_X0_isInSpan 20000 qi0 qi1 qi2 M) (tO (rp L xs P M vi)) := by
  unfold zf_X0_isInSpan qf_X0_isInSpan
  refine qs_ite (c_lt ei2 ei1) ?_ ?_
  · refine qs_ite (c_le ei1 ei0) ?_ ?_
    · exact qs_tp (show vi _ _ from k_1) hS hM
    · refine qs_ite (c_le ei2 ei0) ?_ ?_
      · exact qs_tp (show vi _ _ from k_0) hS hM
      · exact qs_tp (show vi _ _ from k_1) hS hM
  · refine qs_ite (c_lt ei0 ei1) ?_ ?_
    · exact qs_tp (show vi _ _ from k_0) hS hM
    · refine qs_ite (c_le ei2 ei0) ?_ ?_
      · exact qs_tp (show vi _ _ from k_0) hS hM
      · exact qs_tp (show vi _ _ from k_1) hS hM
set_option maxRecDepth 20000 in
theorem qz_X0_hasRight_J93 {P : Nat → Nat} {S : zm_S} {M : qm} {i3 : Int32} {qi3 : Int} {i4 : Int32} {qi4 : Int} {i5 : Int32} {qi5 : Int} {i6 : Int32} {qi6 : Int} {i7 : Int32} {qi7 : Int} {a8 : Nat} {qa8 : Int} {t0 : Int32} {qt0 : Int} (hS : Sh L xs P S) (hM : qM P S = M) (ei3 : i3.toInt = qi3) (ei4 : i4.toInt = qi4) (ei5 : i5.toInt = qi5) (ei6 : i6.toInt = qi6) (ei7 : i7.toInt = qi7) (ra8 : pr a8 890 16 qa8) (et0 : t0.toInt = qt0) {k : Nat → Int32 → Int32 → Int32 → Int32 → Int32 → zm_S → Option ((Int32 × zm_S) ⊕ ((Unit) × zm_S))} : qs (zf_X0_hasRight_J93 20000 k 824 i3 i4 i5 i6 i7 a8 t0 S) (qf_X0_hasRight_J93 20000 qi3 qi4 qi5 qi6 qi7 qa8 qt0 M) (tk (vs (rp L xs P M vi) (rp L xs P M vu)) (qc_X0_hasRight_L43 L xs P M k)) := by
  unfold zf_X0_hasRight_J93 qf_X0_hasRight_J93
  refine qs_yi (j := 4) hS hM qt_889 tq_889 ra8 k_4 (by decide) (fun v4637 h4637 => ?_)
  refine qs_ite (c_lt ei3 h4637) ?_ ?_
  · exact (qz_X0_hasRight_J126 hS hM ei3 ei4 ei5 ei6 ei7 et0)
  · refine qs_yi (j := 2) hS hM qt_889 tq_889 ra8 k_2 (by decide) (fun v4638 h4638 => ?_)
    refine qs_yi (j := 3) hS hM qt_889 tq_889 ra8 k_3 (by decide) (fun v4639 h4639 => ?_)
    refine qs_bp (qz_X0_isInSpan hS hM (p_mod ei3 k_1440) h4638 h4639) (fun v4640 S4640 w4640 h4640 hS4640 hM4640 => ?_)
    refine qs_ite (c_eq h4640 k_0) ?_ ?_
    · exact (qz_X0_hasRight_J126 hS4640 hM4640 ei3 ei4 ei5 ei6 ei7 et0)
    · exact (qz_X0_hasRight_J127 hS4640 hM4640 ei3 ei4 ei5 ei6 ei7 et0 k_1)
set_option maxRecDepth 20000 in
theorem qz_X0_hasRight_J92 {P : Nat → Nat} {S : zm_S} {M : qm} {i3 : Int32} {qi3 : Int} {i4 : Int32} {qi4 : Int} {i5 : Int32} {qi5 : Int} {i6 : Int32} {qi6 : Int} {i7 : Int32} {qi7 : Int} {a8 : Nat} {qa8 : Int} (hS : Sh L xs P S) (hM : qM P S = M) (ei3 : i3.toInt = qi3) (ei4 : i4.toInt = qi4) (ei5 : i5.toInt = qi5) (ei6 : i6.toInt = qi6) (ei7 : i7.toInt = qi7) (ra8 : pr a8 890 16 qa8) {k : Nat → Int32 → Int32 → Int32 → Int32 → Int32 → zm_S → Option ((Int32 × zm_S) ⊕ ((Unit) × zm_S))} : qs (zf_X0_hasRight_J92 20000 k 824 i3 i4 i5 i6 i7 a8 S) (qf_X0_hasRight_J92 20000 qi3 qi4 qi5 qi6 qi7 qa8 M) (tk (vs (rp L xs P M vi) (rp L xs P M vu)) (qc_X0_hasRight_L43 L xs P M k)) := by
  unfold zf_X0_hasRight_J92 qf_X0_hasRight_J92
  exact (qz_X0_hasRight_J93 hS hM ei3 ei4 ei5 ei6 ei7 ra8 k_0)
set_option maxRecDepth 20000 in
theorem qz_X0_hasRight_L43_b (n : Nat) {P : Nat → Nat} {S : zm_S} {M : qm} {i3 : Int32} {qi3 : Int} {i4 : Int32} {qi4 : Int} {i5 : Int32} {qi5 : Int} {i6 : Int32} {qi6 : Int} {i7 : Int32} {qi7 : Int} (hS : Sh L xs P S) (hM : qM P S = M) (ei3 : i3.toInt = qi3) (ei4 : i4.toInt = qi4) (ei5 : i5.toInt = qi5) (ei6 : i6.toInt = qi6) (ei7 : i7.toInt = qi7) : qs (zf_X0_hasRight_L43 20000 (n + 1) 824 i3 i4 i5 i6 i7 S) (qf_X0_hasRight_L43_b 20000 qi3 qi4 qi5 qi6 qi7 M) (tk (vs (rp L xs P M vi) (rp L xs P M vu)) (qc_X0_hasRight_L43 L xs P M (zf_X0_hasRight_L43 20000 n))) := by
  refine qs_eq (zf_X0_hasRight_L43.eq_2 ..) ?_
  unfold qf_X0_hasRight_L43_b
  refine qs_gi hS hM pl_824 ts_824 (z := 10) rfl rfl (fun v4641 h4641 => ?_)
  refine qs_ite (c_le h4641 ei7) ?_ ?_
  · exact qs_tp2 (show vu _ _ from trivial) hS hM
  · refine qs_gr hS pl_824 ts_824 rfl ?_
    refine qs_gd (fun g4644 => ?_)
    refine qs_xt hS pl_889 ts_889 (Or.inl rfl) ei7 g4644 (fun b4643 r4643 => ?_)
    refine qs_yi (j := 0) hS hM qt_889 tq_889 r4643 k_0 (by decide) (fun v4645 h4645 => ?_)
    refine qs_ite (c_eq h4645 ei5) ?_ ?_
    · refine qs_yi (j := 1) hS hM qt_889 tq_889 r4643 k_1 (by decide) (fun v4646 h4646 => ?_)
      refine qs_ite (c_eq h4646 ei6) ?_ ?_
      · refine qs_yi (j := 5) hS hM qt_889 tq_889 r4643 k_5 (by decide) (fun v4647 h4647 => ?_)
        refine qs_ite (c_le ei4 h4647) ?_ ?_
        · exact (qz_X0_hasRight_J92 hS hM ei3 ei4 ei5 ei6 ei7 r4643)
        · exact (qz_X0_hasRight_J93 hS hM ei3 ei4 ei5 ei6 ei7 r4643 k_1)
      · exact (qz_X0_hasRight_J92 hS hM ei3 ei4 ei5 ei6 ei7 r4643)
    · exact (qz_X0_hasRight_J92 hS hM ei3 ei4 ei5 ei6 ei7 r4643)
theorem qz_X0_hasRight_L43 (n : Nat) : ∀ {P : Nat → Nat} {S : zm_S} {M : qm} {i3 : Int32} {qi3 : Int} {i4 : Int32} {qi4 : Int} {i5 : Int32} {qi5 : Int} {i6 : Int32} {qi6 : Int} {i7 : Int32} {qi7 : Int} (hS : Sh L xs P S) (hM : qM P S = M) (ei3 : i3.toInt = qi3) (ei4 : i4.toInt = qi4) (ei5 : i5.toInt = qi5) (ei6 : i6.toInt = qi6) (ei7 : i7.toInt = qi7), qs (zf_X0_hasRight_L43 20000 n 824 i3 i4 i5 i6 i7 S) (qf_X0_hasRight_L43 20000 n qi3 qi4 qi5 qi6 qi7 M) (tO (vs (rp L xs P M vi) (rp L xs P M vu))) := by
  induction n with
  | zero =>
    intros
    exact qs_none
  | succ n ih =>
    intro P S M i3 qi3 i4 qi4 i5 qi5 i6 qi6 i7 qi7 hS hM ei3 ei4 ei5 ei6 ei7
    unfold qf_X0_hasRight_L43
    refine qs_loop (C := (qc_X0_hasRight_L43 L xs P M (zf_X0_hasRight_L43 20000 n))) (qz_X0_hasRight_L43_b n hS hM ei3 ei4 ei5 ei6 ei7) ?_
    rintro x s ⟨_, _, _, _, _, _, rfl, u0, u1, u2, u3, u4, hS2, hM2⟩
    exact ih hS2 hM2 u0 u1 u2 u3 u4
set_option maxRecDepth 20000 in
theorem qz_X0_hasRight {P : Nat → Nat} {S : zm_S} {M : qm} {i1 : Int32} {qi1 : Int} {i2 : Int32} {qi2 : Int} {i3 : Int32} {qi3 : Int} {i4 : Int32} {qi4 : Int} (hS : Sh L xs P S) (hM : qM P S = M) (ei1 : i1.toInt = qi1) (ei2 : i2.toInt = qi2) (ei3 : i3.toInt = qi3) (ei4 : i4.toInt = qi4) : qs (zf_X0_hasRight 20000 824 i1 i2 i3 i4 S) (qf_X0_hasRight 20000 qi1 qi2 qi3 qi4 M) (tO (rp L xs P M vi)) := by
  unfold zf_X0_hasRight qf_X0_hasRight
  refine qs_gr hS pl_824 ts_824 rfl ?_
  refine qs_zi hS pl_756 ts_756 ?_
  refine qs_bp (qz_X10_outside hS hM ) (fun v4650 S4650 w4650 h4650 hS4650 hM4650 => ?_)
  refine qs_ite (c_eq ei2 h4650) ?_ ?_
  · exact qs_tp (show vi _ _ from k_1) hS4650 hM4650
  · refine qs_gr hS4650 pl_824 ts_824 rfl ?_
    refine qs_gr hS4650 pl_824 ts_824 rfl ?_
    refine qs_gd (fun g4654 => ?_)
    refine qs_xt hS4650 pl_828 ts_828 (Or.inl rfl) ei1 g4654 (fun b4653 r4653 => ?_)
    refine qs_yi (j := 0) hS4650 hM4650 qt_828 tq_828 r4653 k_0 (by decide) (fun v4655 h4655 => ?_)
    refine qs_zi hS4650 pl_756 ts_756 ?_
    refine qs_bp (qz_X10_groupOf hS4650 hM4650 h4655) (fun v4657 S4657 w4657 h4657 hS4657 hM4657 => ?_)
    refine qs_gr hS4657 pl_824 ts_824 rfl ?_
    refine qs_zi hS4657 pl_756 ts_756 ?_
    refine qs_bp (qz_X10_zoneOf hS4657 hM4657 ei2) (fun v4660 S4660 w4660 h4660 hS4660 hM4660 => ?_)
    refine qs_lp (qz_X0_hasRight_L43 20000 hS4660 hM4660 ei3 ei4 h4657 h4660 k_0) ?_ ?_
    · intro v4662 S4662 w4662 h4662 hS4662 hM4662
      dsimp only
      exact qs_tp h4662 hS4662 hM4662
    · intro v4662 S4662 w4662 h4662 hS4662 hM4662
      dsimp only
      exact qs_tp (show vi _ _ from k_0) hS4662 hM4662
set_option maxRecDepth 20000 in
theorem qz_X0_paperRefusal {P : Nat → Nat} {S : zm_S} {M : qm} {i1 : Int32} {qi1 : Int} {i2 : Int32} {qi2 : Int} {i3 : Int32} {qi3 : Int} {i4 : Int32} {qi4 : Int} (hS : Sh L xs P S) (hM : qM P S = M) (ei1 : i1.toInt = qi1) (ei2 : i2.toInt = qi2) (ei3 : i3.toInt = qi3) (ei4 : i4.toInt = qi4) : qs (zf_X0_paperRefusal 20000 824 i1 i2 i3 i4 S) (qf_X0_paperRefusal 20000 qi1 qi2 qi3 qi4 M) (tO (rp L xs P M vi)) := by
  unfold zf_X0_paperRefusal qf_X0_paperRefusal
  refine qs_zi hS pl_824 ts_824 ?_
  refine qs_bp (qz_X0_cardRefusal hS hM ei1 ei3 ei4) (fun v4664 S4664 w4664 h4664 hS4664 hM4664 => ?_)
  refine qs_ite (c_eq h4664 k_0) ?_ ?_
  · refine qs_zi hS4664 pl_824 ts_824 ?_
    refine qs_bp (qz_X0_hasRight hS4664 hM4664 ei1 ei2 ei3 ei4) (fun v4666 S4666 w4666 h4666 hS4666 hM4666 => ?_)
    refine qs_ite (c_eq h4666 k_0) ?_ ?_
    · exact qs_tp (show vi _ _ from k_5) hS4666 hM4666
    · exact qs_tp (show vi _ _ from h4664) hS4666 hM4666
  · exact qs_tp (show vi _ _ from h4664) hS4664 hM4664
set_option maxRecDepth 20000 in
theorem qz_X0_noteAgainst_J56 {P : Nat → Nat} {S : zm_S} {M : qm}  (hS : Sh L xs P S) (hM : qM P S = M)  : qs (zf_X0_noteAgainst_J56 20000 824 S) (qf_X0_noteAgainst_J56 20000 M) (tO (rr L xs P vu)) := by
  unfold zf_X0_noteAgainst_J56 qf_X0_noteAgainst_J56
  refine qs_gi hS hM pl_824 ts_824 (z := 15) rfl rfl (fun v4667 h4667 => ?_)
  refine qs_pi hS hM pl_824 ts_824 (z := 15) rfl rfl (p_add h4667 k_1) (fun S4668 M4668 hS4668 hM4668 => ?_)
  exact qs_tr (show vu _ _ from trivial) hS4668 hM4668
set_option maxRecDepth 20000 in
theorem qz_X0_noteAgainst {P : Nat → Nat} {S : zm_S} {M : qm} {i1 : Int32} {qi1 : Int} {i2 : Int32} {qi2 : Int} {i3 : Int32} {qi3 : Int} {i4 : Int32} {qi4 : Int} (hS : Sh L xs P S) (hM : qM P S = M) (ei1 : i1.toInt = qi1) (ei2 : i2.toInt = qi2) (ei3 : i3.toInt = qi3) (ei4 : i4.toInt = qi4) : qs (zf_X0_noteAgainst 20000 824 i1 i2 i3 i4 S) (qf_X0_noteAgainst 20000 qi1 qi2 qi3 qi4 M) (tO (rr L xs P vu)) := by
  unfold zf_X0_noteAgainst qf_X0_noteAgainst
  refine qs_gi hS hM pl_824 ts_824 (z := 15) rfl rfl (fun v4669 h4669 => ?_)
  refine qs_ite (c_le k_100 h4669) ?_ ?_
  · exact (qz_X0_noteAgainst_J56 hS hM )
  · refine qs_gi hS hM pl_824 ts_824 (z := 15) rfl rfl (fun v4670 h4670 => ?_)
    refine qs_gr hS pl_824 ts_824 rfl ?_
    refine qs_gd (fun g4673 => ?_)
    refine qs_si hS hM (pa_p hS pl_907 ts_907) (p_mul k_4 h4670) g4673 ei1 (fun S4672 M4672 hS4672 hM4672 => ?_)
    refine qs_gr hS4672 pl_824 ts_824 rfl ?_
    refine qs_gd (fun g4676 => ?_)
    refine qs_si hS4672 hM4672 (pa_p hS4672 pl_907 ts_907) (p_add (p_mul k_4 h4670) k_1) g4676 ei2 (fun S4675 M4675 hS4675 hM4675 => ?_)
    refine qs_gr hS4675 pl_824 ts_824 rfl ?_
    refine qs_gd (fun g4679 => ?_)
    refine qs_si hS4675 hM4675 (pa_p hS4675 pl_907 ts_907) (p_add (p_mul k_4 h4670) k_2) g4679 ei3 (fun S4678 M4678 hS4678 hM4678 => ?_)
    refine qs_gr hS4678 pl_824 ts_824 rfl ?_
    refine qs_gd (fun g4682 => ?_)
    refine qs_si hS4678 hM4678 (pa_p hS4678 pl_907 ts_907) (p_add (p_mul k_4 h4670) k_3) g4682 ei4 (fun S4681 M4681 hS4681 hM4681 => ?_)
    exact (qz_X0_noteAgainst_J56 hS4681 hM4681 )
set_option maxRecDepth 20000 in
theorem qz_X0_takeRow_J32 {P : Nat → Nat} {S : zm_S} {M : qm} {i1 : Int32} {qi1 : Int} {i2 : Int32} {qi2 : Int} {i3 : Int32} {qi3 : Int} {i4 : Int32} {qi4 : Int} (hS : Sh L xs P S) (hM : qM P S = M) (ei1 : i1.toInt = qi1) (ei2 : i2.toInt = qi2) (ei3 : i3.toInt = qi3) (ei4 : i4.toInt = qi4) : qs (zf_X0_takeRow_J32 20000 824 i1 i2 i3 i4 S) (qf_X0_takeRow_J32 20000 qi1 qi2 qi3 qi4 M) (tO (rr L xs P vu)) := by
  unfold zf_X0_takeRow_J32 qf_X0_takeRow_J32
  refine qs_gi hS hM pl_824 ts_824 (z := 12) rfl rfl (fun v4683 h4683 => ?_)
  refine qs_zi hS pl_824 ts_824 ?_
  refine qs_bp (qz_X0_paperRefusal hS hM ei2 ei3 ei4 h4683) (fun v4685 S4685 w4685 h4685 hS4685 hM4685 => ?_)
  refine qs_ite (c_eq h4685 k_0) ?_ ?_
  · exact qs_tr (show vu _ _ from trivial) hS4685 hM4685
  · refine qs_zi hS4685 pl_824 ts_824 ?_
    refine qs_b (qz_X0_noteAgainst hS4685 hM4685 ei1 ei2 ei4 h4685) (fun v4687 S4687 w4687 M4687 h4687 hS4687 hM4687 => ?_)
    exact qs_tr (show vu _ _ from trivial) hS4687 hM4687
set_option maxRecDepth 20000 in
theorem qz_X0_takeRow {P : Nat → Nat} {S : zm_S} {M : qm} {i1 : Int32} {qi1 : Int} {i2 : Int32} {qi2 : Int} {i3 : Int32} {qi3 : Int} {i4 : Int32} {qi4 : Int} {i5 : Int32} {qi5 : Int} (hS : Sh L xs P S) (hM : qM P S = M) (ei1 : i1.toInt = qi1) (ei2 : i2.toInt = qi2) (ei3 : i3.toInt = qi3) (ei4 : i4.toInt = qi4) (ei5 : i5.toInt = qi5) : qs (zf_X0_takeRow 20000 824 i1 i2 i3 i4 i5 S) (qf_X0_takeRow 20000 qi1 qi2 qi3 qi4 qi5 M) (tO (rr L xs P vu)) := by
  unfold zf_X0_takeRow qf_X0_takeRow
  refine qs_gr hS pl_824 ts_824 rfl ?_
  refine qs_gd (fun g4690 => ?_)
  refine qs_xt hS pl_828 ts_828 (Or.inl rfl) ei2 g4690 (fun b4689 r4689 => ?_)
  refine qs_yi (j := 0) hS hM qt_828 tq_828 r4689 k_0 (by decide) (fun v4691 h4691 => ?_)
  refine qs_gr hS pl_824 ts_824 rfl ?_
  refine qs_zi hS pl_756 ts_756 ?_
  refine qs_bp (qz_X10_isCaught hS hM h4691) (fun v4694 S4694 w4694 h4694 hS4694 hM4694 => ?_)
  refine qs_ite (c_eq h4694 k_0) ?_ ?_
  · refine qs_zi hS4694 pl_824 ts_824 ?_
    refine qs_b (qz_X0_comeIn hS4694 hM4694 h4691 ei1 ei3 ei5) (fun v4696 S4696 w4696 M4696 h4696 hS4696 hM4696 => ?_)
    exact (qz_X0_takeRow_J32 hS4696 hM4696 ei1 ei2 ei3 ei4)
  · exact (qz_X0_takeRow_J32 hS4694 hM4694 ei1 ei2 ei3 ei4)
set_option maxRecDepth 20000 in
theorem qz_X0_joinAgain_L37_b (n : Nat) {P : Nat → Nat} {S : zm_S} {M : qm} {i1 : Int32} {qi1 : Int} {i2 : Int32} {qi2 : Int} {i3 : Int32} {qi3 : Int} {i4 : Int32} {qi4 : Int} (hS : Sh L xs P S) (hM : qM P S = M) (ei1 : i1.toInt = qi1) (ei2 : i2.toInt = qi2) (ei3 : i3.toInt = qi3) (ei4 : i4.toInt = qi4) : qs (zf_X0_joinAgain_L37 20000 (n + 1) 824 i1 i2 i3 i4 S) (qf_X0_joinAgain_L37_b 20000 qi1 qi2 qi3 qi4 M) (tk (vs (rr L xs P vi) (rr L xs P vu)) (qc_X0_joinAgain_L37 L xs P (zf_X0_joinAgain_L37 20000 n))) := by
  refine qs_eq (zf_X0_joinAgain_L37.eq_2 ..) ?_
  unfold qf_X0_joinAgain_L37_b
  refine qs_ite (c_le ei3 ei4) ?_ ?_
  · exact qs_tr2 (show vu _ _ from trivial) hS hM
  · refine qs_ite (c_le k_20 ei4) ?_ ?_
    · exact qs_tr2 (show vu _ _ from trivial) hS hM
    · refine qs_gr hS pl_824 ts_824 rfl ?_
      refine qs_gd (fun g4699 => ?_)
      refine qs_xid hS hM (Or.inr rfl) (p_mul k_3 (p_add (p_mul ei1 k_20) ei4)) g4699 (fun v4698 h4698 => ?_)
      refine qs_gr hS pl_824 ts_824 rfl ?_
      refine qs_gd (fun g4702 => ?_)
      refine qs_xid hS hM (Or.inr rfl) (p_add (p_mul k_3 (p_add (p_mul ei1 k_20) ei4)) k_1) g4702 (fun v4701 h4701 => ?_)
      refine qs_gr hS pl_824 ts_824 rfl ?_
      refine qs_gd (fun g4705 => ?_)
      refine qs_xid hS hM (Or.inr rfl) (p_add (p_mul k_3 (p_add (p_mul ei1 k_20) ei4)) k_2) g4705 (fun v4704 h4704 => ?_)
      refine qs_zi hS pl_824 ts_824 ?_
      refine qs_b (qz_X0_takeRow hS hM ei1 h4698 h4701 h4704 ei2) (fun v4707 S4707 w4707 M4707 h4707 hS4707 hM4707 => ?_)
      exact qs_tk ⟨_, _, _, _, _, rfl, ei1, ei2, ei3, (p_add ei4 k_1), hS4707, hM4707⟩
theorem qz_X0_joinAgain_L37 (n : Nat) : ∀ {P : Nat → Nat} {S : zm_S} {M : qm} {i1 : Int32} {qi1 : Int} {i2 : Int32} {qi2 : Int} {i3 : Int32} {qi3 : Int} {i4 : Int32} {qi4 : Int} (hS : Sh L xs P S) (hM : qM P S = M) (ei1 : i1.toInt = qi1) (ei2 : i2.toInt = qi2) (ei3 : i3.toInt = qi3) (ei4 : i4.toInt = qi4), qs (zf_X0_joinAgain_L37 20000 n 824 i1 i2 i3 i4 S) (qf_X0_joinAgain_L37 20000 n qi1 qi2 qi3 qi4 M) (tO (vs (rr L xs P vi) (rr L xs P vu))) := by
  induction n with
  | zero =>
    intros
    exact qs_none
  | succ n ih =>
    intro P S M i1 qi1 i2 qi2 i3 qi3 i4 qi4 hS hM ei1 ei2 ei3 ei4
    unfold qf_X0_joinAgain_L37
    refine qs_loop (C := (qc_X0_joinAgain_L37 L xs P (zf_X0_joinAgain_L37 20000 n))) (qz_X0_joinAgain_L37_b n hS hM ei1 ei2 ei3 ei4) ?_
    rintro x s ⟨_, _, _, _, _, rfl, u0, u1, u2, u3, hS2, hM2⟩
    exact ih hS2 hM2 u0 u1 u2 u3
set_option maxRecDepth 20000 in
theorem qz_X0_joinAgain {P : Nat → Nat} {S : zm_S} {M : qm} {i1 : Int32} {qi1 : Int} {i2 : Int32} {qi2 : Int} (hS : Sh L xs P S) (hM : qM P S = M) (ei1 : i1.toInt = qi1) (ei2 : i2.toInt = qi2) : qs (zf_X0_joinAgain 20000 824 i1 i2 S) (qf_X0_joinAgain 20000 qi1 qi2 M) (tO (rr L xs P vi)) := by
  unfold zf_X0_joinAgain qf_X0_joinAgain
  refine qs_zi hS pl_824 ts_824 ?_
  refine qs_bp (qz_X0_isOff hS hM ei1) (fun v4709 S4709 w4709 h4709 hS4709 hM4709 => ?_)
  refine qs_ite (c_eq h4709 k_0) ?_ ?_
  · exact qs_tr (show vi _ _ from k_0) hS4709 hM4709
  · refine qs_zi hS4709 pl_824 ts_824 ?_
    refine qs_b (qz_X0_setFact hS4709 hM4709 ei1 k_11 k_m1) (fun v4711 S4711 w4711 M4711 h4711 hS4711 hM4711 => ?_)
    refine qs_zi hS4711 pl_824 ts_824 ?_
    refine qs_bp (qz_X0_factOf hS4711 hM4711 ei1 k_12) (fun v4713 S4713 w4713 h4713 hS4713 hM4713 => ?_)
    refine qs_zi hS4713 pl_824 ts_824 ?_
    refine qs_b (qz_X0_setFact hS4713 hM4713 ei1 k_12 k_0) (fun v4715 S4715 w4715 M4715 h4715 hS4715 hM4715 => ?_)
    refine qs_lr (qz_X0_joinAgain_L37 20000 hS4715 hM4715 ei1 ei2 h4713 k_0) ?_ ?_
    · intro v4717 S4717 w4717 M4717 h4717 hS4717 hM4717
      dsimp only
      exact qs_tr h4717 hS4717 hM4717
    · intro v4717 S4717 w4717 M4717 h4717 hS4717 hM4717
      dsimp only
      exact qs_tr (show vi _ _ from h4713) hS4717 hM4717
set_option maxRecDepth 20000 in
theorem qz_X0_goOff {P : Nat → Nat} {S : zm_S} {M : qm} {i1 : Int32} {qi1 : Int} (hS : Sh L xs P S) (hM : qM P S = M) (ei1 : i1.toInt = qi1) : qs (zf_X0_goOff 20000 824 i1 S) (qf_X0_goOff 20000 qi1 M) (tO (rr L xs P vi)) := by
  unfold zf_X0_goOff qf_X0_goOff
  refine qs_zi hS pl_824 ts_824 ?_
  refine qs_bp (qz_X0_isOff hS hM ei1) (fun v4719 S4719 w4719 h4719 hS4719 hM4719 => ?_)
  refine qs_ite (c_eq h4719 k_0) ?_ ?_
  · refine qs_gi hS4719 hM4719 pl_824 ts_824 (z := 12) rfl rfl (fun v4720 h4720 => ?_)
    refine qs_zi hS4719 pl_824 ts_824 ?_
    refine qs_b (qz_X0_setFact hS4719 hM4719 ei1 k_11 h4720) (fun v4722 S4722 w4722 M4722 h4722 hS4722 hM4722 => ?_)
    exact qs_tr (show vi _ _ from k_0) hS4722 hM4722
  · exact qs_tr (show vi _ _ from k_0) hS4719 hM4719
set_option maxRecDepth 20000 in
theorem qz_X11_off {P : Nat → Nat} {S : zm_S} {M : qm} {i1 : Int32} {qi1 : Int} {i2 : Int32} {qi2 : Int} (hS : Sh L xs P S) (hM : qM P S = M) (ei1 : i1.toInt = qi1) (ei2 : i2.toInt = qi2) : qs (zf_X11_off 20000 6 i1 i2 S) (qf_X11_off 20000 qi1 qi2 M) (tO (rr L xs P (vs vi ve))) := by
  unfold zf_X11_off qf_X11_off
  refine qs_zi hS pl_6 ts_6 ?_
  refine qs_bp (qz_X11_isPortal hS hM ei1) (fun v4724 S4724 w4724 h4724 hS4724 hM4724 => ?_)
  refine qs_xp (qz_X11_needArgument hS4724 hM4724 h4724) ?_ ?_
  · intro v4726 S4726 w4726 h4726 hS4726 hM4726
    dsimp only
    refine qs_gi hS4726 hM4726 pl_6 ts_6 (z := 11) rfl rfl (fun v4727 h4727 => ?_)
    refine qs_xp (qz_X11_needState hS4726 hM4726 h4727) ?_ ?_
    · intro v4729 S4729 w4729 h4729 hS4729 hM4729
      dsimp only
      refine qs_ite (c_eq ei2 k_0) ?_ ?_
      · refine qs_gr hS4729 pl_6 ts_6 rfl ?_
        refine qs_gi hS4729 hM4729 pl_6 ts_6 (z := 12) rfl rfl (fun v4731 h4731 => ?_)
        refine qs_zi hS4729 pl_824 ts_824 ?_
        refine qs_b (qz_X0_joinAgain hS4729 hM4729 ei1 h4731) (fun v4733 S4733 w4733 M4733 h4733 hS4733 hM4733 => ?_)
        exact qs_tr (show (vs vi ve) _ _ from h4733) hS4733 hM4733
      · refine qs_gr hS4729 pl_6 ts_6 rfl ?_
        refine qs_zi hS4729 pl_824 ts_824 ?_
        refine qs_b (qz_X0_goOff hS4729 hM4729 ei1) (fun v4736 S4736 w4736 M4736 h4736 hS4736 hM4736 => ?_)
        exact qs_tr (show (vs vi ve) _ _ from h4736) hS4736 hM4736
    · intro v4729 S4729 hS4729 hM4729
      dsimp only
      exact qs_tr (show (vs vi ve) _ _ from rfl) hS4729 hM4729
  · intro v4726 S4726 hS4726 hM4726
    dsimp only
    exact qs_tr (show (vs vi ve) _ _ from rfl) hS4726 hM4726
set_option maxRecDepth 20000 in
theorem qz_L_off {P : Nat → Nat} {S : zm_S} {M : qm} {i1 : Int32} {qi1 : Int} {i2 : Int32} {qi2 : Int} (hS : Sh L xs P S) (hM : qM P S = M) (ei1 : i1.toInt = qi1) (ei2 : i2.toInt = qi2) : qs (zf_L_off 20000 6 i1 i2 2332 S) (qf_L_off 20000 qi1 qi2 M) (tO (rr L xs P vi)) := by
  unfold zf_L_off qf_L_off
  refine qs_zi hS pl_6 ts_6 ?_
  refine qs_xr (qz_X11_off hS hM ei1 ei2) ?_ ?_
  · intro v4739 S4739 w4739 M4739 h4739 hS4739 hM4739
    dsimp only
    refine qs_sl hS4739 hM4739 (pa_p hS4739 pl_2332 ts_2332) k_0 (by decide) (p_64 h4739) (fun S4740 M4740 hS4740 hM4740 => ?_)
    exact qs_tr (show vi _ _ from k_0) hS4740 hM4740
  · intro v4739 S4739 M4739 hS4739 hM4739
    dsimp only
    refine qs_ite Iff.rfl ?_ ?_
    · exact qs_tr (show vi _ _ from k_1) hS4739 hM4739
    · refine qs_ite Iff.rfl ?_ ?_
      · exact qs_tr (show vi _ _ from k_2) hS4739 hM4739
      · exact qs_none
set_option maxRecDepth 20000 in
theorem qz_X4_isKindDone_L2_b (n : Nat) {P : Nat → Nat} {S : zm_S} {M : qm} {i1 : Int32} {qi1 : Int} {i2 : Int32} {qi2 : Int} (hS : Sh L xs P S) (hM : qM P S = M) (ei1 : i1.toInt = qi1) (ei2 : i2.toInt = qi2) : qs (zf_X4_isKindDone_L2 20000 (n + 1) 1172 i1 i2 S) (qf_X4_isKindDone_L2_b 20000 qi1 qi2 M) (tk (vs (rp L xs P M vi) (rp L xs P M vu)) (qc_X4_isKindDone_L2 L xs P M (zf_X4_isKindDone_L2 20000 n))) := by
  refine qs_eq (zf_X4_isKindDone_L2.eq_2 ..) ?_
  unfold qf_X4_isKindDone_L2_b
  refine qs_gr hS pl_1172 ts_1172 rfl ?_
  refine qs_n (pa_p hS pl_1270 ts_1270) (by decide) (x := 20) (by decide) (fun v4742 h4742 => ?_)
  refine qs_ite (c_le h4742 ei2) ?_ ?_
  · exact qs_tp2 (show vu _ _ from trivial) hS hM
  · refine qs_gr hS pl_1172 ts_1172 rfl ?_
    refine qs_gd (fun g4745 => ?_)
    refine qs_xi hM (pa_p hS pl_1270 ts_1270) ei2 g4745 (fun v4744 h4744 => ?_)
    refine qs_ite (c_eq h4744 k_2) ?_ ?_
    · refine qs_gr hS pl_1172 ts_1172 rfl ?_
      refine qs_gd (fun g4748 => ?_)
      refine qs_xt hS pl_1197 ts_1197 (Or.inl rfl) ei2 g4748 (fun b4747 r4747 => ?_)
      refine qs_yi (j := 1) hS hM qt_1197 tq_1197 r4747 k_1 (by decide) (fun v4749 h4749 => ?_)
      refine qs_ite (c_eq h4749 ei1) ?_ ?_
      · exact qs_tp1 (show vi _ _ from k_1) hS hM
      · exact qs_tk ⟨_, _, _, rfl, ei1, (p_add ei2 k_1), hS, hM⟩
    · exact qs_tk ⟨_, _, _, rfl, ei1, (p_add ei2 k_1), hS, hM⟩
theorem qz_X4_isKindDone_L2 (n : Nat) : ∀ {P : Nat → Nat} {S : zm_S} {M : qm} {i1 : Int32} {qi1 : Int} {i2 : Int32} {qi2 : Int} (hS : Sh L xs P S) (hM : qM P S = M) (ei1 : i1.toInt = qi1) (ei2 : i2.toInt = qi2), qs (zf_X4_isKindDone_L2 20000 n 1172 i1 i2 S) (qf_X4_isKindDone_L2 20000 n qi1 qi2 M) (tO (vs (rp L xs P M vi) (rp L xs P M vu))) := by
  induction n with
  | zero =>
    intros
    exact qs_none
  | succ n ih =>
    intro P S M i1 qi1 i2 qi2 hS hM ei1 ei2
    unfold qf_X4_isKindDone_L2
    refine qs_loop (C := (qc_X4_isKindDone_L2 L xs P M (zf_X4_isKindDone_L2 20000 n))) (qz_X4_isKindDone_L2_b n hS hM ei1 ei2) ?_
    rintro x s ⟨_, _, _, rfl, u0, u1, hS2, hM2⟩
    exact ih hS2 hM2 u0 u1
set_option maxRecDepth 20000 in
theorem qz_X4_isKindDone {P : Nat → Nat} {S : zm_S} {M : qm} {i1 : Int32} {qi1 : Int} (hS : Sh L xs P S) (hM : qM P S = M) (ei1 : i1.toInt = qi1) : qs (zf_X4_isKindDone 20000 1172 i1 S) (qf_X4_isKindDone 20000 qi1 M) (tO (rp L xs P M vi)) := by
  unfold zf_X4_isKindDone qf_X4_isKindDone
  refine qs_lp (qz_X4_isKindDone_L2 20000 hS hM ei1 k_0) ?_ ?_
  · intro v4751 S4751 w4751 h4751 hS4751 hM4751
    dsimp only
    exact qs_tp h4751 hS4751 hM4751
  · intro v4751 S4751 w4751 h4751 hS4751 hM4751
    dsimp only
    exact qs_tp (show vi _ _ from k_0) hS4751 hM4751
set_option maxRecDepth 20000 in
theorem qz_X11_isReleased {P : Nat → Nat} {S : zm_S} {M : qm}  (hS : Sh L xs P S) (hM : qM P S = M)  : qs (zf_X11_isReleased 20000 6 S) (qf_X11_isReleased 20000 M) (tO (rp L xs P M vi)) := by
  unfold zf_X11_isReleased qf_X11_isReleased
  refine qs_gr hS pl_6 ts_6 rfl ?_
  refine qs_zi hS pl_1172 ts_1172 ?_
  refine qs_bp (qz_X4_isKindDone hS hM k_0) (fun v4754 S4754 w4754 h4754 hS4754 hM4754 => ?_)
  refine qs_ite (or_congr (c_eq h4754 k_0) (c_eq h4754 k_1)) ?_ ?_
  · exact qs_tp (show vi _ _ from h4754) hS4754 hM4754
  · exact qs_none
set_option maxRecDepth 20000 in
theorem qz_X0_setMoment {P : Nat → Nat} {S : zm_S} {M : qm} {i1 : Int32} {qi1 : Int} {i2 : Int32} {qi2 : Int} (hS : Sh L xs P S) (hM : qM P S = M) (ei1 : i1.toInt = qi1) (ei2 : i2.toInt = qi2) : qs (zf_X0_setMoment 20000 824 i1 i2 S) (qf_X0_setMoment 20000 qi1 qi2 M) (tO (rr L xs P vu)) := by
  unfold zf_X0_setMoment qf_X0_setMoment
  refine qs_pi hS hM pl_824 ts_824 (z := 17) rfl rfl ei1 (fun S4755 M4755 hS4755 hM4755 => ?_)
  refine qs_gd (fun g4757 => ?_)
  refine qs_pz hS4755 hM4755 pl_824 ts_824 (z := 18) rfl rfl ei2 g4757 (fun S4756 M4756 hS4756 hM4756 => ?_)
  exact qs_tr (show vu _ _ from trivial) hS4756 hM4756
set_option maxRecDepth 20000 in
theorem qz_X10_roomOf {P : Nat → Nat} {S : zm_S} {M : qm} {i1 : Int32} {qi1 : Int} (hS : Sh L xs P S) (hM : qM P S = M) (ei1 : i1.toInt = qi1) : qs (zf_X10_roomOf 20000 756 i1 S) (qf_X10_roomOf 20000 qi1 M) (tO (rp L xs P M vi)) := by
  unfold zf_X10_roomOf qf_X10_roomOf
  refine qs_gr hS pl_756 ts_756 rfl ?_
  refine qs_gd (fun g4760 => ?_)
  refine qs_xt hS pl_761 ts_761 (Or.inl rfl) ei1 g4760 (fun b4759 r4759 => ?_)
  refine qs_yi (j := 0) hS hM qt_761 tq_761 r4759 k_0 (by decide) (fun v4761 h4761 => ?_)
  exact qs_tp (show vi _ _ from h4761) hS hM
set_option maxRecDepth 20000 in
theorem qz_X0_isElsewhere_J25 {P : Nat → Nat} {S : zm_S} {M : qm} {i1 : Int32} {qi1 : Int} {t0 : Int32} {qt0 : Int} (hS : Sh L xs P S) (hM : qM P S = M) (ei1 : i1.toInt = qi1) (et0 : t0.toInt = qt0) : qs (zf_X0_isElsewhere_J25 20000 824 i1 t0 S) (qf_X0_isElsewhere_J25 20000 qi1 qt0 M) (tO (rp L xs P M vi)) := by
  unfold zf_X0_isElsewhere_J25 qf_X0_isElsewhere_J25
  refine qs_gr hS pl_824 ts_824 rfl ?_
  refine qs_zi hS pl_756 ts_756 ?_
  refine qs_bp (qz_X10_roomOf hS hM ei1) (fun v4764 S4764 w4764 h4764 hS4764 hM4764 => ?_)
  refine qs_ite (c_eq h4764 et0) ?_ ?_
  · exact qs_tp (show vi _ _ from k_0) hS4764 hM4764
  · exact qs_tp (show vi _ _ from k_1) hS4764 hM4764
set_option maxRecDepth 20000 in
theorem qz_X0_isElsewhere {P : Nat → Nat} {S : zm_S} {M : qm} {i1 : Int32} {qi1 : Int} {i2 : Int32} {qi2 : Int} {i3 : Int32} {qi3 : Int} (hS : Sh L xs P S) (hM : qM P S = M) (ei1 : i1.toInt = qi1) (ei2 : i2.toInt = qi2) (ei3 : i3.toInt = qi3) : qs (zf_X0_isElsewhere 20000 824 i1 i2 i3 S) (qf_X0_isElsewhere 20000 qi1 qi2 qi3 M) (tO (rp L xs P M vi)) := by
  unfold zf_X0_isElsewhere qf_X0_isElsewhere
  refine qs_zi hS pl_824 ts_824 ?_
  refine qs_bp (qz_X0_factOf hS hM ei2 k_0) (fun v4766 S4766 w4766 h4766 hS4766 hM4766 => ?_)
  refine qs_ite (c_eq ei3 h4766) ?_ ?_
  · refine qs_zi hS4766 pl_824 ts_824 ?_
    refine qs_bp (qz_X0_factOf hS4766 hM4766 ei2 k_1) (fun v4768 S4768 w4768 h4768 hS4768 hM4768 => ?_)
    exact (qz_X0_isElsewhere_J25 hS4768 hM4768 ei1 h4768)
  · exact (qz_X0_isElsewhere_J25 hS4766 hM4766 ei1 h4766)
set_option maxRecDepth 20000 in
theorem qz_X0_isLocked_L2_b (n : Nat) {P : Nat → Nat} {S : zm_S} {M : qm} {i1 : Int32} {qi1 : Int} {i2 : Int32} {qi2 : Int} (hS : Sh L xs P S) (hM : qM P S = M) (ei1 : i1.toInt = qi1) (ei2 : i2.toInt = qi2) : qs (zf_X0_isLocked_L2 20000 (n + 1) 824 i1 i2 S) (qf_X0_isLocked_L2_b 20000 qi1 qi2 M) (tk (vs (rp L xs P M vi) (rp L xs P M vu)) (qc_X0_isLocked_L2 L xs P M (zf_X0_isLocked_L2 20000 n))) := by
  refine qs_eq (zf_X0_isLocked_L2.eq_2 ..) ?_
  unfold qf_X0_isLocked_L2_b
  refine qs_gi hS hM pl_824 ts_824 (z := 3) rfl rfl (fun v4769 h4769 => ?_)
  refine qs_ite (c_le h4769 ei2) ?_ ?_
  · exact qs_tp2 (show vu _ _ from trivial) hS hM
  · refine qs_zi hS pl_824 ts_824 ?_
    refine qs_bp (qz_X0_isAirlock hS hM ei1 ei2) (fun v4771 S4771 w4771 h4771 hS4771 hM4771 => ?_)
    refine qs_ite (c_eq h4771 k_0) ?_ ?_
    · exact qs_tk ⟨_, _, _, rfl, ei1, (p_add ei2 k_1), hS4771, hM4771⟩
    · refine qs_zi hS4771 pl_824 ts_824 ?_
      refine qs_bp (qz_X0_factOf hS4771 hM4771 ei2 k_8) (fun v4773 S4773 w4773 h4773 hS4773 hM4773 => ?_)
      refine qs_ite (c_eq h4773 k_0) ?_ ?_
      · exact qs_tk ⟨_, _, _, rfl, ei1, (p_add ei2 k_1), hS4773, hM4773⟩
      · exact qs_tp1 (show vi _ _ from k_1) hS4773 hM4773
theorem qz_X0_isLocked_L2 (n : Nat) : ∀ {P : Nat → Nat} {S : zm_S} {M : qm} {i1 : Int32} {qi1 : Int} {i2 : Int32} {qi2 : Int} (hS : Sh L xs P S) (hM : qM P S = M) (ei1 : i1.toInt = qi1) (ei2 : i2.toInt = qi2), qs (zf_X0_isLocked_L2 20000 n 824 i1 i2 S) (qf_X0_isLocked_L2 20000 n qi1 qi2 M) (tO (vs (rp L xs P M vi) (rp L xs P M vu))) := by
  induction n with
  | zero =>
    intros
    exact qs_none
  | succ n ih =>
    intro P S M i1 qi1 i2 qi2 hS hM ei1 ei2
    unfold qf_X0_isLocked_L2
    refine qs_loop (C := (qc_X0_isLocked_L2 L xs P M (zf_X0_isLocked_L2 20000 n))) (qz_X0_isLocked_L2_b n hS hM ei1 ei2) ?_
    rintro x s ⟨_, _, _, rfl, u0, u1, hS2, hM2⟩
    exact ih hS2 hM2 u0 u1
set_option maxRecDepth 20000 in
theorem qz_X0_isLocked {P : Nat → Nat} {S : zm_S} {M : qm} {i1 : Int32} {qi1 : Int} (hS : Sh L xs P S) (hM : qM P S = M) (ei1 : i1.toInt = qi1) : qs (zf_X0_isLocked 20000 824 i1 S) (qf_X0_isLocked 20000 qi1 M) (tO (rp L xs P M vi)) := by
  unfold zf_X0_isLocked qf_X0_isLocked
  refine qs_lp (qz_X0_isLocked_L2 20000 hS hM ei1 k_0) ?_ ?_
  · intro v4775 S4775 w4775 h4775 hS4775 hM4775
    dsimp only
    exact qs_tp h4775 hS4775 hM4775
  · intro v4775 S4775 w4775 h4775 hS4775 hM4775
    dsimp only
    exact qs_tp (show vi _ _ from k_0) hS4775 hM4775
set_option maxRecDepth 20000 in
theorem qz_X0_refusal_J142 {P : Nat → Nat} {S : zm_S} {M : qm} {i2 : Int32} {qi2 : Int} {i6 : Int32} {qi6 : Int} (hS : Sh L xs P S) (hM : qM P S = M) (ei2 : i2.toInt = qi2) (ei6 : i6.toInt = qi6) : qs (zf_X0_refusal_J142 20000 824 i2 i6 S) (qf_X0_refusal_J142 20000 qi2 qi6 M) (tO (rp L xs P M vi)) := by
  unfold zf_X0_refusal_J142 qf_X0_refusal_J142
  refine qs_ite (c_eq ei6 k_0) ?_ ?_
  · refine qs_zi hS pl_824 ts_824 ?_
    refine qs_bp (qz_X0_isLocked hS hM ei2) (fun v4777 S4777 w4777 h4777 hS4777 hM4777 => ?_)
    refine qs_ite (c_eq h4777 k_0) ?_ ?_
    · exact qs_tp (show vi _ _ from ei6) hS4777 hM4777
    · exact qs_tp (show vi _ _ from k_6) hS4777 hM4777
  · exact qs_tp (show vi _ _ from ei6) hS hM
set_option maxRecDepth 20000 in
theorem qz_X0_refusal_J116 {P : Nat → Nat} {S : zm_S} {M : qm} {i1 : Int32} {qi1 : Int} {i2 : Int32} {qi2 : Int} {i3 : Int32} {qi3 : Int} {i5 : Int32} {qi5 : Int} {i6 : Int32} {qi6 : Int} (hS : Sh L xs P S) (hM : qM P S = M) (ei1 : i1.toInt = qi1) (ei2 : i2.toInt = qi2) (ei3 : i3.toInt = qi3) (ei5 : i5.toInt = qi5) (ei6 : i6.toInt = qi6) : qs (zf_X0_refusal_J116 20000 824 i1 i2 i3 i5 i6 S) (qf_X0_refusal_J116 20000 qi1 qi2 qi3 qi5 qi6 M) (tO (rp L xs P M vi)) := by
  unfold zf_X0_refusal_J116 qf_X0_refusal_J116
  refine qs_ite (c_eq ei6 k_0) ?_ ?_
  · refine qs_gi hS hM pl_824 ts_824 (z := 17) rfl rfl (fun v4778 h4778 => ?_)
    refine qs_zi hS pl_824 ts_824 ?_
    refine qs_bp (qz_X0_hasRight hS hM ei1 ei3 (p_div h4778 k_60 (by decide)) ei5) (fun v4780 S4780 w4780 h4780 hS4780 hM4780 => ?_)
    refine qs_ite (c_eq h4780 k_0) ?_ ?_
    · exact (qz_X0_refusal_J142 hS4780 hM4780 ei2 k_5)
    · exact (qz_X0_refusal_J142 hS4780 hM4780 ei2 ei6)
  · exact (qz_X0_refusal_J142 hS hM ei2 ei6)
set_option maxRecDepth 20000 in
theorem qz_X0_refusal_J71 {P : Nat → Nat} {S : zm_S} {M : qm} {i1 : Int32} {qi1 : Int} {i2 : Int32} {qi2 : Int} {i3 : Int32} {qi3 : Int} {i4 : Int32} {qi4 : Int} {t0 : Int32} {qt0 : Int} (hS : Sh L xs P S) (hM : qM P S = M) (ei1 : i1.toInt = qi1) (ei2 : i2.toInt = qi2) (ei3 : i3.toInt = qi3) (ei4 : i4.toInt = qi4) (et0 : t0.toInt = qt0) : qs (zf_X0_refusal_J71 20000 824 i1 i2 i3 i4 t0 S) (qf_X0_refusal_J71 20000 qi1 qi2 qi3 qi4 qt0 M) (tO (rp L xs P M vi)) := by
  unfold zf_X0_refusal_J71 qf_X0_refusal_J71
  refine qs_gi hS hM pl_824 ts_824 (z := 17) rfl rfl (fun v4781 h4781 => ?_)
  refine qs_zi hS pl_824 ts_824 ?_
  refine qs_bp (qz_X0_cardRefusal hS hM ei1 (p_div h4781 k_60 (by decide)) et0) (fun v4783 S4783 w4783 h4783 hS4783 hM4783 => ?_)
  refine qs_ite (c_eq h4783 k_0) ?_ ?_
  · refine qs_zi hS4783 pl_824 ts_824 ?_
    refine qs_bp (qz_X0_isOff hS4783 hM4783 ei2) (fun v4785 S4785 w4785 h4785 hS4785 hM4785 => ?_)
    refine qs_ite (c_eq h4785 k_0) ?_ ?_
    · refine qs_zi hS4785 pl_824 ts_824 ?_
      refine qs_bp (qz_X0_isElsewhere hS4785 hM4785 ei4 ei2 ei3) (fun v4787 S4787 w4787 h4787 hS4787 hM4787 => ?_)
      refine qs_ite (c_eq h4787 k_0) ?_ ?_
      · exact (qz_X0_refusal_J116 hS4787 hM4787 ei1 ei2 ei3 et0 h4783)
      · exact (qz_X0_refusal_J116 hS4787 hM4787 ei1 ei2 ei3 et0 k_4)
    · exact (qz_X0_refusal_J116 hS4785 hM4785 ei1 ei2 ei3 et0 h4783)
  · exact (qz_X0_refusal_J116 hS4783 hM4783 ei1 ei2 ei3 et0 h4783)
set_option maxRecDepth 20000 in
theorem qz_X0_refusal {P : Nat → Nat} {S : zm_S} {M : qm} {i1 : Int32} {qi1 : Int} {i2 : Int32} {qi2 : Int} {i3 : Int32} {qi3 : Int} (hS : Sh L xs P S) (hM : qM P S = M) (ei1 : i1.toInt = qi1) (ei2 : i2.toInt = qi2) (ei3 : i3.toInt = qi3) : qs (zf_X0_refusal 20000 824 i1 i2 i3 S) (qf_X0_refusal 20000 qi1 qi2 qi3 M) (tO (rp L xs P M vi)) := by
  unfold zf_X0_refusal qf_X0_refusal
  refine qs_gr hS pl_824 ts_824 rfl ?_
  refine qs_gd (fun g4790 => ?_)
  refine qs_xt hS pl_828 ts_828 (Or.inl rfl) ei1 g4790 (fun b4789 r4789 => ?_)
  refine qs_yi (j := 0) hS hM qt_828 tq_828 r4789 k_0 (by decide) (fun v4791 h4791 => ?_)
  refine qs_gr hS pl_824 ts_824 rfl ?_
  refine qs_zi hS pl_756 ts_756 ?_
  refine qs_bp (qz_X10_isCaught hS hM h4791) (fun v4794 S4794 w4794 h4794 hS4794 hM4794 => ?_)
  refine qs_ite (c_eq h4794 k_0) ?_ ?_
  · refine qs_gi hS4794 hM4794 pl_824 ts_824 (z := 18) rfl rfl (fun v4795 h4795 => ?_)
    refine qs_ite (c_eq h4795 k_0) ?_ ?_
    · refine qs_zi hS4794 pl_824 ts_824 ?_
      refine qs_bp (qz_X0_isOff hS4794 hM4794 ei2) (fun v4797 S4797 w4797 h4797 hS4797 hM4797 => ?_)
      refine qs_ite (c_eq h4797 k_0) ?_ ?_
      · refine qs_gi hS4797 hM4797 pl_824 ts_824 (z := 12) rfl rfl (fun v4798 h4798 => ?_)
        exact (qz_X0_refusal_J71 hS4797 hM4797 ei1 ei2 ei3 h4791 h4798)
      · refine qs_zi hS4797 pl_824 ts_824 ?_
        refine qs_bp (qz_X0_factOf hS4797 hM4797 ei2 k_11) (fun v4800 S4800 w4800 h4800 hS4800 hM4800 => ?_)
        exact (qz_X0_refusal_J71 hS4800 hM4800 ei1 ei2 ei3 h4791 h4800)
    · refine qs_zi hS4794 pl_824 ts_824 ?_
      refine qs_bp (qz_X0_isElsewhere hS4794 hM4794 h4791 ei2 ei3) (fun v4802 S4802 w4802 h4802 hS4802 hM4802 => ?_)
      refine qs_ite (c_eq h4802 k_0) ?_ ?_
      · exact qs_tp (show vi _ _ from k_0) hS4802 hM4802
      · exact qs_tp (show vi _ _ from k_4) hS4802 hM4802
  · exact qs_tp (show vi _ _ from k_9) hS4794 hM4794
set_option maxRecDepth 20000 in
theorem qz_X0_letIn_J15 {P : Nat → Nat} {S : zm_S} {M : qm} {i1 : Int32} {qi1 : Int} {i2 : Int32} {qi2 : Int} {i3 : Int32} {qi3 : Int} (hS : Sh L xs P S) (hM : qM P S = M) (ei1 : i1.toInt = qi1) (ei2 : i2.toInt = qi2) (ei3 : i3.toInt = qi3) : qs (zf_X0_letIn_J15 20000 824 i1 i2 i3 S) (qf_X0_letIn_J15 20000 qi1 qi2 qi3 M) (tO (rr L xs P vu)) := by
  unfold zf_X0_letIn_J15 qf_X0_letIn_J15
  refine qs_gr hS pl_824 ts_824 rfl ?_
  refine qs_gd (fun g4805 => ?_)
  refine qs_xt hS pl_828 ts_828 (Or.inl rfl) ei1 g4805 (fun b4804 r4804 => ?_)
  refine qs_yi (j := 0) hS hM qt_828 tq_828 r4804 k_0 (by decide) (fun v4806 h4806 => ?_)
  refine qs_gi hS hM pl_824 ts_824 (z := 17) rfl rfl (fun v4807 h4807 => ?_)
  refine qs_zi hS pl_824 ts_824 ?_
  refine qs_b (qz_X0_comeIn hS hM h4806 ei2 ei3 h4807) (fun v4809 S4809 w4809 M4809 h4809 hS4809 hM4809 => ?_)
  exact qs_tr (show vu _ _ from trivial) hS4809 hM4809
set_option maxRecDepth 20000 in
theorem qz_X0_letIn {P : Nat → Nat} {S : zm_S} {M : qm} {i1 : Int32} {qi1 : Int} {i2 : Int32} {qi2 : Int} {i3 : Int32} {qi3 : Int} (hS : Sh L xs P S) (hM : qM P S = M) (ei1 : i1.toInt = qi1) (ei2 : i2.toInt = qi2) (ei3 : i3.toInt = qi3) : qs (zf_X0_letIn 20000 824 i1 i2 i3 S) (qf_X0_letIn 20000 qi1 qi2 qi3 M) (tO (rr L xs P vu)) := by
  unfold zf_X0_letIn qf_X0_letIn
  refine qs_gi hS hM pl_824 ts_824 (z := 18) rfl rfl (fun v4810 h4810 => ?_)
  refine qs_ite (c_eq h4810 k_0) ?_ ?_
  · refine qs_zi hS pl_824 ts_824 ?_
    refine qs_bp (qz_X0_isOff hS hM ei2) (fun v4812 S4812 w4812 h4812 hS4812 hM4812 => ?_)
    refine qs_ite (c_eq h4812 k_0) ?_ ?_
    · exact (qz_X0_letIn_J15 hS4812 hM4812 ei1 ei2 ei3)
    · refine qs_zi hS4812 pl_824 ts_824 ?_
      refine qs_bp (qz_X0_factOf hS4812 hM4812 ei2 k_12) (fun v4814 S4814 w4814 h4814 hS4814 hM4814 => ?_)
      refine qs_ite (c_le k_20 h4814) ?_ ?_
      · exact qs_tr (show vu _ _ from trivial) hS4814 hM4814
      · refine qs_gr hS4814 pl_824 ts_824 rfl ?_
        refine qs_gd (fun g4817 => ?_)
        refine qs_sid hS4814 hM4814 (Or.inr rfl) (p_mul k_3 (p_add (p_mul ei2 k_20) h4814)) g4817 ei1 (fun S4816 M4816 hS4816 hM4816 => ?_)
        refine qs_gr hS4816 pl_824 ts_824 rfl ?_
        refine qs_gd (fun g4820 => ?_)
        refine qs_sid hS4816 hM4816 (Or.inr rfl) (p_add (p_mul k_3 (p_add (p_mul ei2 k_20) h4814)) k_1) g4820 ei3 (fun S4819 M4819 hS4819 hM4819 => ?_)
        refine qs_gr hS4819 pl_824 ts_824 rfl ?_
        refine qs_gi hS4819 hM4819 pl_824 ts_824 (z := 17) rfl rfl (fun v4822 h4822 => ?_)
        refine qs_gd (fun g4824 => ?_)
        refine qs_sid hS4819 hM4819 (Or.inr rfl) (p_add (p_mul k_3 (p_add (p_mul ei2 k_20) h4814)) k_2) g4824 (p_div h4822 k_60 (by decide)) (fun S4823 M4823 hS4823 hM4823 => ?_)
        refine qs_zi hS4823 pl_824 ts_824 ?_
        refine qs_b (qz_X0_setFact hS4823 hM4823 ei2 k_12 (p_add h4814 k_1)) (fun v4826 S4826 w4826 M4826 h4826 hS4826 hM4826 => ?_)
        exact qs_tr (show vu _ _ from trivial) hS4826 hM4826
  · exact (qz_X0_letIn_J15 hS hM ei1 ei2 ei3)
set_option maxRecDepth 20000 in
theorem qz_X0_askOne_J35 {P : Nat → Nat} {S : zm_S} {M : qm} {i1 : Int32} {qi1 : Int} {i2 : Int32} {qi2 : Int} {i3 : Int32} {qi3 : Int} {i4 : Int32} {qi4 : Int} (hS : Sh L xs P S) (hM : qM P S = M) (ei1 : i1.toInt = qi1) (ei2 : i2.toInt = qi2) (ei3 : i3.toInt = qi3) (ei4 : i4.toInt = qi4) : qs (zf_X0_askOne_J35 20000 824 i1 i2 i3 i4 S) (qf_X0_askOne_J35 20000 qi1 qi2 qi3 qi4 M) (tO (rr L xs P vi)) := by
  unfold zf_X0_askOne_J35 qf_X0_askOne_J35
  refine qs_ite (c_eq ei4 k_0) ?_ ?_
  · refine qs_zi hS pl_824 ts_824 ?_
    refine qs_b (qz_X0_letIn hS hM ei1 ei2 ei3) (fun v4828 S4828 w4828 M4828 h4828 hS4828 hM4828 => ?_)
    exact qs_tr (show vi _ _ from ei4) hS4828 hM4828
  · exact qs_tr (show vi _ _ from ei4) hS hM
set_option maxRecDepth 20000 in
theorem qz_X0_askOne {P : Nat → Nat} {S : zm_S} {M : qm} {i1 : Int32} {qi1 : Int} {i2 : Int32} {qi2 : Int} {i3 : Int32} {qi3 : Int} (hS : Sh L xs P S) (hM : qM P S = M) (ei1 : i1.toInt = qi1) (ei2 : i2.toInt = qi2) (ei3 : i3.toInt = qi3) : qs (zf_X0_askOne 20000 824 i1 i2 i3 S) (qf_X0_askOne 20000 qi1 qi2 qi3 M) (tO (rr L xs P vi)) := by
  unfold zf_X0_askOne qf_X0_askOne
  refine qs_zi hS pl_824 ts_824 ?_
  refine qs_bp (qz_X0_refusal hS hM ei1 ei2 ei3) (fun v4830 S4830 w4830 h4830 hS4830 hM4830 => ?_)
  refine qs_ite (c_eq h4830 k_0) ?_ ?_
  · refine qs_gi hS4830 hM4830 pl_824 ts_824 (z := 18) rfl rfl (fun v4831 h4831 => ?_)
    refine qs_ite (c_eq h4831 k_0) ?_ ?_
    · refine qs_zi hS4830 pl_824 ts_824 ?_
      refine qs_bp (qz_X0_factOf hS4830 hM4830 ei2 k_10) (fun v4833 S4833 w4833 h4833 hS4833 hM4833 => ?_)
      refine qs_ite (c_eq h4833 k_0) ?_ ?_
      · exact (qz_X0_askOne_J35 hS4833 hM4833 ei1 ei2 ei3 h4830)
      · exact (qz_X0_askOne_J35 hS4833 hM4833 ei1 ei2 ei3 k_7)
    · exact (qz_X0_askOne_J35 hS4830 hM4830 ei1 ei2 ei3 h4830)
  · exact (qz_X0_askOne_J35 hS4830 hM4830 ei1 ei2 ei3 h4830)
set_option maxRecDepth 20000 in
theorem qz_X11_ask_J60 {P : Nat → Nat} {S : zm_S} {M : qm} {i1 : Int32} {qi1 : Int} {i2 : Int32} {qi2 : Int} {i3 : Int32} {qi3 : Int} {t0 : Int32} {qt0 : Int} (hS : Sh L xs P S) (hM : qM P S = M) (ei1 : i1.toInt = qi1) (ei2 : i2.toInt = qi2) (ei3 : i3.toInt = qi3) (et0 : t0.toInt = qt0) : qs (zf_X11_ask_J60 20000 6 i1 i2 i3 t0 S) (qf_X11_ask_J60 20000 qi1 qi2 qi3 qt0 M) (tO (rr L xs P (vs vi ve))) := by
  unfold zf_X11_ask_J60 qf_X11_ask_J60
  refine qs_xp (qz_X11_needState hS hM et0) ?_ ?_
  · intro v4835 S4835 w4835 h4835 hS4835 hM4835
    dsimp only
    refine qs_gr hS4835 pl_6 ts_6 rfl ?_
    refine qs_gi hS4835 hM4835 pl_6 ts_6 (z := 12) rfl rfl (fun v4837 h4837 => ?_)
    refine qs_zi hS4835 pl_6 ts_6 ?_
    refine qs_bp (qz_X11_isReleased hS4835 hM4835 ) (fun v4839 S4839 w4839 h4839 hS4839 hM4839 => ?_)
    refine qs_zi hS4839 pl_824 ts_824 ?_
    refine qs_b (qz_X0_setMoment hS4839 hM4839 h4837 h4839) (fun v4841 S4841 w4841 M4841 h4841 hS4841 hM4841 => ?_)
    refine qs_gr hS4841 pl_6 ts_6 rfl ?_
    refine qs_zi hS4841 pl_824 ts_824 ?_
    refine qs_b (qz_X0_askOne hS4841 hM4841 ei1 ei2 ei3) (fun v4844 S4844 w4844 M4844 h4844 hS4844 hM4844 => ?_)
    exact qs_tr (show (vs vi ve) _ _ from h4844) hS4844 hM4844
  · intro v4835 S4835 hS4835 hM4835
    dsimp only
    exact qs_tr (show (vs vi ve) _ _ from rfl) hS4835 hM4835
set_option maxRecDepth 20000 in
theorem qz_X11_ask_J59 {P : Nat → Nat} {S : zm_S} {M : qm} {i1 : Int32} {qi1 : Int} {i2 : Int32} {qi2 : Int} {i3 : Int32} {qi3 : Int} (hS : Sh L xs P S) (hM : qM P S = M) (ei1 : i1.toInt = qi1) (ei2 : i2.toInt = qi2) (ei3 : i3.toInt = qi3) : qs (zf_X11_ask_J59 20000 6 i1 i2 i3 S) (qf_X11_ask_J59 20000 qi1 qi2 qi3 M) (tO (rr L xs P (vs vi ve))) := by
  unfold zf_X11_ask_J59 qf_X11_ask_J59
  exact (qz_X11_ask_J60 hS hM ei1 ei2 ei3 k_0)
set_option maxRecDepth 20000 in
theorem qz_X0_hasRoomForRows {P : Nat → Nat} {S : zm_S} {M : qm} {i1 : Int32} {qi1 : Int} {i2 : Int32} {qi2 : Int} (hS : Sh L xs P S) (hM : qM P S = M) (ei1 : i1.toInt = qi1) (ei2 : i2.toInt = qi2) : qs (zf_X0_hasRoomForRows 20000 824 i1 i2 S) (qf_X0_hasRoomForRows 20000 qi1 qi2 M) (tO (rp L xs P M vi)) := by
  unfold zf_X0_hasRoomForRows qf_X0_hasRoomForRows
  refine qs_zi hS pl_824 ts_824 ?_
  refine qs_bp (qz_X0_isOff hS hM ei1) (fun v4846 S4846 w4846 h4846 hS4846 hM4846 => ?_)
  refine qs_ite (c_eq h4846 k_0) ?_ ?_
  · exact qs_tp (show vi _ _ from k_1) hS4846 hM4846
  · refine qs_zi hS4846 pl_824 ts_824 ?_
    refine qs_bp (qz_X0_factOf hS4846 hM4846 ei1 k_12) (fun v4848 S4848 w4848 h4848 hS4848 hM4848 => ?_)
    refine qs_ite (c_lt k_20 (p_add h4848 ei2)) ?_ ?_
    · exact qs_tp (show vi _ _ from k_0) hS4848 hM4848
    · exact qs_tp (show vi _ _ from k_1) hS4848 hM4848
set_option maxRecDepth 20000 in
theorem qz_X11_ask_J33 {P : Nat → Nat} {S : zm_S} {M : qm} {i1 : Int32} {qi1 : Int} {i2 : Int32} {qi2 : Int} {i3 : Int32} {qi3 : Int} {t0 : Int32} {qt0 : Int} (hS : Sh L xs P S) (hM : qM P S = M) (ei1 : i1.toInt = qi1) (ei2 : i2.toInt = qi2) (ei3 : i3.toInt = qi3) (et0 : t0.toInt = qt0) : qs (zf_X11_ask_J33 20000 6 i1 i2 i3 t0 S) (qf_X11_ask_J33 20000 qi1 qi2 qi3 qt0 M) (tO (rr L xs P (vs vi ve))) := by
  unfold zf_X11_ask_J33 qf_X11_ask_J33
  refine qs_xp (qz_X11_needArgument hS hM et0) ?_ ?_
  · intro v4850 S4850 w4850 h4850 hS4850 hM4850
    dsimp only
    refine qs_gi hS4850 hM4850 pl_6 ts_6 (z := 11) rfl rfl (fun v4851 h4851 => ?_)
    refine qs_ite (c_eq h4851 k_0) ?_ ?_
    · exact (qz_X11_ask_J59 hS4850 hM4850 ei1 ei2 ei3)
    · refine qs_gr hS4850 pl_6 ts_6 rfl ?_
      refine qs_zi hS4850 pl_824 ts_824 ?_
      refine qs_bp (qz_X0_hasRoomForRows hS4850 hM4850 ei2 k_1) (fun v4854 S4854 w4854 h4854 hS4854 hM4854 => ?_)
      refine qs_ite (c_eq h4854 k_0) ?_ ?_
      · exact (qz_X11_ask_J59 hS4854 hM4854 ei1 ei2 ei3)
      · exact (qz_X11_ask_J60 hS4854 hM4854 ei1 ei2 ei3 k_1)
  · intro v4850 S4850 hS4850 hM4850
    dsimp only
    exact qs_tr (show (vs vi ve) _ _ from rfl) hS4850 hM4850
set_option maxRecDepth 20000 in
theorem qz_X11_ask_J32 {P : Nat → Nat} {S : zm_S} {M : qm} {i1 : Int32} {qi1 : Int} {i2 : Int32} {qi2 : Int} {i3 : Int32} {qi3 : Int} (hS : Sh L xs P S) (hM : qM P S = M) (ei1 : i1.toInt = qi1) (ei2 : i2.toInt = qi2) (ei3 : i3.toInt = qi3) : qs (zf_X11_ask_J32 20000 6 i1 i2 i3 S) (qf_X11_ask_J32 20000 qi1 qi2 qi3 M) (tO (rr L xs P (vs vi ve))) := by
  unfold zf_X11_ask_J32 qf_X11_ask_J32
  exact (qz_X11_ask_J33 hS hM ei1 ei2 ei3 k_0)
set_option maxRecDepth 20000 in
theorem qz_X0_isRoomOf {P : Nat → Nat} {S : zm_S} {M : qm} {i1 : Int32} {qi1 : Int} {i2 : Int32} {qi2 : Int} (hS : Sh L xs P S) (hM : qM P S = M) (ei1 : i1.toInt = qi1) (ei2 : i2.toInt = qi2) : qs (zf_X0_isRoomOf 20000 824 i1 i2 S) (qf_X0_isRoomOf 20000 qi1 qi2 M) (tO (rp L xs P M vi)) := by
  unfold zf_X0_isRoomOf qf_X0_isRoomOf
  refine qs_zi hS pl_824 ts_824 ?_
  refine qs_bp (qz_X0_factOf hS hM ei1 k_0) (fun v4856 S4856 w4856 h4856 hS4856 hM4856 => ?_)
  refine qs_ite (c_eq h4856 ei2) ?_ ?_
  · exact qs_tp (show vi _ _ from k_1) hS4856 hM4856
  · refine qs_zi hS4856 pl_824 ts_824 ?_
    refine qs_bp (qz_X0_factOf hS4856 hM4856 ei1 k_1) (fun v4858 S4858 w4858 h4858 hS4858 hM4858 => ?_)
    refine qs_ite (c_eq h4858 ei2) ?_ ?_
    · exact qs_tp (show vi _ _ from k_1) hS4858 hM4858
    · exact qs_tp (show vi _ _ from k_0) hS4858 hM4858
set_option maxRecDepth 20000 in
theorem qz_X11_ask {P : Nat → Nat} {S : zm_S} {M : qm} {i1 : Int32} {qi1 : Int} {i2 : Int32} {qi2 : Int} {i3 : Int32} {qi3 : Int} (hS : Sh L xs P S) (hM : qM P S = M) (ei1 : i1.toInt = qi1) (ei2 : i2.toInt = qi2) (ei3 : i3.toInt = qi3) : qs (zf_X11_ask 20000 6 i1 i2 i3 S) (qf_X11_ask 20000 qi1 qi2 qi3 M) (tO (rr L xs P (vs vi ve))) := by
  unfold zf_X11_ask qf_X11_ask
  refine qs_zi hS pl_6 ts_6 ?_
  refine qs_bp (qz_X11_isCard hS hM ei1) (fun v4860 S4860 w4860 h4860 hS4860 hM4860 => ?_)
  refine qs_ite (c_eq h4860 k_0) ?_ ?_
  · exact (qz_X11_ask_J32 hS4860 hM4860 ei1 ei2 ei3)
  · refine qs_zi hS4860 pl_6 ts_6 ?_
    refine qs_bp (qz_X11_isPortal hS4860 hM4860 ei2) (fun v4862 S4862 w4862 h4862 hS4862 hM4862 => ?_)
    refine qs_ite (c_eq h4862 k_0) ?_ ?_
    · exact (qz_X11_ask_J32 hS4862 hM4862 ei1 ei2 ei3)
    · refine qs_gr hS4862 pl_6 ts_6 rfl ?_
      refine qs_zi hS4862 pl_824 ts_824 ?_
      refine qs_bp (qz_X0_isRoomOf hS4862 hM4862 ei2 ei3) (fun v4865 S4865 w4865 h4865 hS4865 hM4865 => ?_)
      refine qs_ite (c_eq h4865 k_0) ?_ ?_
      · exact (qz_X11_ask_J32 hS4865 hM4865 ei1 ei2 ei3)
      · exact (qz_X11_ask_J33 hS4865 hM4865 ei1 ei2 ei3 k_1)
set_option maxRecDepth 20000 in
theorem qz_L_ask {P : Nat → Nat} {S : zm_S} {M : qm} {i1 : Int32} {qi1 : Int} {i2 : Int32} {qi2 : Int} {i3 : Int32} {qi3 : Int} (hS : Sh L xs P S) (hM : qM P S = M) (ei1 : i1.toInt = qi1) (ei2 : i2.toInt = qi2) (ei3 : i3.toInt = qi3) : qs (zf_L_ask 20000 6 i1 i2 i3 2332 S) (qf_L_ask 20000 qi1 qi2 qi3 M) (tO (rr L xs P vi)) := by
  unfold zf_L_ask qf_L_ask
  refine qs_zi hS pl_6 ts_6 ?_
  refine qs_xr (qz_X11_ask hS hM ei1 ei2 ei3) ?_ ?_
  · intro v4868 S4868 w4868 M4868 h4868 hS4868 hM4868
    dsimp only
    refine qs_sl hS4868 hM4868 (pa_p hS4868 pl_2332 ts_2332) k_0 (by decide) (p_64 h4868) (fun S4869 M4869 hS4869 hM4869 => ?_)
    exact qs_tr (show vi _ _ from k_0) hS4869 hM4869
  · intro v4868 S4868 M4868 hS4868 hM4868
    dsimp only
    refine qs_ite Iff.rfl ?_ ?_
    · exact qs_tr (show vi _ _ from k_1) hS4868 hM4868
    · refine qs_ite Iff.rfl ?_ ?_
      · exact qs_tr (show vi _ _ from k_2) hS4868 hM4868
      · exact qs_none
set_option maxRecDepth 20000 in
theorem qz_X14_done_J49 {P : Nat → Nat} {S : zm_S} {M : qm} {i1 : Int32} {qi1 : Int} {i3 : Int32} {qi3 : Int} {t0 : Int32} {qt0 : Int} {t1 : Int32} {qt1 : Int} (hS : Sh L xs P S) (hM : qM P S = M) (ei1 : i1.toInt = qi1) (ei3 : i3.toInt = qi3) (et0 : t0.toInt = qt0) (et1 : t1.toInt = qt1) {k : Nat → Int32 → Int32 → Int32 → zm_S → Option ((Int32 × zm_S) ⊕ ((Int32) × zm_S))} : qs (zf_X14_done_J49 20000 k 2208 i1 i3 t0 t1 S) (qf_X14_done_J49 20000 qi1 qi3 qt0 qt1 M) (tk (vs (rp L xs P M vi) (rp L xs P M vi)) (qc_X14_done_L4 L xs P M k)) := by
  unfold zf_X14_done_J49 qf_X14_done_J49
  exact qs_tk ⟨_, _, _, _, rfl, ei1, (p_add et0 et1), (p_add ei3 k_1), hS, hM⟩
set_option maxRecDepth 20000 in
theorem qz_X14_done_J48 {P : Nat → Nat} {S : zm_S} {M : qm} {i1 : Int32} {qi1 : Int} {i3 : Int32} {qi3 : Int} {t0 : Int32} {qt0 : Int} (hS : Sh L xs P S) (hM : qM P S = M) (ei1 : i1.toInt = qi1) (ei3 : i3.toInt = qi3) (et0 : t0.toInt = qt0) {k : Nat → Int32 → Int32 → Int32 → zm_S → Option ((Int32 × zm_S) ⊕ ((Int32) × zm_S))} : qs (zf_X14_done_J48 20000 k 2208 i1 i3 t0 S) (qf_X14_done_J48 20000 qi1 qi3 qt0 M) (tk (vs (rp L xs P M vi) (rp L xs P M vi)) (qc_X14_done_L4 L xs P M k)) := by
  unfold zf_X14_done_J48 qf_X14_done_J48
  exact (qz_X14_done_J49 hS hM ei1 ei3 et0 k_0)
set_option maxRecDepth 20000 in
theorem qz_X14_done_J44 {P : Nat → Nat} {S : zm_S} {M : qm} {i1 : Int32} {qi1 : Int} {i3 : Int32} {qi3 : Int} {t0 : Int32} {qt0 : Int} (hS : Sh L xs P S) (hM : qM P S = M) (ei1 : i1.toInt = qi1) (ei3 : i3.toInt = qi3) (et0 : t0.toInt = qt0) {k : Nat → Int32 → Int32 → Int32 → zm_S → Option ((Int32 × zm_S) ⊕ ((Int32) × zm_S))} : qs (zf_X14_done_J44 20000 k 2208 i1 i3 t0 S) (qf_X14_done_J44 20000 qi1 qi3 qt0 M) (tk (vs (rp L xs P M vi) (rp L xs P M vi)) (qc_X14_done_L4 L xs P M k)) := by
  unfold zf_X14_done_J44 qf_X14_done_J44
  exact (qz_X14_done_J49 hS hM ei1 ei3 et0 k_1)
set_option maxRecDepth 20000 in
theorem qz_X14_done_L4_b (n : Nat) {P : Nat → Nat} {S : zm_S} {M : qm} {i1 : Int32} {qi1 : Int} {i2 : Int32} {qi2 : Int} {i3 : Int32} {qi3 : Int} (hS : Sh L xs P S) (hM : qM P S = M) (ei1 : i1.toInt = qi1) (ei2 : i2.toInt = qi2) (ei3 : i3.toInt = qi3) : qs (zf_X14_done_L4 20000 (n + 1) 2208 i1 i2 i3 S) (qf_X14_done_L4_b 20000 qi1 qi2 qi3 M) (tk (vs (rp L xs P M vi) (rp L xs P M vi)) (qc_X14_done_L4 L xs P M (zf_X14_done_L4 20000 n))) := by
  refine qs_eq (zf_X14_done_L4.eq_2 ..) ?_
  unfold qf_X14_done_L4_b
  refine qs_ite (c_le k_20 ei3) ?_ ?_
  · exact qs_tp2 (show vi _ _ from ei2) hS hM
  · refine qs_gr hS pl_2208 ts_2208 rfl ?_
    refine qs_gd (fun g4872 => ?_)
    refine qs_xi hM (pa_p hS pl_2219 ts_2219) ei3 g4872 (fun v4871 h4871 => ?_)
    refine qs_ite (c_eq h4871 k_0) ?_ ?_
    · exact (qz_X14_done_J48 hS hM ei1 ei3 ei2)
    · refine qs_gr hS pl_2208 ts_2208 rfl ?_
      refine qs_gd (fun g4875 => ?_)
      refine qs_xi hM (pa_p hS pl_2227 ts_2227) ei3 g4875 (fun v4874 h4874 => ?_)
      refine qs_ite (c_eq h4874 k_2) ?_ ?_
      · refine qs_ite (c_lt ei1 k_0) ?_ ?_
        · exact (qz_X14_done_J44 hS hM ei1 ei3 ei2)
        · refine qs_gr hS pl_2208 ts_2208 rfl ?_
          refine qs_gd (fun g4878 => ?_)
          refine qs_xi hM (pa_p hS pl_2220 ts_2220) ei3 g4878 (fun v4877 h4877 => ?_)
          refine qs_ite (c_eq h4877 ei1) ?_ ?_
          · exact (qz_X14_done_J44 hS hM ei1 ei3 ei2)
          · exact (qz_X14_done_J48 hS hM ei1 ei3 ei2)
      · exact (qz_X14_done_J48 hS hM ei1 ei3 ei2)
theorem qz_X14_done_L4 (n : Nat) : ∀ {P : Nat → Nat} {S : zm_S} {M : qm} {i1 : Int32} {qi1 : Int} {i2 : Int32} {qi2 : Int} {i3 : Int32} {qi3 : Int} (hS : Sh L xs P S) (hM : qM P S = M) (ei1 : i1.toInt = qi1) (ei2 : i2.toInt = qi2) (ei3 : i3.toInt = qi3), qs (zf_X14_done_L4 20000 n 2208 i1 i2 i3 S) (qf_X14_done_L4 20000 n qi1 qi2 qi3 M) (tO (vs (rp L xs P M vi) (rp L xs P M vi))) := by
  induction n with
  | zero =>
    intros
    exact qs_none
  | succ n ih =>
    intro P S M i1 qi1 i2 qi2 i3 qi3 hS hM ei1 ei2 ei3
    unfold qf_X14_done_L4
    refine qs_loop (C := (qc_X14_done_L4 L xs P M (zf_X14_done_L4 20000 n))) (qz_X14_done_L4_b n hS hM ei1 ei2 ei3) ?_
    rintro x s ⟨_, _, _, _, rfl, u0, u1, u2, hS2, hM2⟩
    exact ih hS2 hM2 u0 u1 u2
set_option maxRecDepth 20000 in
theorem qz_X14_done {P : Nat → Nat} {S : zm_S} {M : qm} {i1 : Int32} {qi1 : Int} (hS : Sh L xs P S) (hM : qM P S = M) (ei1 : i1.toInt = qi1) : qs (zf_X14_done 20000 2208 i1 S) (qf_X14_done 20000 qi1 M) (tO (rp L xs P M vi)) := by
  unfold zf_X14_done qf_X14_done
  refine qs_lp (qz_X14_done_L4 20000 hS hM ei1 k_0 k_0) ?_ ?_
  · intro v4880 S4880 w4880 h4880 hS4880 hM4880
    dsimp only
    exact qs_tp h4880 hS4880 hM4880
  · intro v4880 S4880 w4880 h4880 hS4880 hM4880
    dsimp only
    exact qs_tp (show vi _ _ from h4880) hS4880 hM4880
set_option maxRecDepth 20000 in
theorem qz_X18_isReleased {P : Nat → Nat} {S : zm_S} {M : qm}  (hS : Sh L xs P S) (hM : qM P S = M)  : qs (zf_X18_isReleased 20000 2156 S) (qf_X18_isReleased 20000 M) (tO (rp L xs P M vi)) := by
  unfold zf_X18_isReleased qf_X18_isReleased
  refine qs_gr hS pl_2156 ts_2156 rfl ?_
  refine qs_zi hS pl_2208 ts_2208 ?_
  refine qs_bp (qz_X14_done hS hM k_0) (fun v4883 S4883 w4883 h4883 hS4883 hM4883 => ?_)
  refine qs_ite (c_le h4883 k_0) ?_ ?_
  · exact qs_tp (show vi _ _ from k_0) hS4883 hM4883
  · exact qs_tp (show vi _ _ from k_1) hS4883 hM4883
set_option maxRecDepth 20000 in
theorem qz_X18_refused_J198 {P : Nat → Nat} {S : zm_S} {M : qm} {i2 : Int32} {qi2 : Int} {i6 : Int32} {qi6 : Int} (hS : Sh L xs P S) (hM : qM P S = M) (ei2 : i2.toInt = qi2) (ei6 : i6.toInt = qi6) {k : Nat → Int32 → Int32 → Int32 → zm_S → Option ((Int32 × zm_S) ⊕ ((Int32) × zm_S))} : qs (zf_X18_refused_J198 20000 k 2156 i2 i6 S) (qf_X18_refused_J198 20000 qi2 qi6 M) (tk (vs (rp L xs P M vi) (rp L xs P M vi)) (qc_X18_refused_L115 L xs P M k)) := by
  unfold zf_X18_refused_J198 qf_X18_refused_J198
  exact qs_tk ⟨_, _, _, _, rfl, ei2, k_0, (p_add ei6 k_1), hS, hM⟩
set_option maxRecDepth 20000 in
theorem qz_X18_refused_J193 {P : Nat → Nat} {S : zm_S} {M : qm} {i2 : Int32} {qi2 : Int} {i6 : Int32} {qi6 : Int} (hS : Sh L xs P S) (hM : qM P S = M) (ei2 : i2.toInt = qi2) (ei6 : i6.toInt = qi6) {k : Nat → Int32 → Int32 → Int32 → zm_S → Option ((Int32 × zm_S) ⊕ ((Int32) × zm_S))} : qs (zf_X18_refused_J193 20000 k 2156 i2 i6 S) (qf_X18_refused_J193 20000 qi2 qi6 M) (tk (vs (rp L xs P M vi) (rp L xs P M vi)) (qc_X18_refused_L115 L xs P M k)) := by
  unfold zf_X18_refused_J193 qf_X18_refused_J193
  exact qs_tk ⟨_, _, _, _, rfl, ei2, k_6, (p_add ei6 k_1), hS, hM⟩
set_option maxRecDepth 20000 in
theorem qz_X18_refused_J160 {P : Nat → Nat} {S : zm_S} {M : qm} {i2 : Int32} {qi2 : Int} {i6 : Int32} {qi6 : Int} {t0 : Int32} {qt0 : Int} (hS : Sh L xs P S) (hM : qM P S = M) (ei2 : i2.toInt = qi2) (ei6 : i6.toInt = qi6) (et0 : t0.toInt = qt0) {k : Nat → Int32 → Int32 → Int32 → zm_S → Option ((Int32 × zm_S) ⊕ ((Int32) × zm_S))} : qs (zf_X18_refused_J160 20000 k 2156 i2 i6 t0 S) (qf_X18_refused_J160 20000 qi2 qi6 qt0 M) (tk (vs (rp L xs P M vi) (rp L xs P M vi)) (qc_X18_refused_L115 L xs P M k)) := by
  unfold zf_X18_refused_J160 qf_X18_refused_J160
  refine qs_ite (c_eq et0 k_0) ?_ ?_
  · refine qs_gr hS pl_2156 ts_2156 rfl ?_
    refine qs_gd (fun g4886 => ?_)
    refine qs_xi hM (pa_p hS pl_2303 ts_2303) ei6 g4886 (fun v4885 h4885 => ?_)
    refine qs_ite (c_eq h4885 ei2) ?_ ?_
    · refine qs_gr hS pl_2156 ts_2156 rfl ?_
      refine qs_gr hS pl_2156 ts_2156 rfl ?_
      refine qs_gd (fun g4890 => ?_)
      refine qs_xi hM (pa_p hS pl_2302 ts_2302) ei6 g4890 (fun v4889 h4889 => ?_)
      refine qs_gd (fun g4892 => ?_)
      refine qs_xi hM (pa_p hS pl_2295 ts_2295) h4889 g4892 (fun v4891 h4891 => ?_)
      refine qs_ite (c_eq h4891 k_0) ?_ ?_
      · exact (qz_X18_refused_J198 hS hM ei2 ei6)
      · exact (qz_X18_refused_J193 hS hM ei2 ei6)
    · exact (qz_X18_refused_J198 hS hM ei2 ei6)
  · exact (qz_X18_refused_J193 hS hM ei2 ei6)
set_option maxRecDepth 20000 in
theorem qz_X18_refused_J159 {P : Nat → Nat} {S : zm_S} {M : qm} {i2 : Int32} {qi2 : Int} {i6 : Int32} {qi6 : Int} (hS : Sh L xs P S) (hM : qM P S = M) (ei2 : i2.toInt = qi2) (ei6 : i6.toInt = qi6) {k : Nat → Int32 → Int32 → Int32 → zm_S → Option ((Int32 × zm_S) ⊕ ((Int32) × zm_S))} : qs (zf_X18_refused_J159 20000 k 2156 i2 i6 S) (qf_X18_refused_J159 20000 qi2 qi6 M) (tk (vs (rp L xs P M vi) (rp L xs P M vi)) (qc_X18_refused_L115 L xs P M k)) := by
  unfold zf_X18_refused_J159 qf_X18_refused_J159
  exact (qz_X18_refused_J160 hS hM ei2 ei6 k_0)
set_option maxRecDepth 20000 in
theorem qz_X18_refused_L115_b (n : Nat) {P : Nat → Nat} {S : zm_S} {M : qm} {i2 : Int32} {qi2 : Int} {i5 : Int32} {qi5 : Int} {i6 : Int32} {qi6 : Int} (hS : Sh L xs P S) (hM : qM P S = M) (ei2 : i2.toInt = qi2) (ei5 : i5.toInt = qi5) (ei6 : i6.toInt = qi6) : qs (zf_X18_refused_L115 20000 (n + 1) 2156 i2 i5 i6 S) (qf_X18_refused_L115_b 20000 qi2 qi5 qi6 M) (tk (vs (rp L xs P M vi) (rp L xs P M vi)) (qc_X18_refused_L115 L xs P M (zf_X18_refused_L115 20000 n))) := by
  refine qs_eq (zf_X18_refused_L115.eq_2 ..) ?_
  unfold qf_X18_refused_L115_b
  refine qs_gi hS hM pl_2156 ts_2156 (z := 24) rfl rfl (fun v4893 h4893 => ?_)
  refine qs_ite (c_le h4893 ei6) ?_ ?_
  · exact qs_tp2 (show vi _ _ from ei5) hS hM
  · refine qs_ite (c_eq ei5 k_0) ?_ ?_
    · refine qs_gr hS pl_2156 ts_2156 rfl ?_
      refine qs_gd (fun g4896 => ?_)
      refine qs_xi hM (pa_p hS pl_2302 ts_2302) ei6 g4896 (fun v4895 h4895 => ?_)
      refine qs_ite (c_eq h4895 ei2) ?_ ?_
      · refine qs_gr hS pl_2156 ts_2156 rfl ?_
        refine qs_gr hS pl_2156 ts_2156 rfl ?_
        refine qs_gd (fun g4900 => ?_)
        refine qs_xi hM (pa_p hS pl_2303 ts_2303) ei6 g4900 (fun v4899 h4899 => ?_)
        refine qs_gd (fun g4902 => ?_)
        refine qs_xi hM (pa_p hS pl_2295 ts_2295) h4899 g4902 (fun v4901 h4901 => ?_)
        refine qs_ite (c_eq h4901 k_0) ?_ ?_
        · exact (qz_X18_refused_J159 hS hM ei2 ei6)
        · exact (qz_X18_refused_J160 hS hM ei2 ei6 k_1)
      · exact (qz_X18_refused_J159 hS hM ei2 ei6)
    · exact qs_tp2 (show vi _ _ from ei5) hS hM
theorem qz_X18_refused_L115 (n : Nat) : ∀ {P : Nat → Nat} {S : zm_S} {M : qm} {i2 : Int32} {qi2 : Int} {i5 : Int32} {qi5 : Int} {i6 : Int32} {qi6 : Int} (hS : Sh L xs P S) (hM : qM P S = M) (ei2 : i2.toInt = qi2) (ei5 : i5.toInt = qi5) (ei6 : i6.toInt = qi6), qs (zf_X18_refused_L115 20000 n 2156 i2 i5 i6 S) (qf_X18_refused_L115 20000 n qi2 qi5 qi6 M) (tO (vs (rp L xs P M vi) (rp L xs P M vi))) := by
  induction n with
  | zero =>
    intros
    exact qs_none
  | succ n ih =>
    intro P S M i2 qi2 i5 qi5 i6 qi6 hS hM ei2 ei5 ei6
    unfold qf_X18_refused_L115
    refine qs_loop (C := (qc_X18_refused_L115 L xs P M (zf_X18_refused_L115 20000 n))) (qz_X18_refused_L115_b n hS hM ei2 ei5 ei6) ?_
    rintro x s ⟨_, _, _, _, rfl, u0, u1, u2, hS2, hM2⟩
    exact ih hS2 hM2 u0 u1 u2
set_option maxRecDepth 20000 in
theorem qz_X18_refused_J107 {P : Nat → Nat} {S : zm_S} {M : qm} {i2 : Int32} {qi2 : Int} {t1 : Int32} {qt1 : Int} {t2 : Int32} {qt2 : Int} {t3 : Int32} {qt3 : Int} {t4 : Int32} {qt4 : Int} {t5 : Int32} {qt5 : Int} (hS : Sh L xs P S) (hM : qM P S = M) (ei2 : i2.toInt = qi2) (et1 : t1.toInt = qt1) (et2 : t2.toInt = qt2) (et3 : t3.toInt = qt3) (et4 : t4.toInt = qt4) (et5 : t5.toInt = qt5) : qs (zf_X18_refused_J107 20000 2156 i2 2156 t1 t2 t3 t4 t5 S) (qf_X18_refused_J107 20000 qi2 qt1 qt2 qt3 qt4 qt5 M) (tO (rp L xs P M vi)) := by
  unfold zf_X18_refused_J107 qf_X18_refused_J107
  refine qs_zi hS pl_2156 ts_2156 ?_
  refine qs_bp (qz_X18_why hS hM et1 et2 et3 et4 et5) (fun v4904 S4904 w4904 h4904 hS4904 hM4904 => ?_)
  refine qs_lp (qz_X18_refused_L115 20000 hS4904 hM4904 ei2 h4904 k_0) ?_ ?_
  · intro v4906 S4906 w4906 h4906 hS4906 hM4906
    dsimp only
    exact qs_tp h4906 hS4906 hM4906
  · intro v4906 S4906 w4906 h4906 hS4906 hM4906
    dsimp only
    exact qs_tp (show vi _ _ from h4906) hS4906 hM4906
set_option maxRecDepth 20000 in
theorem qz_X18_refused_J25 {P : Nat → Nat} {S : zm_S} {M : qm} {i1 : Int32} {qi1 : Int} {i2 : Int32} {qi2 : Int} {i3 : Int32} {qi3 : Int} {t0 : Int32} {qt0 : Int} (hS : Sh L xs P S) (hM : qM P S = M) (ei1 : i1.toInt = qi1) (ei2 : i2.toInt = qi2) (ei3 : i3.toInt = qi3) (et0 : t0.toInt = qt0) : qs (zf_X18_refused_J25 20000 2156 i1 i2 i3 t0 S) (qf_X18_refused_J25 20000 qi1 qi2 qi3 qt0 M) (tO (rp L xs P M vi)) := by
  unfold zf_X18_refused_J25 qf_X18_refused_J25
  refine qs_gr hS pl_2156 ts_2156 rfl ?_
  refine qs_gr hS pl_2156 ts_2156 rfl ?_
  refine qs_gd (fun g4910 => ?_)
  refine qs_xi hM (pa_p hS pl_2312 ts_2312) ei1 g4910 (fun v4909 h4909 => ?_)
  refine qs_gd (fun g4912 => ?_)
  refine qs_xi hM (pa_p hS pl_2309 ts_2309) h4909 g4912 (fun v4911 h4911 => ?_)
  refine qs_ite (c_lt h4911 k_0) ?_ ?_
  · refine qs_zi hS pl_2156 ts_2156 ?_
    refine qs_bp (qz_X18_isReleased hS hM ) (fun v4914 S4914 w4914 h4914 hS4914 hM4914 => ?_)
    refine qs_ite (c_eq h4914 k_0) ?_ ?_
    · refine qs_gi hS4914 hM4914 pl_2156 ts_2156 (z := 2) rfl rfl (fun v4915 h4915 => ?_)
      refine qs_gr hS4914 pl_2156 ts_2156 rfl ?_
      refine qs_gd (fun g4918 => ?_)
      refine qs_xi hM4914 (pa_p hS4914 pl_2297 ts_2297) ei2 g4918 (fun v4917 h4917 => ?_)
      refine qs_gr hS4914 pl_2156 ts_2156 rfl ?_
      refine qs_gd (fun g4921 => ?_)
      refine qs_xi hM4914 (pa_p hS4914 pl_2297 ts_2297) ei2 g4921 (fun v4920 h4920 => ?_)
      refine qs_ite (c_eq h4920 k_2147483647) ?_ ?_
      · exact (qz_X18_refused_J107 hS4914 hM4914 ei2 ei1 ei3 (p_div h4915 k_60 (by decide)) h4917 et0)
      · exact (qz_X18_refused_J107 hS4914 hM4914 ei2 ei1 ei3 (p_div h4915 k_60 (by decide)) h4917 k_m1)
    · refine qs_gr hS4914 pl_2156 ts_2156 rfl ?_
      refine qs_gr hS4914 pl_2156 ts_2156 rfl ?_
      refine qs_gd (fun g4925 => ?_)
      refine qs_xi hM4914 (pa_p hS4914 pl_2312 ts_2312) ei1 g4925 (fun v4924 h4924 => ?_)
      refine qs_gd (fun g4927 => ?_)
      refine qs_xi hM4914 (pa_p hS4914 pl_2306 ts_2306) h4924 g4927 (fun v4926 h4926 => ?_)
      refine qs_ite (c_eq h4926 et0) ?_ ?_
      · exact qs_tp (show vi _ _ from k_0) hS4914 hM4914
      · exact qs_tp (show vi _ _ from k_4) hS4914 hM4914
  · exact qs_tp (show vi _ _ from k_9) hS hM
set_option maxRecDepth 20000 in
theorem qz_X18_refused {P : Nat → Nat} {S : zm_S} {M : qm} {i1 : Int32} {qi1 : Int} {i2 : Int32} {qi2 : Int} {i3 : Int32} {qi3 : Int} (hS : Sh L xs P S) (hM : qM P S = M) (ei1 : i1.toInt = qi1) (ei2 : i2.toInt = qi2) (ei3 : i3.toInt = qi3) : qs (zf_X18_refused 20000 2156 i1 i2 i3 S) (qf_X18_refused 20000 qi1 qi2 qi3 M) (tO (rp L xs P M vi)) := by
  unfold zf_X18_refused qf_X18_refused
  refine qs_gr hS pl_2156 ts_2156 rfl ?_
  refine qs_gd (fun g4930 => ?_)
  refine qs_xi hM (pa_p hS pl_2289 ts_2289) ei2 g4930 (fun v4929 h4929 => ?_)
  refine qs_ite (c_eq ei3 h4929) ?_ ?_
  · refine qs_gr hS pl_2156 ts_2156 rfl ?_
    refine qs_gd (fun g4933 => ?_)
    refine qs_xi hM (pa_p hS pl_2290 ts_2290) ei2 g4933 (fun v4932 h4932 => ?_)
    exact (qz_X18_refused_J25 hS hM ei1 ei2 ei3 h4932)
  · refine qs_gr hS pl_2156 ts_2156 rfl ?_
    refine qs_gd (fun g4936 => ?_)
    refine qs_xi hM (pa_p hS pl_2289 ts_2289) ei2 g4936 (fun v4935 h4935 => ?_)
    exact (qz_X18_refused_J25 hS hM ei1 ei2 ei3 h4935)
set_option maxRecDepth 20000 in
theorem qz_X18_let_J19 {P : Nat → Nat} {S : zm_S} {M : qm} {i1 : Int32} {qi1 : Int} {i2 : Int32} {qi2 : Int} {i3 : Int32} {qi3 : Int} (hS : Sh L xs P S) (hM : qM P S = M) (ei1 : i1.toInt = qi1) (ei2 : i2.toInt = qi2) (ei3 : i3.toInt = qi3) : qs (zf_X18_let_J19 20000 2156 i1 i2 i3 S) (qf_X18_let_J19 20000 qi1 qi2 qi3 M) (tO (rr L xs P vu)) := by
  unfold zf_X18_let_J19 qf_X18_let_J19
  refine qs_gr hS pl_2156 ts_2156 rfl ?_
  refine qs_gd (fun g4939 => ?_)
  refine qs_xi hM (pa_p hS pl_2312 ts_2312) ei1 g4939 (fun v4938 h4938 => ?_)
  refine qs_zi hS pl_2156 ts_2156 ?_
  refine qs_b (qz_X18_enter hS hM h4938 ei2 ei3) (fun v4941 S4941 w4941 M4941 h4941 hS4941 hM4941 => ?_)
  exact qs_tr (show vu _ _ from trivial) hS4941 hM4941
set_option maxRecDepth 20000 in
theorem qz_X18_let {P : Nat → Nat} {S : zm_S} {M : qm} {i1 : Int32} {qi1 : Int} {i2 : Int32} {qi2 : Int} {i3 : Int32} {qi3 : Int} (hS : Sh L xs P S) (hM : qM P S = M) (ei1 : i1.toInt = qi1) (ei2 : i2.toInt = qi2) (ei3 : i3.toInt = qi3) : qs (zf_X18_let 20000 2156 i1 i2 i3 S) (qf_X18_let 20000 qi1 qi2 qi3 M) (tO (rr L xs P vu)) := by
  unfold zf_X18_let qf_X18_let
  refine qs_gr hS pl_2156 ts_2156 rfl ?_
  refine qs_gd (fun g4944 => ?_)
  refine qs_xi hM (pa_p hS pl_2297 ts_2297) ei2 g4944 (fun v4943 h4943 => ?_)
  refine qs_ite (c_eq h4943 k_2147483647) ?_ ?_
  · exact (qz_X18_let_J19 hS hM ei1 ei2 ei3)
  · refine qs_zi hS pl_2156 ts_2156 ?_
    refine qs_bp (qz_X18_isReleased hS hM ) (fun v4946 S4946 w4946 h4946 hS4946 hM4946 => ?_)
    refine qs_ite (c_eq h4946 k_0) ?_ ?_
    · refine qs_gr hS4946 pl_2156 ts_2156 rfl ?_
      refine qs_gd (fun g4949 => ?_)
      refine qs_xi hM4946 (pa_p hS4946 pl_2298 ts_2298) ei2 g4949 (fun v4948 h4948 => ?_)
      refine qs_gr hS4946 pl_2156 ts_2156 rfl ?_
      refine qs_gd (fun g4952 => ?_)
      refine qs_si hS4946 hM4946 (pa_p hS4946 pl_2299 ts_2299) (p_add (p_mul k_20 ei2) h4948) g4952 ei1 (fun S4951 M4951 hS4951 hM4951 => ?_)
      refine qs_gr hS4951 pl_2156 ts_2156 rfl ?_
      refine qs_gd (fun g4955 => ?_)
      refine qs_si hS4951 hM4951 (pa_p hS4951 pl_2300 ts_2300) (p_add (p_mul k_20 ei2) h4948) g4955 ei3 (fun S4954 M4954 hS4954 hM4954 => ?_)
      refine qs_gr hS4954 pl_2156 ts_2156 rfl ?_
      refine qs_gi hS4954 hM4954 pl_2156 ts_2156 (z := 2) rfl rfl (fun v4957 h4957 => ?_)
      refine qs_gd (fun g4959 => ?_)
      refine qs_si hS4954 hM4954 (pa_p hS4954 pl_2301 ts_2301) (p_add (p_mul k_20 ei2) h4948) g4959 (p_div h4957 k_60 (by decide)) (fun S4958 M4958 hS4958 hM4958 => ?_)
      refine qs_gr hS4958 pl_2156 ts_2156 rfl ?_
      refine qs_gd (fun g4962 => ?_)
      refine qs_xi hM4958 (pa_p hS4958 pl_2298 ts_2298) ei2 g4962 (fun v4961 h4961 => ?_)
      refine qs_gd (fun g4964 => ?_)
      refine qs_si hS4958 hM4958 (pa_p hS4958 pl_2298 ts_2298) ei2 g4964 (p_add h4961 k_1) (fun S4963 M4963 hS4963 hM4963 => ?_)
      exact qs_tr (show vu _ _ from trivial) hS4963 hM4963
    · exact (qz_X18_let_J19 hS4946 hM4946 ei1 ei2 ei3)
set_option maxRecDepth 20000 in
theorem qz_X18_ask_J103 {P : Nat → Nat} {S : zm_S} {M : qm} {i1 : Int32} {qi1 : Int} {i2 : Int32} {qi2 : Int} {i3 : Int32} {qi3 : Int} {t0 : Int32} {qt0 : Int} (hS : Sh L xs P S) (hM : qM P S = M) (ei1 : i1.toInt = qi1) (ei2 : i2.toInt = qi2) (ei3 : i3.toInt = qi3) (et0 : t0.toInt = qt0) : qs (zf_X18_ask_J103 20000 2156 i1 i2 i3 t0 S) (qf_X18_ask_J103 20000 qi1 qi2 qi3 qt0 M) (tO (rr L xs P vi)) := by
  unfold zf_X18_ask_J103 qf_X18_ask_J103
  refine qs_ite (c_eq et0 k_0) ?_ ?_
  · refine qs_zi hS pl_2156 ts_2156 ?_
    refine qs_b (qz_X18_let hS hM ei1 ei2 ei3) (fun v4966 S4966 w4966 M4966 h4966 hS4966 hM4966 => ?_)
    exact qs_tr (show vi _ _ from et0) hS4966 hM4966
  · exact qs_tr (show vi _ _ from et0) hS hM
set_option maxRecDepth 20000 in
theorem qz_X18_ask_J101 {P : Nat → Nat} {S : zm_S} {M : qm} {i1 : Int32} {qi1 : Int} {i2 : Int32} {qi2 : Int} {i3 : Int32} {qi3 : Int} {i5 : Int32} {qi5 : Int} (hS : Sh L xs P S) (hM : qM P S = M) (ei1 : i1.toInt = qi1) (ei2 : i2.toInt = qi2) (ei3 : i3.toInt = qi3) (ei5 : i5.toInt = qi5) : qs (zf_X18_ask_J101 20000 2156 i1 i2 i3 i5 S) (qf_X18_ask_J101 20000 qi1 qi2 qi3 qi5 M) (tO (rr L xs P vi)) := by
  unfold zf_X18_ask_J101 qf_X18_ask_J101
  exact (qz_X18_ask_J103 hS hM ei1 ei2 ei3 ei5)
set_option maxRecDepth 20000 in
theorem qz_X18_ask_J58 {P : Nat → Nat} {S : zm_S} {M : qm} {i1 : Int32} {qi1 : Int} {i2 : Int32} {qi2 : Int} {i3 : Int32} {qi3 : Int} {t1 : Int32} {qt1 : Int} {t2 : Int32} {qt2 : Int} (hS : Sh L xs P S) (hM : qM P S = M) (ei1 : i1.toInt = qi1) (ei2 : i2.toInt = qi2) (ei3 : i3.toInt = qi3) (et1 : t1.toInt = qt1) (et2 : t2.toInt = qt2) : qs (zf_X18_ask_J58 20000 2156 i1 i2 i3 2156 t1 t2 S) (qf_X18_ask_J58 20000 qi1 qi2 qi3 qt1 qt2 M) (tO (rr L xs P vi)) := by
  unfold zf_X18_ask_J58 qf_X18_ask_J58
  refine qs_zi hS pl_2156 ts_2156 ?_
  refine qs_b (qz_X18_goes hS hM et1 et2) (fun v4968 S4968 w4968 M4968 h4968 hS4968 hM4968 => ?_)
  refine qs_ite (c_eq h4968 k_0) ?_ ?_
  · exact qs_tr (show vi _ _ from k_0) hS4968 hM4968
  · refine qs_zi hS4968 pl_2156 ts_2156 ?_
    refine qs_bp (qz_X18_refused hS4968 hM4968 ei1 ei2 ei3) (fun v4970 S4970 w4970 h4970 hS4970 hM4970 => ?_)
    refine qs_ite (c_eq h4970 k_0) ?_ ?_
    · refine qs_gr hS4970 pl_2156 ts_2156 rfl ?_
      refine qs_gd (fun g4973 => ?_)
      refine qs_xi hM4970 (pa_p hS4970 pl_2294 ts_2294) ei2 g4973 (fun v4972 h4972 => ?_)
      refine qs_ite (c_eq h4972 k_0) ?_ ?_
      · exact (qz_X18_ask_J101 hS4970 hM4970 ei1 ei2 ei3 h4970)
      · refine qs_zi hS4970 pl_2156 ts_2156 ?_
        refine qs_bp (qz_X18_isReleased hS4970 hM4970 ) (fun v4975 S4975 w4975 h4975 hS4975 hM4975 => ?_)
        refine qs_ite (c_eq h4975 k_0) ?_ ?_
        · exact (qz_X18_ask_J103 hS4975 hM4975 ei1 ei2 ei3 k_7)
        · exact (qz_X18_ask_J101 hS4975 hM4975 ei1 ei2 ei3 h4970)
    · exact (qz_X18_ask_J101 hS4970 hM4970 ei1 ei2 ei3 h4970)
set_option maxRecDepth 20000 in
theorem qz_X18_ask_J57 {P : Nat → Nat} {S : zm_S} {M : qm} {i1 : Int32} {qi1 : Int} {i2 : Int32} {qi2 : Int} {i3 : Int32} {qi3 : Int} {t1 : Int32} {qt1 : Int} (hS : Sh L xs P S) (hM : qM P S = M) (ei1 : i1.toInt = qi1) (ei2 : i2.toInt = qi2) (ei3 : i3.toInt = qi3) (et1 : t1.toInt = qt1) : qs (zf_X18_ask_J57 20000 2156 i1 i2 i3 2156 t1 S) (qf_X18_ask_J57 20000 qi1 qi2 qi3 qt1 M) (tO (rr L xs P vi)) := by
  unfold zf_X18_ask_J57 qf_X18_ask_J57
  exact (qz_X18_ask_J58 hS hM ei1 ei2 ei3 et1 k_0)
set_option maxRecDepth 20000 in
theorem qz_X18_ask_J53 {P : Nat → Nat} {S : zm_S} {M : qm} {i1 : Int32} {qi1 : Int} {i2 : Int32} {qi2 : Int} {i3 : Int32} {qi3 : Int} {t1 : Int32} {qt1 : Int} (hS : Sh L xs P S) (hM : qM P S = M) (ei1 : i1.toInt = qi1) (ei2 : i2.toInt = qi2) (ei3 : i3.toInt = qi3) (et1 : t1.toInt = qt1) : qs (zf_X18_ask_J53 20000 2156 i1 i2 i3 2156 t1 S) (qf_X18_ask_J53 20000 qi1 qi2 qi3 qt1 M) (tO (rr L xs P vi)) := by
  unfold zf_X18_ask_J53 qf_X18_ask_J53
  exact (qz_X18_ask_J58 hS hM ei1 ei2 ei3 et1 k_1)
set_option maxRecDepth 20000 in
theorem qz_X18_ask_J25 {P : Nat → Nat} {S : zm_S} {M : qm} {i1 : Int32} {qi1 : Int} {i2 : Int32} {qi2 : Int} {i3 : Int32} {qi3 : Int} {t0 : Int32} {qt0 : Int} (hS : Sh L xs P S) (hM : qM P S = M) (ei1 : i1.toInt = qi1) (ei2 : i2.toInt = qi2) (ei3 : i3.toInt = qi3) (et0 : t0.toInt = qt0) : qs (zf_X18_ask_J25 20000 2156 i1 i2 i3 t0 S) (qf_X18_ask_J25 20000 qi1 qi2 qi3 qt0 M) (tO (rr L xs P vi)) := by
  unfold zf_X18_ask_J25 qf_X18_ask_J25
  refine qs_gi hS hM pl_2156 ts_2156 (z := 1) rfl rfl (fun v4976 h4976 => ?_)
  refine qs_ite (c_eq h4976 k_0) ?_ ?_
  · exact (qz_X18_ask_J57 hS hM ei1 ei2 ei3 et0)
  · refine qs_ite (c_eq et0 k_0) ?_ ?_
    · exact (qz_X18_ask_J53 hS hM ei1 ei2 ei3 et0)
    · refine qs_gr hS pl_2156 ts_2156 rfl ?_
      refine qs_gd (fun g4979 => ?_)
      refine qs_xi hM (pa_p hS pl_2298 ts_2298) ei2 g4979 (fun v4978 h4978 => ?_)
      refine qs_ite (c_le k_20 h4978) ?_ ?_
      · exact (qz_X18_ask_J57 hS hM ei1 ei2 ei3 et0)
      · exact (qz_X18_ask_J53 hS hM ei1 ei2 ei3 et0)
set_option maxRecDepth 20000 in
theorem qz_X18_ask_J24 {P : Nat → Nat} {S : zm_S} {M : qm} {i1 : Int32} {qi1 : Int} {i2 : Int32} {qi2 : Int} {i3 : Int32} {qi3 : Int} (hS : Sh L xs P S) (hM : qM P S = M) (ei1 : i1.toInt = qi1) (ei2 : i2.toInt = qi2) (ei3 : i3.toInt = qi3) : qs (zf_X18_ask_J24 20000 2156 i1 i2 i3 S) (qf_X18_ask_J24 20000 qi1 qi2 qi3 M) (tO (rr L xs P vi)) := by
  unfold zf_X18_ask_J24 qf_X18_ask_J24
  exact (qz_X18_ask_J25 hS hM ei1 ei2 ei3 k_0)
set_option maxRecDepth 20000 in
theorem qz_X18_isOf {P : Nat → Nat} {S : zm_S} {M : qm} {i1 : Int32} {qi1 : Int} {i2 : Int32} {qi2 : Int} (hS : Sh L xs P S) (hM : qM P S = M) (ei1 : i1.toInt = qi1) (ei2 : i2.toInt = qi2) : qs (zf_X18_isOf 20000 2156 i1 i2 S) (qf_X18_isOf 20000 qi1 qi2 M) (tO (rp L xs P M vi)) := by
  unfold zf_X18_isOf qf_X18_isOf
  refine qs_gi hS hM pl_2156 ts_2156 (z := 10) rfl rfl (fun v4980 h4980 => ?_)
  refine qs_bp (qz_X18_isIn hS hM ei1 h4980) (fun v4981 S4981 w4981 h4981 hS4981 hM4981 => ?_)
  refine qs_ite (c_eq h4981 k_0) ?_ ?_
  · exact qs_tp (show vi _ _ from k_0) hS4981 hM4981
  · refine qs_gi hS4981 hM4981 pl_2156 ts_2156 (z := 9) rfl rfl (fun v4982 h4982 => ?_)
    refine qs_bp (qz_X18_isIn hS4981 hM4981 ei2 (p_add h4982 k_1)) (fun v4983 S4983 w4983 h4983 hS4983 hM4983 => ?_)
    refine qs_ite (c_eq h4983 k_0) ?_ ?_
    · exact qs_tp (show vi _ _ from k_0) hS4983 hM4983
    · refine qs_gr hS4983 pl_2156 ts_2156 rfl ?_
      refine qs_gd (fun g4986 => ?_)
      refine qs_xi hM4983 (pa_p hS4983 pl_2289 ts_2289) ei1 g4986 (fun v4985 h4985 => ?_)
      refine qs_ite (c_eq h4985 ei2) ?_ ?_
      · exact qs_tp (show vi _ _ from k_1) hS4983 hM4983
      · refine qs_gr hS4983 pl_2156 ts_2156 rfl ?_
        refine qs_gd (fun g4989 => ?_)
        refine qs_xi hM4983 (pa_p hS4983 pl_2290 ts_2290) ei1 g4989 (fun v4988 h4988 => ?_)
        refine qs_ite (c_eq h4988 ei2) ?_ ?_
        · exact qs_tp (show vi _ _ from k_1) hS4983 hM4983
        · exact qs_tp (show vi _ _ from k_0) hS4983 hM4983
set_option maxRecDepth 20000 in
theorem qz_X18_ask {P : Nat → Nat} {S : zm_S} {M : qm} {i1 : Int32} {qi1 : Int} {i2 : Int32} {qi2 : Int} {i3 : Int32} {qi3 : Int} (hS : Sh L xs P S) (hM : qM P S = M) (ei1 : i1.toInt = qi1) (ei2 : i2.toInt = qi2) (ei3 : i3.toInt = qi3) : qs (zf_X18_ask 20000 2156 i1 i2 i3 S) (qf_X18_ask 20000 qi1 qi2 qi3 M) (tO (rr L xs P vi)) := by
  unfold zf_X18_ask qf_X18_ask
  refine qs_gi hS hM pl_2156 ts_2156 (z := 36) rfl rfl (fun v4990 h4990 => ?_)
  refine qs_bp (qz_X18_isIn hS hM ei1 h4990) (fun v4991 S4991 w4991 h4991 hS4991 hM4991 => ?_)
  refine qs_ite (c_eq h4991 k_0) ?_ ?_
  · exact (qz_X18_ask_J24 hS4991 hM4991 ei1 ei2 ei3)
  · refine qs_zi hS4991 pl_2156 ts_2156 ?_
    refine qs_bp (qz_X18_isOf hS4991 hM4991 ei2 ei3) (fun v4993 S4993 w4993 h4993 hS4993 hM4993 => ?_)
    refine qs_ite (c_eq h4993 k_0) ?_ ?_
    · exact (qz_X18_ask_J24 hS4993 hM4993 ei1 ei2 ei3)
    · exact (qz_X18_ask_J25 hS4993 hM4993 ei1 ei2 ei3 k_1)
set_option maxRecDepth 20000 in
theorem qz_X0_askTwo_J60 {P : Nat → Nat} {S : zm_S} {M : qm} {i1 : Int32} {qi1 : Int} {i2 : Int32} {qi2 : Int} {i3 : Int32} {qi3 : Int} {i4 : Int32} {qi4 : Int} {i5 : Int32} {qi5 : Int} (hS : Sh L xs P S) (hM : qM P S = M) (ei1 : i1.toInt = qi1) (ei2 : i2.toInt = qi2) (ei3 : i3.toInt = qi3) (ei4 : i4.toInt = qi4) (ei5 : i5.toInt = qi5) : qs (zf_X0_askTwo_J60 20000 824 i1 i2 i3 i4 i5 S) (qf_X0_askTwo_J60 20000 qi1 qi2 qi3 qi4 qi5 M) (tO (rr L xs P vi)) := by
  unfold zf_X0_askTwo_J60 qf_X0_askTwo_J60
  refine qs_ite (c_eq ei5 k_0) ?_ ?_
  · refine qs_zi hS pl_824 ts_824 ?_
    refine qs_b (qz_X0_letIn hS hM ei1 ei3 ei4) (fun v4995 S4995 w4995 M4995 h4995 hS4995 hM4995 => ?_)
    refine qs_zi hS4995 pl_824 ts_824 ?_
    refine qs_b (qz_X0_letIn hS4995 hM4995 ei2 ei3 ei4) (fun v4997 S4997 w4997 M4997 h4997 hS4997 hM4997 => ?_)
    exact qs_tr (show vi _ _ from ei5) hS4997 hM4997
  · exact qs_tr (show vi _ _ from ei5) hS hM
set_option maxRecDepth 20000 in
theorem qz_X0_askTwo_J25 {P : Nat → Nat} {S : zm_S} {M : qm} {i1 : Int32} {qi1 : Int} {i2 : Int32} {qi2 : Int} {i3 : Int32} {qi3 : Int} {i4 : Int32} {qi4 : Int} {i5 : Int32} {qi5 : Int} (hS : Sh L xs P S) (hM : qM P S = M) (ei1 : i1.toInt = qi1) (ei2 : i2.toInt = qi2) (ei3 : i3.toInt = qi3) (ei4 : i4.toInt = qi4) (ei5 : i5.toInt = qi5) : qs (zf_X0_askTwo_J25 20000 824 i1 i2 i3 i4 i5 S) (qf_X0_askTwo_J25 20000 qi1 qi2 qi3 qi4 qi5 M) (tO (rr L xs P vi)) := by
  unfold zf_X0_askTwo_J25 qf_X0_askTwo_J25
  refine qs_ite (c_eq ei5 k_0) ?_ ?_
  · refine qs_gi hS hM pl_824 ts_824 (z := 18) rfl rfl (fun v4998 h4998 => ?_)
    refine qs_ite (c_eq h4998 k_0) ?_ ?_
    · refine qs_gr hS pl_824 ts_824 rfl ?_
      refine qs_gd (fun g5001 => ?_)
      refine qs_xt hS pl_828 ts_828 (Or.inl rfl) ei1 g5001 (fun b5000 r5000 => ?_)
      refine qs_yi (j := 0) hS hM qt_828 tq_828 r5000 k_0 (by decide) (fun v5002 h5002 => ?_)
      refine qs_gr hS pl_824 ts_824 rfl ?_
      refine qs_gd (fun g5005 => ?_)
      refine qs_xt hS pl_828 ts_828 (Or.inl rfl) ei2 g5005 (fun b5004 r5004 => ?_)
      refine qs_yi (j := 0) hS hM qt_828 tq_828 r5004 k_0 (by decide) (fun v5006 h5006 => ?_)
      refine qs_ite (c_eq h5002 h5006) ?_ ?_
      · exact (qz_X0_askTwo_J60 hS hM ei1 ei2 ei3 ei4 k_8)
      · exact (qz_X0_askTwo_J60 hS hM ei1 ei2 ei3 ei4 ei5)
    · exact (qz_X0_askTwo_J60 hS hM ei1 ei2 ei3 ei4 ei5)
  · exact (qz_X0_askTwo_J60 hS hM ei1 ei2 ei3 ei4 ei5)
set_option maxRecDepth 20000 in
theorem qz_X0_askTwo {P : Nat → Nat} {S : zm_S} {M : qm} {i1 : Int32} {qi1 : Int} {i2 : Int32} {qi2 : Int} {i3 : Int32} {qi3 : Int} {i4 : Int32} {qi4 : Int} (hS : Sh L xs P S) (hM : qM P S = M) (ei1 : i1.toInt = qi1) (ei2 : i2.toInt = qi2) (ei3 : i3.toInt = qi3) (ei4 : i4.toInt = qi4) : qs (zf_X0_askTwo 20000 824 i1 i2 i3 i4 S) (qf_X0_askTwo 20000 qi1 qi2 qi3 qi4 M) (tO (rr L xs P vi)) := by
  unfold zf_X0_askTwo qf_X0_askTwo
  refine qs_zi hS pl_824 ts_824 ?_
  refine qs_bp (qz_X0_refusal hS hM ei1 ei3 ei4) (fun v5008 S5008 w5008 h5008 hS5008 hM5008 => ?_)
  refine qs_ite (c_eq h5008 k_0) ?_ ?_
  · refine qs_zi hS5008 pl_824 ts_824 ?_
    refine qs_bp (qz_X0_refusal hS5008 hM5008 ei2 ei3 ei4) (fun v5010 S5010 w5010 h5010 hS5010 hM5010 => ?_)
    exact (qz_X0_askTwo_J25 hS5010 hM5010 ei1 ei2 ei3 ei4 h5010)
  · exact (qz_X0_askTwo_J25 hS5008 hM5008 ei1 ei2 ei3 ei4 h5008)
set_option maxRecDepth 20000 in
theorem qz_X11_both_J82 {P : Nat → Nat} {S : zm_S} {M : qm} {i1 : Int32} {qi1 : Int} {i2 : Int32} {qi2 : Int} {i3 : Int32} {qi3 : Int} {i4 : Int32} {qi4 : Int} {t0 : Int32} {qt0 : Int} (hS : Sh L xs P S) (hM : qM P S = M) (ei1 : i1.toInt = qi1) (ei2 : i2.toInt = qi2) (ei3 : i3.toInt = qi3) (ei4 : i4.toInt = qi4) (et0 : t0.toInt = qt0) : qs (zf_X11_both_J82 20000 6 i1 i2 i3 i4 t0 S) (qf_X11_both_J82 20000 qi1 qi2 qi3 qi4 qt0 M) (tO (rr L xs P (vs vi ve))) := by
  unfold zf_X11_both_J82 qf_X11_both_J82
  refine qs_xp (qz_X11_needState hS hM et0) ?_ ?_
  · intro v5012 S5012 w5012 h5012 hS5012 hM5012
    dsimp only
    refine qs_gr hS5012 pl_6 ts_6 rfl ?_
    refine qs_gi hS5012 hM5012 pl_6 ts_6 (z := 12) rfl rfl (fun v5014 h5014 => ?_)
    refine qs_zi hS5012 pl_6 ts_6 ?_
    refine qs_bp (qz_X11_isReleased hS5012 hM5012 ) (fun v5016 S5016 w5016 h5016 hS5016 hM5016 => ?_)
    refine qs_zi hS5016 pl_824 ts_824 ?_
    refine qs_b (qz_X0_setMoment hS5016 hM5016 h5014 h5016) (fun v5018 S5018 w5018 M5018 h5018 hS5018 hM5018 => ?_)
    refine qs_gr hS5018 pl_6 ts_6 rfl ?_
    refine qs_zi hS5018 pl_824 ts_824 ?_
    refine qs_b (qz_X0_askTwo hS5018 hM5018 ei1 ei2 ei3 ei4) (fun v5021 S5021 w5021 M5021 h5021 hS5021 hM5021 => ?_)
    exact qs_tr (show (vs vi ve) _ _ from h5021) hS5021 hM5021
  · intro v5012 S5012 hS5012 hM5012
    dsimp only
    exact qs_tr (show (vs vi ve) _ _ from rfl) hS5012 hM5012
set_option maxRecDepth 20000 in
theorem qz_X11_both_J81 {P : Nat → Nat} {S : zm_S} {M : qm} {i1 : Int32} {qi1 : Int} {i2 : Int32} {qi2 : Int} {i3 : Int32} {qi3 : Int} {i4 : Int32} {qi4 : Int} (hS : Sh L xs P S) (hM : qM P S = M) (ei1 : i1.toInt = qi1) (ei2 : i2.toInt = qi2) (ei3 : i3.toInt = qi3) (ei4 : i4.toInt = qi4) : qs (zf_X11_both_J81 20000 6 i1 i2 i3 i4 S) (qf_X11_both_J81 20000 qi1 qi2 qi3 qi4 M) (tO (rr L xs P (vs vi ve))) := by
  unfold zf_X11_both_J81 qf_X11_both_J81
  exact (qz_X11_both_J82 hS hM ei1 ei2 ei3 ei4 k_0)
set_option maxRecDepth 20000 in
theorem qz_X11_both_J55 {P : Nat → Nat} {S : zm_S} {M : qm} {i1 : Int32} {qi1 : Int} {i2 : Int32} {qi2 : Int} {i3 : Int32} {qi3 : Int} {i4 : Int32} {qi4 : Int} {t0 : Int32} {qt0 : Int} (hS : Sh L xs P S) (hM : qM P S = M) (ei1 : i1.toInt = qi1) (ei2 : i2.toInt = qi2) (ei3 : i3.toInt = qi3) (ei4 : i4.toInt = qi4) (et0 : t0.toInt = qt0) : qs (zf_X11_both_J55 20000 6 i1 i2 i3 i4 t0 S) (qf_X11_both_J55 20000 qi1 qi2 qi3 qi4 qt0 M) (tO (rr L xs P (vs vi ve))) := by
  unfold zf_X11_both_J55 qf_X11_both_J55
  refine qs_xp (qz_X11_needArgument hS hM et0) ?_ ?_
  · intro v5023 S5023 w5023 h5023 hS5023 hM5023
    dsimp only
    refine qs_gi hS5023 hM5023 pl_6 ts_6 (z := 11) rfl rfl (fun v5024 h5024 => ?_)
    refine qs_ite (c_eq h5024 k_0) ?_ ?_
    · exact (qz_X11_both_J81 hS5023 hM5023 ei1 ei2 ei3 ei4)
    · refine qs_gr hS5023 pl_6 ts_6 rfl ?_
      refine qs_zi hS5023 pl_824 ts_824 ?_
      refine qs_bp (qz_X0_hasRoomForRows hS5023 hM5023 ei3 k_2) (fun v5027 S5027 w5027 h5027 hS5027 hM5027 => ?_)
      refine qs_ite (c_eq h5027 k_0) ?_ ?_
      · exact (qz_X11_both_J81 hS5027 hM5027 ei1 ei2 ei3 ei4)
      · exact (qz_X11_both_J82 hS5027 hM5027 ei1 ei2 ei3 ei4 k_1)
  · intro v5023 S5023 hS5023 hM5023
    dsimp only
    exact qs_tr (show (vs vi ve) _ _ from rfl) hS5023 hM5023
set_option maxRecDepth 20000 in
theorem qz_X11_both_J54 {P : Nat → Nat} {S : zm_S} {M : qm} {i1 : Int32} {qi1 : Int} {i2 : Int32} {qi2 : Int} {i3 : Int32} {qi3 : Int} {i4 : Int32} {qi4 : Int} (hS : Sh L xs P S) (hM : qM P S = M) (ei1 : i1.toInt = qi1) (ei2 : i2.toInt = qi2) (ei3 : i3.toInt = qi3) (ei4 : i4.toInt = qi4) : qs (zf_X11_both_J54 20000 6 i1 i2 i3 i4 S) (qf_X11_both_J54 20000 qi1 qi2 qi3 qi4 M) (tO (rr L xs P (vs vi ve))) := by
  unfold zf_X11_both_J54 qf_X11_both_J54
  exact (qz_X11_both_J55 hS hM ei1 ei2 ei3 ei4 k_0)
set_option maxRecDepth 20000 in
theorem qz_X11_both_J26 {P : Nat → Nat} {S : zm_S} {M : qm} {i1 : Int32} {qi1 : Int} {i2 : Int32} {qi2 : Int} {i3 : Int32} {qi3 : Int} {i4 : Int32} {qi4 : Int} {t0 : Int32} {qt0 : Int} (hS : Sh L xs P S) (hM : qM P S = M) (ei1 : i1.toInt = qi1) (ei2 : i2.toInt = qi2) (ei3 : i3.toInt = qi3) (ei4 : i4.toInt = qi4) (et0 : t0.toInt = qt0) : qs (zf_X11_both_J26 20000 6 i1 i2 i3 i4 t0 S) (qf_X11_both_J26 20000 qi1 qi2 qi3 qi4 qt0 M) (tO (rr L xs P (vs vi ve))) := by
  unfold zf_X11_both_J26 qf_X11_both_J26
  refine qs_xp (qz_X11_needArgument hS hM et0) ?_ ?_
  · intro v5029 S5029 w5029 h5029 hS5029 hM5029
    dsimp only
    refine qs_zi hS5029 pl_6 ts_6 ?_
    refine qs_bp (qz_X11_isPortal hS5029 hM5029 ei3) (fun v5031 S5031 w5031 h5031 hS5031 hM5031 => ?_)
    refine qs_ite (c_eq h5031 k_0) ?_ ?_
    · exact (qz_X11_both_J54 hS5031 hM5031 ei1 ei2 ei3 ei4)
    · refine qs_gr hS5031 pl_6 ts_6 rfl ?_
      refine qs_zi hS5031 pl_824 ts_824 ?_
      refine qs_bp (qz_X0_isRoomOf hS5031 hM5031 ei3 ei4) (fun v5034 S5034 w5034 h5034 hS5034 hM5034 => ?_)
      refine qs_ite (c_eq h5034 k_0) ?_ ?_
      · exact (qz_X11_both_J54 hS5034 hM5034 ei1 ei2 ei3 ei4)
      · exact (qz_X11_both_J55 hS5034 hM5034 ei1 ei2 ei3 ei4 k_1)
  · intro v5029 S5029 hS5029 hM5029
    dsimp only
    exact qs_tr (show (vs vi ve) _ _ from rfl) hS5029 hM5029
set_option maxRecDepth 20000 in
theorem qz_X11_both_J25 {P : Nat → Nat} {S : zm_S} {M : qm} {i1 : Int32} {qi1 : Int} {i2 : Int32} {qi2 : Int} {i3 : Int32} {qi3 : Int} {i4 : Int32} {qi4 : Int} (hS : Sh L xs P S) (hM : qM P S = M) (ei1 : i1.toInt = qi1) (ei2 : i2.toInt = qi2) (ei3 : i3.toInt = qi3) (ei4 : i4.toInt = qi4) : qs (zf_X11_both_J25 20000 6 i1 i2 i3 i4 S) (qf_X11_both_J25 20000 qi1 qi2 qi3 qi4 M) (tO (rr L xs P (vs vi ve))) := by
  unfold zf_X11_both_J25 qf_X11_both_J25
  exact (qz_X11_both_J26 hS hM ei1 ei2 ei3 ei4 k_0)
set_option maxRecDepth 20000 in
theorem qz_X11_both {P : Nat → Nat} {S : zm_S} {M : qm} {i1 : Int32} {qi1 : Int} {i2 : Int32} {qi2 : Int} {i3 : Int32} {qi3 : Int} {i4 : Int32} {qi4 : Int} (hS : Sh L xs P S) (hM : qM P S = M) (ei1 : i1.toInt = qi1) (ei2 : i2.toInt = qi2) (ei3 : i3.toInt = qi3) (ei4 : i4.toInt = qi4) : qs (zf_X11_both 20000 6 i1 i2 i3 i4 S) (qf_X11_both 20000 qi1 qi2 qi3 qi4 M) (tO (rr L xs P (vs vi ve))) := by
  unfold zf_X11_both qf_X11_both
  refine qs_zi hS pl_6 ts_6 ?_
  refine qs_bp (qz_X11_isCard hS hM ei1) (fun v5036 S5036 w5036 h5036 hS5036 hM5036 => ?_)
  refine qs_ite (c_eq h5036 k_0) ?_ ?_
  · exact (qz_X11_both_J25 hS5036 hM5036 ei1 ei2 ei3 ei4)
  · refine qs_zi hS5036 pl_6 ts_6 ?_
    refine qs_bp (qz_X11_isCard hS5036 hM5036 ei2) (fun v5038 S5038 w5038 h5038 hS5038 hM5038 => ?_)
    refine qs_ite (c_eq h5038 k_0) ?_ ?_
    · exact (qz_X11_both_J25 hS5038 hM5038 ei1 ei2 ei3 ei4)
    · refine qs_ite (c_eq ei1 ei2) ?_ ?_
      · exact (qz_X11_both_J25 hS5038 hM5038 ei1 ei2 ei3 ei4)
      · exact (qz_X11_both_J26 hS5038 hM5038 ei1 ei2 ei3 ei4 k_1)
set_option maxRecDepth 20000 in
theorem qz_L_both {P : Nat → Nat} {S : zm_S} {M : qm} {i1 : Int32} {qi1 : Int} {i2 : Int32} {qi2 : Int} {i3 : Int32} {qi3 : Int} {i4 : Int32} {qi4 : Int} (hS : Sh L xs P S) (hM : qM P S = M) (ei1 : i1.toInt = qi1) (ei2 : i2.toInt = qi2) (ei3 : i3.toInt = qi3) (ei4 : i4.toInt = qi4) : qs (zf_L_both 20000 6 i1 i2 i3 i4 2332 S) (qf_L_both 20000 qi1 qi2 qi3 qi4 M) (tO (rr L xs P vi)) := by
  unfold zf_L_both qf_L_both
  refine qs_zi hS pl_6 ts_6 ?_
  refine qs_xr (qz_X11_both hS hM ei1 ei2 ei3 ei4) ?_ ?_
  · intro v5041 S5041 w5041 M5041 h5041 hS5041 hM5041
    dsimp only
    refine qs_sl hS5041 hM5041 (pa_p hS5041 pl_2332 ts_2332) k_0 (by decide) (p_64 h5041) (fun S5042 M5042 hS5042 hM5042 => ?_)
    exact qs_tr (show vi _ _ from k_0) hS5042 hM5042
  · intro v5041 S5041 M5041 hS5041 hM5041
    dsimp only
    refine qs_ite Iff.rfl ?_ ?_
    · exact qs_tr (show vi _ _ from k_1) hS5041 hM5041
    · refine qs_ite Iff.rfl ?_ ?_
      · exact qs_tr (show vi _ _ from k_2) hS5041 hM5041
      · exact qs_none
set_option maxRecDepth 20000 in
theorem qz_X18_both_J147 {P : Nat → Nat} {S : zm_S} {M : qm} {i1 : Int32} {qi1 : Int} {i2 : Int32} {qi2 : Int} {i3 : Int32} {qi3 : Int} {i4 : Int32} {qi4 : Int} {t0 : Int32} {qt0 : Int} (hS : Sh L xs P S) (hM : qM P S = M) (ei1 : i1.toInt = qi1) (ei2 : i2.toInt = qi2) (ei3 : i3.toInt = qi3) (ei4 : i4.toInt = qi4) (et0 : t0.toInt = qt0) : qs (zf_X18_both_J147 20000 2156 i1 i2 i3 i4 t0 S) (qf_X18_both_J147 20000 qi1 qi2 qi3 qi4 qt0 M) (tO (rr L xs P vi)) := by
  unfold zf_X18_both_J147 qf_X18_both_J147
  refine qs_ite (c_eq et0 k_0) ?_ ?_
  · refine qs_zi hS pl_2156 ts_2156 ?_
    refine qs_b (qz_X18_let hS hM ei1 ei3 ei4) (fun v5044 S5044 w5044 M5044 h5044 hS5044 hM5044 => ?_)
    refine qs_zi hS5044 pl_2156 ts_2156 ?_
    refine qs_b (qz_X18_let hS5044 hM5044 ei2 ei3 ei4) (fun v5046 S5046 w5046 M5046 h5046 hS5046 hM5046 => ?_)
    exact qs_tr (show vi _ _ from et0) hS5046 hM5046
  · exact qs_tr (show vi _ _ from et0) hS hM
set_option maxRecDepth 20000 in
theorem qz_X18_both_J145 {P : Nat → Nat} {S : zm_S} {M : qm} {i1 : Int32} {qi1 : Int} {i2 : Int32} {qi2 : Int} {i3 : Int32} {qi3 : Int} {i4 : Int32} {qi4 : Int} {i6 : Int32} {qi6 : Int} (hS : Sh L xs P S) (hM : qM P S = M) (ei1 : i1.toInt = qi1) (ei2 : i2.toInt = qi2) (ei3 : i3.toInt = qi3) (ei4 : i4.toInt = qi4) (ei6 : i6.toInt = qi6) : qs (zf_X18_both_J145 20000 2156 i1 i2 i3 i4 i6 S) (qf_X18_both_J145 20000 qi1 qi2 qi3 qi4 qi6 M) (tO (rr L xs P vi)) := by
  unfold zf_X18_both_J145 qf_X18_both_J145
  exact (qz_X18_both_J147 hS hM ei1 ei2 ei3 ei4 ei6)
set_option maxRecDepth 20000 in
theorem qz_X18_both_J111 {P : Nat → Nat} {S : zm_S} {M : qm} {i1 : Int32} {qi1 : Int} {i2 : Int32} {qi2 : Int} {i3 : Int32} {qi3 : Int} {i4 : Int32} {qi4 : Int} {t0 : Int32} {qt0 : Int} (hS : Sh L xs P S) (hM : qM P S = M) (ei1 : i1.toInt = qi1) (ei2 : i2.toInt = qi2) (ei3 : i3.toInt = qi3) (ei4 : i4.toInt = qi4) (et0 : t0.toInt = qt0) : qs (zf_X18_both_J111 20000 2156 i1 i2 i3 i4 t0 S) (qf_X18_both_J111 20000 qi1 qi2 qi3 qi4 qt0 M) (tO (rr L xs P vi)) := by
  unfold zf_X18_both_J111 qf_X18_both_J111
  refine qs_ite (c_eq et0 k_0) ?_ ?_
  · refine qs_gr hS pl_2156 ts_2156 rfl ?_
    refine qs_gd (fun g5049 => ?_)
    refine qs_xi hM (pa_p hS pl_2312 ts_2312) ei1 g5049 (fun v5048 h5048 => ?_)
    refine qs_gr hS pl_2156 ts_2156 rfl ?_
    refine qs_gd (fun g5052 => ?_)
    refine qs_xi hM (pa_p hS pl_2312 ts_2312) ei2 g5052 (fun v5051 h5051 => ?_)
    refine qs_ite (c_eq h5048 h5051) ?_ ?_
    · refine qs_zi hS pl_2156 ts_2156 ?_
      refine qs_bp (qz_X18_isReleased hS hM ) (fun v5054 S5054 w5054 h5054 hS5054 hM5054 => ?_)
      refine qs_ite (c_eq h5054 k_0) ?_ ?_
      · exact (qz_X18_both_J147 hS5054 hM5054 ei1 ei2 ei3 ei4 k_8)
      · exact (qz_X18_both_J145 hS5054 hM5054 ei1 ei2 ei3 ei4 et0)
    · exact (qz_X18_both_J145 hS hM ei1 ei2 ei3 ei4 et0)
  · exact (qz_X18_both_J145 hS hM ei1 ei2 ei3 ei4 et0)
set_option maxRecDepth 20000 in
theorem qz_X18_both_J75 {P : Nat → Nat} {S : zm_S} {M : qm} {i1 : Int32} {qi1 : Int} {i2 : Int32} {qi2 : Int} {i3 : Int32} {qi3 : Int} {i4 : Int32} {qi4 : Int} {t1 : Int32} {qt1 : Int} {t2 : Int32} {qt2 : Int} (hS : Sh L xs P S) (hM : qM P S = M) (ei1 : i1.toInt = qi1) (ei2 : i2.toInt = qi2) (ei3 : i3.toInt = qi3) (ei4 : i4.toInt = qi4) (et1 : t1.toInt = qt1) (et2 : t2.toInt = qt2) : qs (zf_X18_both_J75 20000 2156 i1 i2 i3 i4 2156 t1 t2 S) (qf_X18_both_J75 20000 qi1 qi2 qi3 qi4 qt1 qt2 M) (tO (rr L xs P vi)) := by
  unfold zf_X18_both_J75 qf_X18_both_J75
  refine qs_zi hS pl_2156 ts_2156 ?_
  refine qs_b (qz_X18_goes hS hM et1 et2) (fun v5056 S5056 w5056 M5056 h5056 hS5056 hM5056 => ?_)
  refine qs_ite (c_eq h5056 k_0) ?_ ?_
  · exact qs_tr (show vi _ _ from k_0) hS5056 hM5056
  · refine qs_zi hS5056 pl_2156 ts_2156 ?_
    refine qs_bp (qz_X18_refused hS5056 hM5056 ei1 ei3 ei4) (fun v5058 S5058 w5058 h5058 hS5058 hM5058 => ?_)
    refine qs_ite (c_le h5058 k_0) ?_ ?_
    · refine qs_zi hS5058 pl_2156 ts_2156 ?_
      refine qs_bp (qz_X18_refused hS5058 hM5058 ei2 ei3 ei4) (fun v5060 S5060 w5060 h5060 hS5060 hM5060 => ?_)
      exact (qz_X18_both_J111 hS5060 hM5060 ei1 ei2 ei3 ei4 h5060)
    · exact (qz_X18_both_J111 hS5058 hM5058 ei1 ei2 ei3 ei4 h5058)
set_option maxRecDepth 20000 in
theorem qz_X18_both_J74 {P : Nat → Nat} {S : zm_S} {M : qm} {i1 : Int32} {qi1 : Int} {i2 : Int32} {qi2 : Int} {i3 : Int32} {qi3 : Int} {i4 : Int32} {qi4 : Int} {t1 : Int32} {qt1 : Int} (hS : Sh L xs P S) (hM : qM P S = M) (ei1 : i1.toInt = qi1) (ei2 : i2.toInt = qi2) (ei3 : i3.toInt = qi3) (ei4 : i4.toInt = qi4) (et1 : t1.toInt = qt1) : qs (zf_X18_both_J74 20000 2156 i1 i2 i3 i4 2156 t1 S) (qf_X18_both_J74 20000 qi1 qi2 qi3 qi4 qt1 M) (tO (rr L xs P vi)) := by
  unfold zf_X18_both_J74 qf_X18_both_J74
  exact (qz_X18_both_J75 hS hM ei1 ei2 ei3 ei4 et1 k_0)
set_option maxRecDepth 20000 in
theorem qz_X18_both_J70 {P : Nat → Nat} {S : zm_S} {M : qm} {i1 : Int32} {qi1 : Int} {i2 : Int32} {qi2 : Int} {i3 : Int32} {qi3 : Int} {i4 : Int32} {qi4 : Int} {t1 : Int32} {qt1 : Int} (hS : Sh L xs P S) (hM : qM P S = M) (ei1 : i1.toInt = qi1) (ei2 : i2.toInt = qi2) (ei3 : i3.toInt = qi3) (ei4 : i4.toInt = qi4) (et1 : t1.toInt = qt1) : qs (zf_X18_both_J70 20000 2156 i1 i2 i3 i4 2156 t1 S) (qf_X18_both_J70 20000 qi1 qi2 qi3 qi4 qt1 M) (tO (rr L xs P vi)) := by
  unfold zf_X18_both_J70 qf_X18_both_J70
  exact (qz_X18_both_J75 hS hM ei1 ei2 ei3 ei4 et1 k_1)
set_option maxRecDepth 20000 in
theorem qz_X18_both_J42 {P : Nat → Nat} {S : zm_S} {M : qm} {i1 : Int32} {qi1 : Int} {i2 : Int32} {qi2 : Int} {i3 : Int32} {qi3 : Int} {i4 : Int32} {qi4 : Int} {t0 : Int32} {qt0 : Int} (hS : Sh L xs P S) (hM : qM P S = M) (ei1 : i1.toInt = qi1) (ei2 : i2.toInt = qi2) (ei3 : i3.toInt = qi3) (ei4 : i4.toInt = qi4) (et0 : t0.toInt = qt0) : qs (zf_X18_both_J42 20000 2156 i1 i2 i3 i4 t0 S) (qf_X18_both_J42 20000 qi1 qi2 qi3 qi4 qt0 M) (tO (rr L xs P vi)) := by
  unfold zf_X18_both_J42 qf_X18_both_J42
  refine qs_gi hS hM pl_2156 ts_2156 (z := 1) rfl rfl (fun v5061 h5061 => ?_)
  refine qs_ite (c_eq h5061 k_0) ?_ ?_
  · exact (qz_X18_both_J74 hS hM ei1 ei2 ei3 ei4 et0)
  · refine qs_ite (c_eq et0 k_0) ?_ ?_
    · exact (qz_X18_both_J70 hS hM ei1 ei2 ei3 ei4 et0)
    · refine qs_gr hS pl_2156 ts_2156 rfl ?_
      refine qs_gd (fun g5064 => ?_)
      refine qs_xi hM (pa_p hS pl_2298 ts_2298) ei3 g5064 (fun v5063 h5063 => ?_)
      refine qs_ite (c_le k_19 h5063) ?_ ?_
      · exact (qz_X18_both_J74 hS hM ei1 ei2 ei3 ei4 et0)
      · exact (qz_X18_both_J70 hS hM ei1 ei2 ei3 ei4 et0)
set_option maxRecDepth 20000 in
theorem qz_X18_both_J41 {P : Nat → Nat} {S : zm_S} {M : qm} {i1 : Int32} {qi1 : Int} {i2 : Int32} {qi2 : Int} {i3 : Int32} {qi3 : Int} {i4 : Int32} {qi4 : Int} (hS : Sh L xs P S) (hM : qM P S = M) (ei1 : i1.toInt = qi1) (ei2 : i2.toInt = qi2) (ei3 : i3.toInt = qi3) (ei4 : i4.toInt = qi4) : qs (zf_X18_both_J41 20000 2156 i1 i2 i3 i4 S) (qf_X18_both_J41 20000 qi1 qi2 qi3 qi4 M) (tO (rr L xs P vi)) := by
  unfold zf_X18_both_J41 qf_X18_both_J41
  exact (qz_X18_both_J42 hS hM ei1 ei2 ei3 ei4 k_0)
set_option maxRecDepth 20000 in
theorem qz_X18_both {P : Nat → Nat} {S : zm_S} {M : qm} {i1 : Int32} {qi1 : Int} {i2 : Int32} {qi2 : Int} {i3 : Int32} {qi3 : Int} {i4 : Int32} {qi4 : Int} (hS : Sh L xs P S) (hM : qM P S = M) (ei1 : i1.toInt = qi1) (ei2 : i2.toInt = qi2) (ei3 : i3.toInt = qi3) (ei4 : i4.toInt = qi4) : qs (zf_X18_both 20000 2156 i1 i2 i3 i4 S) (qf_X18_both 20000 qi1 qi2 qi3 qi4 M) (tO (rr L xs P vi)) := by
  unfold zf_X18_both qf_X18_both
  refine qs_gi hS hM pl_2156 ts_2156 (z := 36) rfl rfl (fun v5065 h5065 => ?_)
  refine qs_bp (qz_X18_isIn hS hM ei1 h5065) (fun v5066 S5066 w5066 h5066 hS5066 hM5066 => ?_)
  refine qs_ite (c_eq h5066 k_0) ?_ ?_
  · exact (qz_X18_both_J41 hS5066 hM5066 ei1 ei2 ei3 ei4)
  · refine qs_gi hS5066 hM5066 pl_2156 ts_2156 (z := 36) rfl rfl (fun v5067 h5067 => ?_)
    refine qs_bp (qz_X18_isIn hS5066 hM5066 ei2 h5067) (fun v5068 S5068 w5068 h5068 hS5068 hM5068 => ?_)
    refine qs_ite (c_eq h5068 k_0) ?_ ?_
    · exact (qz_X18_both_J41 hS5068 hM5068 ei1 ei2 ei3 ei4)
    · refine qs_ite (c_eq ei1 ei2) ?_ ?_
      · exact (qz_X18_both_J41 hS5068 hM5068 ei1 ei2 ei3 ei4)
      · refine qs_zi hS5068 pl_2156 ts_2156 ?_
        refine qs_bp (qz_X18_isOf hS5068 hM5068 ei3 ei4) (fun v5070 S5070 w5070 h5070 hS5070 hM5070 => ?_)
        refine qs_ite (c_eq h5070 k_0) ?_ ?_
        · exact (qz_X18_both_J41 hS5070 hM5070 ei1 ei2 ei3 ei4)
        · exact (qz_X18_both_J42 hS5070 hM5070 ei1 ei2 ei3 ei4 k_1)
set_option maxRecDepth 20000 in
theorem qz_X10_personFact {P : Nat → Nat} {S : zm_S} {M : qm} {i1 : Int32} {qi1 : Int} {i2 : Int32} {qi2 : Int} (hS : Sh L xs P S) (hM : qM P S = M) (ei1 : i1.toInt = qi1) (ei2 : i2.toInt = qi2) : qs (zf_X10_personFact 20000 756 i1 i2 S) (qf_X10_personFact 20000 qi1 qi2 M) (tO (rp L xs P M vi)) := by
  unfold zf_X10_personFact qf_X10_personFact
  refine qs_gr hS pl_756 ts_756 rfl ?_
  refine qs_gd (fun g5073 => ?_)
  refine qs_xt hS pl_761 ts_761 (Or.inl rfl) ei1 g5073 (fun b5072 r5072 => ?_)
  refine qs_gd (fun g5075 => ?_)
  refine qs_yi hS hM qt_761 tq_761 r5072 ei2 g5075 (fun v5074 h5074 => ?_)
  exact qs_tp (show vi _ _ from h5074) hS hM
set_option maxRecDepth 20000 in
theorem qz_X11_where_J22 {P : Nat → Nat} {S : zm_S} {M : qm} {i1 : Int32} {qi1 : Int} {i2 : Int32} {qi2 : Int} {t0 : Int32} {qt0 : Int} (hS : Sh L xs P S) (hM : qM P S = M) (ei1 : i1.toInt = qi1) (ei2 : i2.toInt = qi2) (et0 : t0.toInt = qt0) : qs (zf_X11_where_J22 20000 6 i1 i2 t0 S) (qf_X11_where_J22 20000 qi1 qi2 qt0 M) (tO (rp L xs P M (vs vi ve))) := by
  unfold zf_X11_where_J22 qf_X11_where_J22
  refine qs_xp (qz_X11_needArgument hS hM et0) ?_ ?_
  · intro v5077 S5077 w5077 h5077 hS5077 hM5077
    dsimp only
    refine qs_gi hS5077 hM5077 pl_6 ts_6 (z := 11) rfl rfl (fun v5078 h5078 => ?_)
    refine qs_xp (qz_X11_needState hS5077 hM5077 h5078) ?_ ?_
    · intro v5080 S5080 w5080 h5080 hS5080 hM5080
      dsimp only
      refine qs_gr hS5080 pl_6 ts_6 rfl ?_
      refine qs_zi hS5080 pl_756 ts_756 ?_
      refine qs_bp (qz_X10_personFact hS5080 hM5080 ei1 ei2) (fun v5083 S5083 w5083 h5083 hS5083 hM5083 => ?_)
      exact qs_tp (show (vs vi ve) _ _ from h5083) hS5083 hM5083
    · intro v5080 S5080 hS5080 hM5080
      dsimp only
      exact qs_tp (show (vs vi ve) _ _ from rfl) hS5080 hM5080
  · intro v5077 S5077 hS5077 hM5077
    dsimp only
    exact qs_tp (show (vs vi ve) _ _ from rfl) hS5077 hM5077
set_option maxRecDepth 20000 in
theorem qz_X11_where_J21 {P : Nat → Nat} {S : zm_S} {M : qm} {i1 : Int32} {qi1 : Int} {i2 : Int32} {qi2 : Int} (hS : Sh L xs P S) (hM : qM P S = M) (ei1 : i1.toInt = qi1) (ei2 : i2.toInt = qi2) : qs (zf_X11_where_J21 20000 6 i1 i2 S) (qf_X11_where_J21 20000 qi1 qi2 M) (tO (rp L xs P M (vs vi ve))) := by
  unfold zf_X11_where_J21 qf_X11_where_J21
  exact (qz_X11_where_J22 hS hM ei1 ei2 k_0)
set_option maxRecDepth 20000 in
theorem qz_X11_where {P : Nat → Nat} {S : zm_S} {M : qm} {i1 : Int32} {qi1 : Int} {i2 : Int32} {qi2 : Int} (hS : Sh L xs P S) (hM : qM P S = M) (ei1 : i1.toInt = qi1) (ei2 : i2.toInt = qi2) : qs (zf_X11_where 20000 6 i1 i2 S) (qf_X11_where 20000 qi1 qi2 M) (tO (rp L xs P M (vs vi ve))) := by
  unfold zf_X11_where qf_X11_where
  refine qs_zi hS pl_6 ts_6 ?_
  refine qs_bp (qz_X11_isPerson hS hM ei1) (fun v5085 S5085 w5085 h5085 hS5085 hM5085 => ?_)
  refine qs_ite (c_eq h5085 k_0) ?_ ?_
  · exact (qz_X11_where_J21 hS5085 hM5085 ei1 ei2)
  · refine qs_bp (qz_X11_isWithin hS5085 hM5085 ei2 k_0 k_5) (fun v5086 S5086 w5086 h5086 hS5086 hM5086 => ?_)
    refine qs_ite (c_eq h5086 k_0) ?_ ?_
    · exact (qz_X11_where_J21 hS5086 hM5086 ei1 ei2)
    · exact (qz_X11_where_J22 hS5086 hM5086 ei1 ei2 k_1)
set_option maxRecDepth 20000 in
theorem qz_L_where {P : Nat → Nat} {S : zm_S} {M : qm} {i1 : Int32} {qi1 : Int} {i2 : Int32} {qi2 : Int} (hS : Sh L xs P S) (hM : qM P S = M) (ei1 : i1.toInt = qi1) (ei2 : i2.toInt = qi2) : qs (zf_L_where 20000 6 i1 i2 2332 S) (qf_L_where 20000 qi1 qi2 M) (tO (rr L xs P vi)) := by
  unfold zf_L_where qf_L_where
  refine qs_zi hS pl_6 ts_6 ?_
  refine qs_xp (qz_X11_where hS hM ei1 ei2) ?_ ?_
  · intro v5089 S5089 w5089 h5089 hS5089 hM5089
    dsimp only
    refine qs_sl hS5089 hM5089 (pa_p hS5089 pl_2332 ts_2332) k_0 (by decide) (p_64 h5089) (fun S5090 M5090 hS5090 hM5090 => ?_)
    exact qs_tr (show vi _ _ from k_0) hS5090 hM5090
  · intro v5089 S5089 hS5089 hM5089
    dsimp only
    refine qs_ite Iff.rfl ?_ ?_
    · exact qs_tr (show vi _ _ from k_1) hS5089 hM5089
    · refine qs_ite Iff.rfl ?_ ?_
      · exact qs_tr (show vi _ _ from k_2) hS5089 hM5089
      · exact qs_none
set_option maxRecDepth 20000 in
theorem qz_X18_where_J26 {P : Nat → Nat} {S : zm_S} {M : qm} {i1 : Int32} {qi1 : Int} {i2 : Int32} {qi2 : Int} {t1 : Int32} {qt1 : Int} (hS : Sh L xs P S) (hM : qM P S = M) (ei1 : i1.toInt = qi1) (ei2 : i2.toInt = qi2) (et1 : t1.toInt = qt1) : qs (zf_X18_where_J26 20000 2156 i1 i2 2156 t1 S) (qf_X18_where_J26 20000 qi1 qi2 qt1 M) (tO (rr L xs P vi)) := by
  unfold zf_X18_where_J26 qf_X18_where_J26
  refine qs_gi hS hM pl_2156 ts_2156 (z := 1) rfl rfl (fun v5091 h5091 => ?_)
  refine qs_zi hS pl_2156 ts_2156 ?_
  refine qs_b (qz_X18_goes hS hM et1 h5091) (fun v5093 S5093 w5093 M5093 h5093 hS5093 hM5093 => ?_)
  refine qs_ite (c_eq h5093 k_0) ?_ ?_
  · exact qs_tr (show vi _ _ from k_0) hS5093 hM5093
  · refine qs_ite (z_eq ei2) ?_ ?_
    · refine qs_gr hS5093 pl_2156 ts_2156 rfl ?_
      refine qs_gd (fun g5096 => ?_)
      refine qs_xi hM5093 (pa_p hS5093 pl_2306 ts_2306) ei1 g5096 (fun v5095 h5095 => ?_)
      exact qs_tr (show vi _ _ from h5095) hS5093 hM5093
    · refine qs_ite (z_eq ei2) ?_ ?_
      · refine qs_gr hS5093 pl_2156 ts_2156 rfl ?_
        refine qs_gd (fun g5099 => ?_)
        refine qs_xi hM5093 (pa_p hS5093 pl_2307 ts_2307) ei1 g5099 (fun v5098 h5098 => ?_)
        exact qs_tr (show vi _ _ from h5098) hS5093 hM5093
      · refine qs_ite (z_eq ei2) ?_ ?_
        · refine qs_gr hS5093 pl_2156 ts_2156 rfl ?_
          refine qs_gd (fun g5102 => ?_)
          refine qs_xi hM5093 (pa_p hS5093 pl_2308 ts_2308) ei1 g5102 (fun v5101 h5101 => ?_)
          exact qs_tr (show vi _ _ from h5101) hS5093 hM5093
        · refine qs_ite (z_eq ei2) ?_ ?_
          · refine qs_gr hS5093 pl_2156 ts_2156 rfl ?_
            refine qs_gd (fun g5105 => ?_)
            refine qs_xi hM5093 (pa_p hS5093 pl_2309 ts_2309) ei1 g5105 (fun v5104 h5104 => ?_)
            exact qs_tr (show vi _ _ from h5104) hS5093 hM5093
          · refine qs_ite (z_eq ei2) ?_ ?_
            · refine qs_gr hS5093 pl_2156 ts_2156 rfl ?_
              refine qs_gd (fun g5108 => ?_)
              refine qs_xi hM5093 (pa_p hS5093 pl_2310 ts_2310) ei1 g5108 (fun v5107 h5107 => ?_)
              exact qs_tr (show vi _ _ from h5107) hS5093 hM5093
            · refine qs_gr hS5093 pl_2156 ts_2156 rfl ?_
              refine qs_gd (fun g5111 => ?_)
              refine qs_xi hM5093 (pa_p hS5093 pl_2311 ts_2311) ei1 g5111 (fun v5110 h5110 => ?_)
              exact qs_tr (show vi _ _ from h5110) hS5093 hM5093
set_option maxRecDepth 20000 in
theorem qz_X18_where_J25 {P : Nat → Nat} {S : zm_S} {M : qm} {i1 : Int32} {qi1 : Int} {i2 : Int32} {qi2 : Int} (hS : Sh L xs P S) (hM : qM P S = M) (ei1 : i1.toInt = qi1) (ei2 : i2.toInt = qi2) : qs (zf_X18_where_J25 20000 2156 i1 i2 2156 S) (qf_X18_where_J25 20000 qi1 qi2 M) (tO (rr L xs P vi)) := by
  unfold zf_X18_where_J25 qf_X18_where_J25
  exact (qz_X18_where_J26 hS hM ei1 ei2 k_0)
set_option maxRecDepth 20000 in
theorem qz_X18_where {P : Nat → Nat} {S : zm_S} {M : qm} {i1 : Int32} {qi1 : Int} {i2 : Int32} {qi2 : Int} (hS : Sh L xs P S) (hM : qM P S = M) (ei1 : i1.toInt = qi1) (ei2 : i2.toInt = qi2) : qs (zf_X18_where 20000 2156 i1 i2 S) (qf_X18_where 20000 qi1 qi2 M) (tO (rr L xs P vi)) := by
  unfold zf_X18_where qf_X18_where
  refine qs_gi hS hM pl_2156 ts_2156 (z := 27) rfl rfl (fun v5112 h5112 => ?_)
  refine qs_bp (qz_X18_isIn hS hM ei1 h5112) (fun v5113 S5113 w5113 h5113 hS5113 hM5113 => ?_)
  refine qs_ite (c_eq h5113 k_0) ?_ ?_
  · exact (qz_X18_where_J25 hS5113 hM5113 ei1 ei2)
  · refine qs_bp (qz_X18_isIn hS5113 hM5113 ei2 k_6) (fun v5114 S5114 w5114 h5114 hS5114 hM5114 => ?_)
    refine qs_ite (c_eq h5114 k_0) ?_ ?_
    · exact (qz_X18_where_J25 hS5114 hM5114 ei1 ei2)
    · exact (qz_X18_where_J26 hS5114 hM5114 ei1 ei2 k_1)
set_option maxRecDepth 20000 in
theorem qz_X10_countInZone_J31 {P : Nat → Nat} {S : zm_S} {M : qm} {i1 : Int32} {qi1 : Int} {i3 : Int32} {qi3 : Int} {t0 : Int32} {qt0 : Int} {t1 : Int32} {qt1 : Int} (hS : Sh L xs P S) (hM : qM P S = M) (ei1 : i1.toInt = qi1) (ei3 : i3.toInt = qi3) (et0 : t0.toInt = qt0) (et1 : t1.toInt = qt1) {k : Nat → Int32 → Int32 → Int32 → zm_S → Option ((Int32 × zm_S) ⊕ ((Int32) × zm_S))} : qs (zf_X10_countInZone_J31 20000 k 756 i1 i3 t0 t1 S) (qf_X10_countInZone_J31 20000 qi1 qi3 qt0 qt1 M) (tk (vs (rp L xs P M vi) (rp L xs P M vi)) (qc_X10_countInZone_L4 L xs P M k)) := by
  unfold zf_X10_countInZone_J31 qf_X10_countInZone_J31
  exact qs_tk ⟨_, _, _, _, rfl, ei1, (p_add et0 et1), (p_add ei3 k_1), hS, hM⟩
set_option maxRecDepth 20000 in
theorem qz_X10_countInZone_L4_b (n : Nat) {P : Nat → Nat} {S : zm_S} {M : qm} {i1 : Int32} {qi1 : Int} {i2 : Int32} {qi2 : Int} {i3 : Int32} {qi3 : Int} (hS : Sh L xs P S) (hM : qM P S = M) (ei1 : i1.toInt = qi1) (ei2 : i2.toInt = qi2) (ei3 : i3.toInt = qi3) : qs (zf_X10_countInZone_L4 20000 (n + 1) 756 i1 i2 i3 S) (qf_X10_countInZone_L4_b 20000 qi1 qi2 qi3 M) (tk (vs (rp L xs P M vi) (rp L xs P M vi)) (qc_X10_countInZone_L4 L xs P M (zf_X10_countInZone_L4 20000 n))) := by
  refine qs_eq (zf_X10_countInZone_L4.eq_2 ..) ?_
  unfold qf_X10_countInZone_L4_b
  refine qs_gi hS hM pl_756 ts_756 (z := 7) rfl rfl (fun v5115 h5115 => ?_)
  refine qs_ite (c_le h5115 ei3) ?_ ?_
  · exact qs_tp2 (show vi _ _ from ei2) hS hM
  · refine qs_zi hS pl_756 ts_756 ?_
    refine qs_bp (qz_X10_roomOf hS hM ei3) (fun v5117 S5117 w5117 h5117 hS5117 hM5117 => ?_)
    refine qs_zi hS5117 pl_756 ts_756 ?_
    refine qs_bp (qz_X10_zoneOf hS5117 hM5117 h5117) (fun v5119 S5119 w5119 h5119 hS5119 hM5119 => ?_)
    refine qs_ite (c_eq h5119 ei1) ?_ ?_
    · exact (qz_X10_countInZone_J31 hS5119 hM5119 ei1 ei3 ei2 k_1)
    · exact (qz_X10_countInZone_J31 hS5119 hM5119 ei1 ei3 ei2 k_0)
theorem qz_X10_countInZone_L4 (n : Nat) : ∀ {P : Nat → Nat} {S : zm_S} {M : qm} {i1 : Int32} {qi1 : Int} {i2 : Int32} {qi2 : Int} {i3 : Int32} {qi3 : Int} (hS : Sh L xs P S) (hM : qM P S = M) (ei1 : i1.toInt = qi1) (ei2 : i2.toInt = qi2) (ei3 : i3.toInt = qi3), qs (zf_X10_countInZone_L4 20000 n 756 i1 i2 i3 S) (qf_X10_countInZone_L4 20000 n qi1 qi2 qi3 M) (tO (vs (rp L xs P M vi) (rp L xs P M vi))) := by
  induction n with
  | zero =>
    intros
    exact qs_none
  | succ n ih =>
    intro P S M i1 qi1 i2 qi2 i3 qi3 hS hM ei1 ei2 ei3
    unfold qf_X10_countInZone_L4
    refine qs_loop (C := (qc_X10_countInZone_L4 L xs P M (zf_X10_countInZone_L4 20000 n))) (qz_X10_countInZone_L4_b n hS hM ei1 ei2 ei3) ?_
    rintro x s ⟨_, _, _, _, rfl, u0, u1, u2, hS2, hM2⟩
    exact ih hS2 hM2 u0 u1 u2
set_option maxRecDepth 20000 in
theorem qz_X10_countInZone {P : Nat → Nat} {S : zm_S} {M : qm} {i1 : Int32} {qi1 : Int} (hS : Sh L xs P S) (hM : qM P S = M) (ei1 : i1.toInt = qi1) : qs (zf_X10_countInZone 20000 756 i1 S) (qf_X10_countInZone 20000 qi1 M) (tO (rp L xs P M vi)) := by
  unfold zf_X10_countInZone qf_X10_countInZone
  refine qs_lp (qz_X10_countInZone_L4 20000 hS hM ei1 k_0 k_0) ?_ ?_
  · intro v5121 S5121 w5121 h5121 hS5121 hM5121
    dsimp only
    exact qs_tp h5121 hS5121 hM5121
  · intro v5121 S5121 w5121 h5121 hS5121 hM5121
    dsimp only
    exact qs_tp (show vi _ _ from h5121) hS5121 hM5121
set_option maxRecDepth 20000 in
theorem qz_X11_inside {P : Nat → Nat} {S : zm_S} {M : qm} {i1 : Int32} {qi1 : Int} (hS : Sh L xs P S) (hM : qM P S = M) (ei1 : i1.toInt = qi1) : qs (zf_X11_inside 20000 6 i1 S) (qf_X11_inside 20000 qi1 M) (tO (rp L xs P M (vs vi ve))) := by
  unfold zf_X11_inside qf_X11_inside
  refine qs_bp (qz_X11_isWithin hS hM ei1 k_0 k_9) (fun v5122 S5122 w5122 h5122 hS5122 hM5122 => ?_)
  refine qs_xp (qz_X11_needArgument hS5122 hM5122 h5122) ?_ ?_
  · intro v5124 S5124 w5124 h5124 hS5124 hM5124
    dsimp only
    refine qs_gi hS5124 hM5124 pl_6 ts_6 (z := 11) rfl rfl (fun v5125 h5125 => ?_)
    refine qs_xp (qz_X11_needState hS5124 hM5124 h5125) ?_ ?_
    · intro v5127 S5127 w5127 h5127 hS5127 hM5127
      dsimp only
      refine qs_gr hS5127 pl_6 ts_6 rfl ?_
      refine qs_zi hS5127 pl_756 ts_756 ?_
      refine qs_bp (qz_X10_countInZone hS5127 hM5127 ei1) (fun v5130 S5130 w5130 h5130 hS5130 hM5130 => ?_)
      exact qs_tp (show (vs vi ve) _ _ from h5130) hS5130 hM5130
    · intro v5127 S5127 hS5127 hM5127
      dsimp only
      exact qs_tp (show (vs vi ve) _ _ from rfl) hS5127 hM5127
  · intro v5124 S5124 hS5124 hM5124
    dsimp only
    exact qs_tp (show (vs vi ve) _ _ from rfl) hS5124 hM5124
set_option maxRecDepth 20000 in
theorem qz_L_inside {P : Nat → Nat} {S : zm_S} {M : qm} {i1 : Int32} {qi1 : Int} (hS : Sh L xs P S) (hM : qM P S = M) (ei1 : i1.toInt = qi1) : qs (zf_L_inside 20000 6 i1 2332 S) (qf_L_inside 20000 qi1 M) (tO (rr L xs P vi)) := by
  unfold zf_L_inside qf_L_inside
  refine qs_zi hS pl_6 ts_6 ?_
  refine qs_xp (qz_X11_inside hS hM ei1) ?_ ?_
  · intro v5133 S5133 w5133 h5133 hS5133 hM5133
    dsimp only
    refine qs_sl hS5133 hM5133 (pa_p hS5133 pl_2332 ts_2332) k_0 (by decide) (p_64 h5133) (fun S5134 M5134 hS5134 hM5134 => ?_)
    exact qs_tr (show vi _ _ from k_0) hS5134 hM5134
  · intro v5133 S5133 hS5133 hM5133
    dsimp only
    refine qs_ite Iff.rfl ?_ ?_
    · exact qs_tr (show vi _ _ from k_1) hS5133 hM5133
    · refine qs_ite Iff.rfl ?_ ?_
      · exact qs_tr (show vi _ _ from k_2) hS5133 hM5133
      · exact qs_none
set_option maxRecDepth 20000 in
theorem qz_X18_inside_J51 {P : Nat → Nat} {S : zm_S} {M : qm} {i1 : Int32} {qi1 : Int} {i3 : Int32} {qi3 : Int} {t0 : Int32} {qt0 : Int} {t1 : Int32} {qt1 : Int} (hS : Sh L xs P S) (hM : qM P S = M) (ei1 : i1.toInt = qi1) (ei3 : i3.toInt = qi3) (et0 : t0.toInt = qt0) (et1 : t1.toInt = qt1) {k : Nat → Int32 → Int32 → Int32 → zm_S → Option ((Int32 × zm_S) ⊕ ((Int32) × zm_S))} : qs (zf_X18_inside_J51 20000 k 2156 i1 i3 t0 t1 S) (qf_X18_inside_J51 20000 qi1 qi3 qt0 qt1 M) (tk (vs (rp L xs P M vi) (rp L xs P M vi)) (qc_X18_inside_L23 L xs P M k)) := by
  unfold zf_X18_inside_J51 qf_X18_inside_J51
  exact qs_tk ⟨_, _, _, _, rfl, ei1, (p_add et0 et1), (p_add ei3 k_1), hS, hM⟩
set_option maxRecDepth 20000 in
theorem qz_X18_inside_L23_b (n : Nat) {P : Nat → Nat} {S : zm_S} {M : qm} {i1 : Int32} {qi1 : Int} {i2 : Int32} {qi2 : Int} {i3 : Int32} {qi3 : Int} (hS : Sh L xs P S) (hM : qM P S = M) (ei1 : i1.toInt = qi1) (ei2 : i2.toInt = qi2) (ei3 : i3.toInt = qi3) : qs (zf_X18_inside_L23 20000 (n + 1) 2156 i1 i2 i3 S) (qf_X18_inside_L23_b 20000 qi1 qi2 qi3 M) (tk (vs (rp L xs P M vi) (rp L xs P M vi)) (qc_X18_inside_L23 L xs P M (zf_X18_inside_L23 20000 n))) := by
  refine qs_eq (zf_X18_inside_L23.eq_2 ..) ?_
  unfold qf_X18_inside_L23_b
  refine qs_gi hS hM pl_2156 ts_2156 (z := 27) rfl rfl (fun v5135 h5135 => ?_)
  refine qs_ite (c_le h5135 ei3) ?_ ?_
  · exact qs_tp2 (show vi _ _ from ei2) hS hM
  · refine qs_gr hS pl_2156 ts_2156 rfl ?_
    refine qs_gd (fun g5138 => ?_)
    refine qs_xi hM (pa_p hS pl_2306 ts_2306) ei3 g5138 (fun v5137 h5137 => ?_)
    refine qs_zi hS pl_2156 ts_2156 ?_
    refine qs_bp (qz_X18_zoneOf hS hM h5137) (fun v5140 S5140 w5140 h5140 hS5140 hM5140 => ?_)
    refine qs_ite (c_eq h5140 ei1) ?_ ?_
    · exact (qz_X18_inside_J51 hS5140 hM5140 ei1 ei3 ei2 k_1)
    · exact (qz_X18_inside_J51 hS5140 hM5140 ei1 ei3 ei2 k_0)
theorem qz_X18_inside_L23 (n : Nat) : ∀ {P : Nat → Nat} {S : zm_S} {M : qm} {i1 : Int32} {qi1 : Int} {i2 : Int32} {qi2 : Int} {i3 : Int32} {qi3 : Int} (hS : Sh L xs P S) (hM : qM P S = M) (ei1 : i1.toInt = qi1) (ei2 : i2.toInt = qi2) (ei3 : i3.toInt = qi3), qs (zf_X18_inside_L23 20000 n 2156 i1 i2 i3 S) (qf_X18_inside_L23 20000 n qi1 qi2 qi3 M) (tO (vs (rp L xs P M vi) (rp L xs P M vi))) := by
  induction n with
  | zero =>
    intros
    exact qs_none
  | succ n ih =>
    intro P S M i1 qi1 i2 qi2 i3 qi3 hS hM ei1 ei2 ei3
    unfold qf_X18_inside_L23
    refine qs_loop (C := (qc_X18_inside_L23 L xs P M (zf_X18_inside_L23 20000 n))) (qz_X18_inside_L23_b n hS hM ei1 ei2 ei3) ?_
    rintro x s ⟨_, _, _, _, rfl, u0, u1, u2, hS2, hM2⟩
    exact ih hS2 hM2 u0 u1 u2
set_option maxRecDepth 20000 in
theorem qz_X18_inside {P : Nat → Nat} {S : zm_S} {M : qm} {i1 : Int32} {qi1 : Int} (hS : Sh L xs P S) (hM : qM P S = M) (ei1 : i1.toInt = qi1) : qs (zf_X18_inside 20000 2156 i1 S) (qf_X18_inside 20000 qi1 M) (tO (rr L xs P vi)) := by
  unfold zf_X18_inside qf_X18_inside
  refine qs_bp (qz_X18_isIn hS hM ei1 k_10) (fun v5141 S5141 w5141 h5141 hS5141 hM5141 => ?_)
  refine qs_gi hS5141 hM5141 pl_2156 ts_2156 (z := 1) rfl rfl (fun v5142 h5142 => ?_)
  refine qs_zi hS5141 pl_2156 ts_2156 ?_
  refine qs_b (qz_X18_goes hS5141 hM5141 h5141 h5142) (fun v5144 S5144 w5144 M5144 h5144 hS5144 hM5144 => ?_)
  refine qs_ite (c_eq h5144 k_0) ?_ ?_
  · exact qs_tr (show vi _ _ from k_0) hS5144 hM5144
  · refine qs_lp (qz_X18_inside_L23 20000 hS5144 hM5144 ei1 k_0 k_0) ?_ ?_
    · intro v5146 S5146 w5146 h5146 hS5146 hM5146
      dsimp only
      exact qs_tr h5146 hS5146 hM5146
    · intro v5146 S5146 w5146 h5146 hS5146 hM5146
      dsimp only
      exact qs_tr (show vi _ _ from h5146) hS5146 hM5146
set_option maxRecDepth 20000 in
theorem qz_X0_againstFact {P : Nat → Nat} {S : zm_S} {M : qm} {i1 : Int32} {qi1 : Int} {i2 : Int32} {qi2 : Int} (hS : Sh L xs P S) (hM : qM P S = M) (ei1 : i1.toInt = qi1) (ei2 : i2.toInt = qi2) : qs (zf_X0_againstFact 20000 824 i1 i2 S) (qf_X0_againstFact 20000 qi1 qi2 M) (tO (rp L xs P M vi)) := by
  unfold zf_X0_againstFact qf_X0_againstFact
  refine qs_gr hS pl_824 ts_824 rfl ?_
  refine qs_gd (fun g5149 => ?_)
  refine qs_xi hM (pa_p hS pl_907 ts_907) (p_sub (p_add (p_mul k_4 ei1) ei2) k_1) g5149 (fun v5148 h5148 => ?_)
  exact qs_tp (show vi _ _ from h5148) hS hM
set_option maxRecDepth 20000 in
theorem qz_X11_against_J35 {P : Nat → Nat} {S : zm_S} {M : qm} {i1 : Int32} {qi1 : Int} {i2 : Int32} {qi2 : Int} {t0 : Int32} {qt0 : Int} (hS : Sh L xs P S) (hM : qM P S = M) (ei1 : i1.toInt = qi1) (ei2 : i2.toInt = qi2) (et0 : t0.toInt = qt0) : qs (zf_X11_against_J35 20000 6 i1 i2 t0 S) (qf_X11_against_J35 20000 qi1 qi2 qt0 M) (tO (rp L xs P M (vs vi ve))) := by
  unfold zf_X11_against_J35 qf_X11_against_J35
  refine qs_xp (qz_X11_needArgument hS hM et0) ?_ ?_
  · intro v5151 S5151 w5151 h5151 hS5151 hM5151
    dsimp only
    refine qs_gi hS5151 hM5151 pl_6 ts_6 (z := 11) rfl rfl (fun v5152 h5152 => ?_)
    refine qs_xp (qz_X11_needState hS5151 hM5151 h5152) ?_ ?_
    · intro v5154 S5154 w5154 h5154 hS5154 hM5154
      dsimp only
      refine qs_ite (c_eq ei2 k_0) ?_ ?_
      · refine qs_gr hS5154 pl_6 ts_6 rfl ?_
        refine qs_gi hS5154 hM5154 pl_824 ts_824 (z := 15) rfl rfl (fun v5156 h5156 => ?_)
        exact qs_tp (show (vs vi ve) _ _ from h5156) hS5154 hM5154
      · refine qs_gr hS5154 pl_6 ts_6 rfl ?_
        refine qs_zi hS5154 pl_824 ts_824 ?_
        refine qs_bp (qz_X0_againstFact hS5154 hM5154 ei1 ei2) (fun v5159 S5159 w5159 h5159 hS5159 hM5159 => ?_)
        exact qs_tp (show (vs vi ve) _ _ from h5159) hS5159 hM5159
    · intro v5154 S5154 hS5154 hM5154
      dsimp only
      exact qs_tp (show (vs vi ve) _ _ from rfl) hS5154 hM5154
  · intro v5151 S5151 hS5151 hM5151
    dsimp only
    exact qs_tp (show (vs vi ve) _ _ from rfl) hS5151 hM5151
set_option maxRecDepth 20000 in
theorem qz_X11_against_J34 {P : Nat → Nat} {S : zm_S} {M : qm} {i1 : Int32} {qi1 : Int} {i2 : Int32} {qi2 : Int} (hS : Sh L xs P S) (hM : qM P S = M) (ei1 : i1.toInt = qi1) (ei2 : i2.toInt = qi2) : qs (zf_X11_against_J34 20000 6 i1 i2 S) (qf_X11_against_J34 20000 qi1 qi2 M) (tO (rp L xs P M (vs vi ve))) := by
  unfold zf_X11_against_J34 qf_X11_against_J34
  exact (qz_X11_against_J35 hS hM ei1 ei2 k_0)
set_option maxRecDepth 20000 in
theorem qz_X11_against_J30 {P : Nat → Nat} {S : zm_S} {M : qm} {i1 : Int32} {qi1 : Int} {i2 : Int32} {qi2 : Int} (hS : Sh L xs P S) (hM : qM P S = M) (ei1 : i1.toInt = qi1) (ei2 : i2.toInt = qi2) : qs (zf_X11_against_J30 20000 6 i1 i2 S) (qf_X11_against_J30 20000 qi1 qi2 M) (tO (rp L xs P M (vs vi ve))) := by
  unfold zf_X11_against_J30 qf_X11_against_J30
  exact (qz_X11_against_J35 hS hM ei1 ei2 k_1)
set_option maxRecDepth 20000 in
theorem qz_X0_keptAgainst {P : Nat → Nat} {S : zm_S} {M : qm}  (hS : Sh L xs P S) (hM : qM P S = M)  : qs (zf_X0_keptAgainst 20000 824 S) (qf_X0_keptAgainst 20000 M) (tO (rp L xs P M vi)) := by
  unfold zf_X0_keptAgainst qf_X0_keptAgainst
  refine qs_gi hS hM pl_824 ts_824 (z := 15) rfl rfl (fun v5160 h5160 => ?_)
  exact qs_tp (show vi _ _ from (p_min h5160 k_100)) hS hM
set_option maxRecDepth 20000 in
theorem qz_X11_against {P : Nat → Nat} {S : zm_S} {M : qm} {i1 : Int32} {qi1 : Int} {i2 : Int32} {qi2 : Int} (hS : Sh L xs P S) (hM : qM P S = M) (ei1 : i1.toInt = qi1) (ei2 : i2.toInt = qi2) : qs (zf_X11_against 20000 6 i1 i2 S) (qf_X11_against 20000 qi1 qi2 M) (tO (rp L xs P M (vs vi ve))) := by
  unfold zf_X11_against qf_X11_against
  refine qs_bp (qz_X11_isWithin hS hM ei2 k_0 k_4) (fun v5161 S5161 w5161 h5161 hS5161 hM5161 => ?_)
  refine qs_ite (c_eq h5161 k_0) ?_ ?_
  · exact (qz_X11_against_J34 hS5161 hM5161 ei1 ei2)
  · refine qs_ite (c_eq ei2 k_0) ?_ ?_
    · exact (qz_X11_against_J30 hS5161 hM5161 ei1 ei2)
    · refine qs_gr hS5161 pl_6 ts_6 rfl ?_
      refine qs_zi hS5161 pl_824 ts_824 ?_
      refine qs_bp (qz_X0_keptAgainst hS5161 hM5161 ) (fun v5164 S5164 w5164 h5164 hS5164 hM5164 => ?_)
      refine qs_bp (qz_X11_isWithin hS5164 hM5164 ei1 k_0 (p_sub h5164 k_1)) (fun v5165 S5165 w5165 h5165 hS5165 hM5165 => ?_)
      refine qs_ite (c_eq h5165 k_0) ?_ ?_
      · exact (qz_X11_against_J34 hS5165 hM5165 ei1 ei2)
      · exact (qz_X11_against_J30 hS5165 hM5165 ei1 ei2)
set_option maxRecDepth 20000 in
theorem qz_L_against {P : Nat → Nat} {S : zm_S} {M : qm} {i1 : Int32} {qi1 : Int} {i2 : Int32} {qi2 : Int} (hS : Sh L xs P S) (hM : qM P S = M) (ei1 : i1.toInt = qi1) (ei2 : i2.toInt = qi2) : qs (zf_L_against 20000 6 i1 i2 2332 S) (qf_L_against 20000 qi1 qi2 M) (tO (rr L xs P vi)) := by
  unfold zf_L_against qf_L_against
  refine qs_zi hS pl_6 ts_6 ?_
  refine qs_xp (qz_X11_against hS hM ei1 ei2) ?_ ?_
  · intro v5168 S5168 w5168 h5168 hS5168 hM5168
    dsimp only
    refine qs_sl hS5168 hM5168 (pa_p hS5168 pl_2332 ts_2332) k_0 (by decide) (p_64 h5168) (fun S5169 M5169 hS5169 hM5169 => ?_)
    exact qs_tr (show vi _ _ from k_0) hS5169 hM5169
  · intro v5168 S5168 hS5168 hM5168
    dsimp only
    refine qs_ite Iff.rfl ?_ ?_
    · exact qs_tr (show vi _ _ from k_1) hS5168 hM5168
    · refine qs_ite Iff.rfl ?_ ?_
      · exact qs_tr (show vi _ _ from k_2) hS5168 hM5168
      · exact qs_none
set_option maxRecDepth 20000 in
theorem qz_X18_against_J36 {P : Nat → Nat} {S : zm_S} {M : qm} {i1 : Int32} {qi1 : Int} {i2 : Int32} {qi2 : Int} {t1 : Int32} {qt1 : Int} (hS : Sh L xs P S) (hM : qM P S = M) (ei1 : i1.toInt = qi1) (ei2 : i2.toInt = qi2) (et1 : t1.toInt = qt1) : qs (zf_X18_against_J36 20000 2156 i1 i2 2156 t1 S) (qf_X18_against_J36 20000 qi1 qi2 qt1 M) (tO (rr L xs P vi)) := by
  unfold zf_X18_against_J36 qf_X18_against_J36
  refine qs_gi hS hM pl_2156 ts_2156 (z := 1) rfl rfl (fun v5170 h5170 => ?_)
  refine qs_zi hS pl_2156 ts_2156 ?_
  refine qs_b (qz_X18_goes hS hM et1 h5170) (fun v5172 S5172 w5172 M5172 h5172 hS5172 hM5172 => ?_)
  refine qs_ite (c_eq h5172 k_0) ?_ ?_
  · exact qs_tr (show vi _ _ from k_0) hS5172 hM5172
  · refine qs_ite (c_eq ei2 k_0) ?_ ?_
    · refine qs_gi hS5172 hM5172 pl_2156 ts_2156 (z := 49) rfl rfl (fun v5173 h5173 => ?_)
      exact qs_tr (show vi _ _ from h5173) hS5172 hM5172
    · refine qs_ite (c_eq ei2 k_1) ?_ ?_
      · refine qs_gr hS5172 pl_2156 ts_2156 rfl ?_
        refine qs_gd (fun g5176 => ?_)
        refine qs_xi hM5172 (pa_p hS5172 pl_2322 ts_2322) ei1 g5176 (fun v5175 h5175 => ?_)
        exact qs_tr (show vi _ _ from h5175) hS5172 hM5172
      · refine qs_ite (c_eq ei2 k_2) ?_ ?_
        · refine qs_gr hS5172 pl_2156 ts_2156 rfl ?_
          refine qs_gd (fun g5179 => ?_)
          refine qs_xi hM5172 (pa_p hS5172 pl_2323 ts_2323) ei1 g5179 (fun v5178 h5178 => ?_)
          exact qs_tr (show vi _ _ from h5178) hS5172 hM5172
        · refine qs_ite (c_eq ei2 k_3) ?_ ?_
          · refine qs_gr hS5172 pl_2156 ts_2156 rfl ?_
            refine qs_gd (fun g5182 => ?_)
            refine qs_xi hM5172 (pa_p hS5172 pl_2324 ts_2324) ei1 g5182 (fun v5181 h5181 => ?_)
            exact qs_tr (show vi _ _ from h5181) hS5172 hM5172
          · refine qs_gr hS5172 pl_2156 ts_2156 rfl ?_
            refine qs_gd (fun g5185 => ?_)
            refine qs_xi hM5172 (pa_p hS5172 pl_2325 ts_2325) ei1 g5185 (fun v5184 h5184 => ?_)
            exact qs_tr (show vi _ _ from h5184) hS5172 hM5172
set_option maxRecDepth 20000 in
theorem qz_X18_against_J35 {P : Nat → Nat} {S : zm_S} {M : qm} {i1 : Int32} {qi1 : Int} {i2 : Int32} {qi2 : Int} (hS : Sh L xs P S) (hM : qM P S = M) (ei1 : i1.toInt = qi1) (ei2 : i2.toInt = qi2) : qs (zf_X18_against_J35 20000 2156 i1 i2 2156 S) (qf_X18_against_J35 20000 qi1 qi2 M) (tO (rr L xs P vi)) := by
  unfold zf_X18_against_J35 qf_X18_against_J35
  exact (qz_X18_against_J36 hS hM ei1 ei2 k_0)
set_option maxRecDepth 20000 in
theorem qz_X18_against_J31 {P : Nat → Nat} {S : zm_S} {M : qm} {i1 : Int32} {qi1 : Int} {i2 : Int32} {qi2 : Int} (hS : Sh L xs P S) (hM : qM P S = M) (ei1 : i1.toInt = qi1) (ei2 : i2.toInt = qi2) : qs (zf_X18_against_J31 20000 2156 i1 i2 2156 S) (qf_X18_against_J31 20000 qi1 qi2 M) (tO (rr L xs P vi)) := by
  unfold zf_X18_against_J31 qf_X18_against_J31
  exact (qz_X18_against_J36 hS hM ei1 ei2 k_1)
set_option maxRecDepth 20000 in
theorem qz_X18_against {P : Nat → Nat} {S : zm_S} {M : qm} {i1 : Int32} {qi1 : Int} {i2 : Int32} {qi2 : Int} (hS : Sh L xs P S) (hM : qM P S = M) (ei1 : i1.toInt = qi1) (ei2 : i2.toInt = qi2) : qs (zf_X18_against 20000 2156 i1 i2 S) (qf_X18_against 20000 qi1 qi2 M) (tO (rr L xs P vi)) := by
  unfold zf_X18_against qf_X18_against
  refine qs_bp (qz_X18_isIn hS hM ei2 k_5) (fun v5186 S5186 w5186 h5186 hS5186 hM5186 => ?_)
  refine qs_ite (c_eq h5186 k_0) ?_ ?_
  · exact (qz_X18_against_J35 hS5186 hM5186 ei1 ei2)
  · refine qs_ite (c_eq ei2 k_0) ?_ ?_
    · exact (qz_X18_against_J31 hS5186 hM5186 ei1 ei2)
    · refine qs_ite (c_lt ei1 k_0) ?_ ?_
      · exact (qz_X18_against_J35 hS5186 hM5186 ei1 ei2)
      · refine qs_gi hS5186 hM5186 pl_2156 ts_2156 (z := 49) rfl rfl (fun v5187 h5187 => ?_)
        refine qs_ite (c_le h5187 ei1) ?_ ?_
        · exact (qz_X18_against_J35 hS5186 hM5186 ei1 ei2)
        · refine qs_ite (c_le k_100 ei1) ?_ ?_
          · exact (qz_X18_against_J35 hS5186 hM5186 ei1 ei2)
          · exact (qz_X18_against_J31 hS5186 hM5186 ei1 ei2)
set_option maxRecDepth 20000 in
theorem qz_X5_append {P : Nat → Nat} {S : zm_S} {M : qm} {i1 : Int32} {qi1 : Int} (hS : Sh L xs P S) (hM : qM P S = M) (ei1 : i1.toInt = qi1) : qs (zf_X5_append 20000 908 i1 S) (qf_X5_append 20000 qi1 M) (tO (rr L xs P vi)) := by
  unfold zf_X5_append qf_X5_append
  refine qs_gi hS hM pl_908 ts_908 (z := 1) rfl rfl (fun v5188 h5188 => ?_)
  refine qs_ite (c_le k_2000 h5188) ?_ ?_
  · refine qs_gi hS hM pl_908 ts_908 (z := 1) rfl rfl (fun v5189 h5189 => ?_)
    exact qs_tr (show vi _ _ from h5189) hS hM
  · refine qs_gr hS pl_908 ts_908 rfl ?_
    refine qs_gi hS hM pl_908 ts_908 (z := 1) rfl rfl (fun v5191 h5191 => ?_)
    refine qs_gd (fun g5193 => ?_)
    refine qs_sc hS hM (pa_p hS pl_909 ts_909) h5191 g5193 (p_nar (p_chr ei1)) (fun S5192 M5192 hS5192 hM5192 => ?_)
    refine qs_gi hS5192 hM5192 pl_908 ts_908 (z := 1) rfl rfl (fun v5194 h5194 => ?_)
    refine qs_pi hS5192 hM5192 pl_908 ts_908 (z := 1) rfl rfl (p_add h5194 k_1) (fun S5195 M5195 hS5195 hM5195 => ?_)
    refine qs_gi hS5195 hM5195 pl_908 ts_908 (z := 1) rfl rfl (fun v5196 h5196 => ?_)
    exact qs_tr (show vi _ _ from h5196) hS5195 hM5195
set_option maxRecDepth 20000 in
theorem qz_X11_unit_J35 {P : Nat → Nat} {S : zm_S} {M : qm} {i1 : Int32} {qi1 : Int} {t0 : Int32} {qt0 : Int} (hS : Sh L xs P S) (hM : qM P S = M) (ei1 : i1.toInt = qi1) (et0 : t0.toInt = qt0) : qs (zf_X11_unit_J35 20000 6 i1 t0 S) (qf_X11_unit_J35 20000 qi1 qt0 M) (tO (rr L xs P (vs vi ve))) := by
  unfold zf_X11_unit_J35 qf_X11_unit_J35
  refine qs_xp (qz_X11_needState hS hM et0) ?_ ?_
  · intro v5198 S5198 w5198 h5198 hS5198 hM5198
    dsimp only
    refine qs_gr hS5198 pl_6 ts_6 rfl ?_
    refine qs_zi hS5198 pl_908 ts_908 ?_
    refine qs_b (qz_X5_append hS5198 hM5198 ei1) (fun v5201 S5201 w5201 M5201 h5201 hS5201 hM5201 => ?_)
    exact qs_tr (show (vs vi ve) _ _ from h5201) hS5201 hM5201
  · intro v5198 S5198 hS5198 hM5198
    dsimp only
    exact qs_tr (show (vs vi ve) _ _ from rfl) hS5198 hM5198
set_option maxRecDepth 20000 in
theorem qz_X11_unit_J34 {P : Nat → Nat} {S : zm_S} {M : qm} {i1 : Int32} {qi1 : Int} (hS : Sh L xs P S) (hM : qM P S = M) (ei1 : i1.toInt = qi1) : qs (zf_X11_unit_J34 20000 6 i1 S) (qf_X11_unit_J34 20000 qi1 M) (tO (rr L xs P (vs vi ve))) := by
  unfold zf_X11_unit_J34 qf_X11_unit_J34
  exact (qz_X11_unit_J35 hS hM ei1 k_0)
set_option maxRecDepth 20000 in
theorem qz_X11_unit {P : Nat → Nat} {S : zm_S} {M : qm} {i1 : Int32} {qi1 : Int} (hS : Sh L xs P S) (hM : qM P S = M) (ei1 : i1.toInt = qi1) : qs (zf_X11_unit 20000 6 i1 S) (qf_X11_unit 20000 qi1 M) (tO (rr L xs P (vs vi ve))) := by
  unfold zf_X11_unit qf_X11_unit
  refine qs_bp (qz_X11_isWithin hS hM ei1 k_0 k_127) (fun v5202 S5202 w5202 h5202 hS5202 hM5202 => ?_)
  refine qs_xp (qz_X11_needArgument hS5202 hM5202 h5202) ?_ ?_
  · intro v5204 S5204 w5204 h5204 hS5204 hM5204
    dsimp only
    refine qs_gi hS5204 hM5204 pl_6 ts_6 (z := 11) rfl rfl (fun v5205 h5205 => ?_)
    refine qs_ite (c_eq h5205 k_0) ?_ ?_
    · exact (qz_X11_unit_J34 hS5204 hM5204 ei1)
    · refine qs_gr hS5204 pl_6 ts_6 rfl ?_
      refine qs_gi hS5204 hM5204 pl_908 ts_908 (z := 1) rfl rfl (fun v5207 h5207 => ?_)
      refine qs_ite (c_le k_2000 h5207) ?_ ?_
      · exact (qz_X11_unit_J34 hS5204 hM5204 ei1)
      · exact (qz_X11_unit_J35 hS5204 hM5204 ei1 k_1)
  · intro v5204 S5204 hS5204 hM5204
    dsimp only
    exact qs_tr (show (vs vi ve) _ _ from rfl) hS5204 hM5204
set_option maxRecDepth 20000 in
theorem qz_L_unit {P : Nat → Nat} {S : zm_S} {M : qm} {i1 : Int32} {qi1 : Int} (hS : Sh L xs P S) (hM : qM P S = M) (ei1 : i1.toInt = qi1) : qs (zf_L_unit 20000 6 i1 2332 S) (qf_L_unit 20000 qi1 M) (tO (rr L xs P vi)) := by
  unfold zf_L_unit qf_L_unit
  refine qs_zi hS pl_6 ts_6 ?_
  refine qs_xr (qz_X11_unit hS hM ei1) ?_ ?_
  · intro v5210 S5210 w5210 M5210 h5210 hS5210 hM5210
    dsimp only
    refine qs_sl hS5210 hM5210 (pa_p hS5210 pl_2332 ts_2332) k_0 (by decide) (p_64 h5210) (fun S5211 M5211 hS5211 hM5211 => ?_)
    exact qs_tr (show vi _ _ from k_0) hS5211 hM5211
  · intro v5210 S5210 M5210 hS5210 hM5210
    dsimp only
    refine qs_ite Iff.rfl ?_ ?_
    · exact qs_tr (show vi _ _ from k_1) hS5210 hM5210
    · refine qs_ite Iff.rfl ?_ ?_
      · exact qs_tr (show vi _ _ from k_2) hS5210 hM5210
      · exact qs_none
set_option maxRecDepth 20000 in
theorem qz_X14_unit {P : Nat → Nat} {S : zm_S} {M : qm} {i1 : Int32} {qi1 : Int} (hS : Sh L xs P S) (hM : qM P S = M) (ei1 : i1.toInt = qi1) : qs (zf_X14_unit 20000 2208 i1 S) (qf_X14_unit 20000 qi1 M) (tO (rr L xs P vi)) := by
  unfold zf_X14_unit qf_X14_unit
  refine qs_gr hS pl_2208 ts_2208 rfl ?_
  refine qs_gi hS hM pl_2208 ts_2208 (z := 6) rfl rfl (fun v5213 h5213 => ?_)
  refine qs_gd (fun g5215 => ?_)
  refine qs_si hS hM (pa_p hS pl_2212 ts_2212) h5213 g5215 ei1 (fun S5214 M5214 hS5214 hM5214 => ?_)
  refine qs_gi hS5214 hM5214 pl_2208 ts_2208 (z := 6) rfl rfl (fun v5216 h5216 => ?_)
  refine qs_pi hS5214 hM5214 pl_2208 ts_2208 (z := 6) rfl rfl (p_add h5216 k_1) (fun S5217 M5217 hS5217 hM5217 => ?_)
  refine qs_gi hS5217 hM5217 pl_2208 ts_2208 (z := 6) rfl rfl (fun v5218 h5218 => ?_)
  exact qs_tr (show vi _ _ from h5218) hS5217 hM5217
set_option maxRecDepth 20000 in
theorem qz_X18_unit_J41 {P : Nat → Nat} {S : zm_S} {M : qm} {i1 : Int32} {qi1 : Int} {t1 : Int32} {qt1 : Int} {t2 : Int32} {qt2 : Int} (hS : Sh L xs P S) (hM : qM P S = M) (ei1 : i1.toInt = qi1) (et1 : t1.toInt = qt1) (et2 : t2.toInt = qt2) : qs (zf_X18_unit_J41 20000 2156 i1 2156 t1 t2 S) (qf_X18_unit_J41 20000 qi1 qt1 qt2 M) (tO (rr L xs P vi)) := by
  unfold zf_X18_unit_J41 qf_X18_unit_J41
  refine qs_zi hS pl_2156 ts_2156 ?_
  refine qs_b (qz_X18_goes hS hM et1 et2) (fun v5220 S5220 w5220 M5220 h5220 hS5220 hM5220 => ?_)
  refine qs_ite (c_eq h5220 k_0) ?_ ?_
  · exact qs_tr (show vi _ _ from k_0) hS5220 hM5220
  · refine qs_gr hS5220 pl_2156 ts_2156 rfl ?_
    refine qs_zi hS5220 pl_2208 ts_2208 ?_
    refine qs_b (qz_X14_unit hS5220 hM5220 ei1) (fun v5223 S5223 w5223 M5223 h5223 hS5223 hM5223 => ?_)
    exact qs_tr (show vi _ _ from h5223) hS5223 hM5223
set_option maxRecDepth 20000 in
theorem qz_X18_unit_J40 {P : Nat → Nat} {S : zm_S} {M : qm} {i1 : Int32} {qi1 : Int} {t1 : Int32} {qt1 : Int} (hS : Sh L xs P S) (hM : qM P S = M) (ei1 : i1.toInt = qi1) (et1 : t1.toInt = qt1) : qs (zf_X18_unit_J40 20000 2156 i1 2156 t1 S) (qf_X18_unit_J40 20000 qi1 qt1 M) (tO (rr L xs P vi)) := by
  unfold zf_X18_unit_J40 qf_X18_unit_J40
  exact (qz_X18_unit_J41 hS hM ei1 et1 k_0)
set_option maxRecDepth 20000 in
theorem qz_X18_unit_J16 {P : Nat → Nat} {S : zm_S} {M : qm} {i1 : Int32} {qi1 : Int} {t1 : Int32} {qt1 : Int} (hS : Sh L xs P S) (hM : qM P S = M) (ei1 : i1.toInt = qi1) (et1 : t1.toInt = qt1) : qs (zf_X18_unit_J16 20000 2156 i1 2156 t1 S) (qf_X18_unit_J16 20000 qi1 qt1 M) (tO (rr L xs P vi)) := by
  unfold zf_X18_unit_J16 qf_X18_unit_J16
  refine qs_gi hS hM pl_2156 ts_2156 (z := 1) rfl rfl (fun v5224 h5224 => ?_)
  refine qs_ite (c_eq h5224 k_0) ?_ ?_
  · exact (qz_X18_unit_J40 hS hM ei1 et1)
  · refine qs_gr hS pl_2156 ts_2156 rfl ?_
    refine qs_gi hS hM pl_2208 ts_2208 (z := 6) rfl rfl (fun v5226 h5226 => ?_)
    refine qs_ite (c_le k_2000 h5226) ?_ ?_
    · exact (qz_X18_unit_J40 hS hM ei1 et1)
    · exact (qz_X18_unit_J41 hS hM ei1 et1 k_1)
set_option maxRecDepth 20000 in
theorem qz_X18_unit_J15 {P : Nat → Nat} {S : zm_S} {M : qm} {i1 : Int32} {qi1 : Int} (hS : Sh L xs P S) (hM : qM P S = M) (ei1 : i1.toInt = qi1) : qs (zf_X18_unit_J15 20000 2156 i1 2156 S) (qf_X18_unit_J15 20000 qi1 M) (tO (rr L xs P vi)) := by
  unfold zf_X18_unit_J15 qf_X18_unit_J15
  exact (qz_X18_unit_J16 hS hM ei1 k_0)
set_option maxRecDepth 20000 in
theorem qz_X18_unit {P : Nat → Nat} {S : zm_S} {M : qm} {i1 : Int32} {qi1 : Int} (hS : Sh L xs P S) (hM : qM P S = M) (ei1 : i1.toInt = qi1) : qs (zf_X18_unit 20000 2156 i1 S) (qf_X18_unit 20000 qi1 M) (tO (rr L xs P vi)) := by
  unfold zf_X18_unit qf_X18_unit
  refine qs_ite (c_lt ei1 k_0) ?_ ?_
  · exact (qz_X18_unit_J15 hS hM ei1)
  · refine qs_ite (c_lt k_127 ei1) ?_ ?_
    · exact (qz_X18_unit_J15 hS hM ei1)
    · exact (qz_X18_unit_J16 hS hM ei1 k_1)
set_option maxRecDepth 20000 in
theorem qz_X5_write {P : Nat → Nat} {S : zm_S} {M : qm} {i1 : Int32} {qi1 : Int} (hS : Sh L xs P S) (hM : qM P S = M) (ei1 : i1.toInt = qi1) : qs (zf_X5_write 20000 908 i1 S) (qf_X5_write 20000 qi1 M) (tO (rr L xs P vu)) := by
  unfold zf_X5_write qf_X5_write
  refine qs_gi hS hM pl_908 ts_908 (z := 2) rfl rfl (fun v5227 h5227 => ?_)
  refine qs_gr hS pl_908 ts_908 rfl ?_
  refine qs_n (pa_p hS pl_909 ts_909) (by decide) (x := 2200) (by decide) (fun v5229 h5229 => ?_)
  refine qs_ite (c_le h5229 h5227) ?_ ?_
  · exact qs_tr (show vu _ _ from trivial) hS hM
  · refine qs_gr hS pl_908 ts_908 rfl ?_
    refine qs_gi hS hM pl_908 ts_908 (z := 2) rfl rfl (fun v5231 h5231 => ?_)
    refine qs_gd (fun g5233 => ?_)
    refine qs_sc hS hM (pa_p hS pl_909 ts_909) h5231 g5233 (p_nar ei1) (fun S5232 M5232 hS5232 hM5232 => ?_)
    refine qs_gi hS5232 hM5232 pl_908 ts_908 (z := 2) rfl rfl (fun v5234 h5234 => ?_)
    refine qs_pi hS5232 hM5232 pl_908 ts_908 (z := 2) rfl rfl (p_add h5234 k_1) (fun S5235 M5235 hS5235 hM5235 => ?_)
    exact qs_tr (show vu _ _ from trivial) hS5235 hM5235
set_option maxRecDepth 20000 in
theorem qz_X5_writePart_L4_b (n : Nat) {P : Nat → Nat} {S : zm_S} {M : qm} {j1 : Int64} {qj1 : Int} {i3 : Int32} {qi3 : Int} {i4 : Int32} {qi4 : Int} (hS : Sh L xs P S) (hM : qM P S = M) (ej1 : j1.toInt = qj1) (ei3 : i3.toInt = qi3) (ei4 : i4.toInt = qi4) : qs (zf_X5_writePart_L4 20000 (n + 1) 908 j1 i3 i4 S) (qf_X5_writePart_L4_b 20000 qj1 qi3 qi4 M) (tk (vs (rr L xs P vu) (rr L xs P vu)) (qc_X5_writePart_L4 L xs P (zf_X5_writePart_L4 20000 n))) := by
  refine qs_eq (zf_X5_writePart_L4.eq_2 ..) ?_
  unfold qf_X5_writePart_L4_b
  refine qs_ite (c_lt ei4 k_0) ?_ ?_
  · exact qs_tr2 (show vu _ _ from trivial) hS hM
  · refine qs_ite (g_eq (pl_and (pl_shr ej1 (p_64 ei4)) kl_255) kl_0) ?_ ?_
    · exact qs_tk ⟨_, _, _, _, rfl, ej1, ei3, (p_addm ei4 k_m8), hS, hM⟩
    · refine qs_zi hS pl_908 ts_908 ?_
      refine qs_b (qz_X5_write hS hM (p_chr (p_32 (pl_and (pl_shr ej1 (p_64 ei4)) kl_255)))) (fun v5237 S5237 w5237 M5237 h5237 hS5237 hM5237 => ?_)
      exact qs_tk ⟨_, _, _, _, rfl, ej1, ei3, (p_addm ei4 k_m8), hS5237, hM5237⟩
theorem qz_X5_writePart_L4 (n : Nat) : ∀ {P : Nat → Nat} {S : zm_S} {M : qm} {j1 : Int64} {qj1 : Int} {i3 : Int32} {qi3 : Int} {i4 : Int32} {qi4 : Int} (hS : Sh L xs P S) (hM : qM P S = M) (ej1 : j1.toInt = qj1) (ei3 : i3.toInt = qi3) (ei4 : i4.toInt = qi4), qs (zf_X5_writePart_L4 20000 n 908 j1 i3 i4 S) (qf_X5_writePart_L4 20000 n qj1 qi3 qi4 M) (tO (vs (rr L xs P vu) (rr L xs P vu))) := by
  induction n with
  | zero =>
    intros
    exact qs_none
  | succ n ih =>
    intro P S M j1 qj1 i3 qi3 i4 qi4 hS hM ej1 ei3 ei4
    unfold qf_X5_writePart_L4
    refine qs_loop (C := (qc_X5_writePart_L4 L xs P (zf_X5_writePart_L4 20000 n))) (qz_X5_writePart_L4_b n hS hM ej1 ei3 ei4) ?_
    rintro x s ⟨_, _, _, _, rfl, u0, u1, u2, hS2, hM2⟩
    exact ih hS2 hM2 u0 u1 u2
set_option maxRecDepth 20000 in
theorem qz_X5_writeNumber_J44 {P : Nat → Nat} {S : zm_S} {M : qm} {i1 : Int32} {qi1 : Int} {i2 : Int32} {qi2 : Int} {i3 : Int32} {qi3 : Int} (hS : Sh L xs P S) (hM : qM P S = M) (ei1 : i1.toInt = qi1) (ei2 : i2.toInt = qi2) (ei3 : i3.toInt = qi3) {k : Nat → Int32 → Int32 → Int32 → zm_S → Option ((Unit × zm_S) ⊕ ((Unit) × zm_S))} : qs (zf_X5_writeNumber_J44 20000 k 908 i1 i2 i3 S) (qf_X5_writeNumber_J44 20000 qi1 qi2 qi3 M) (tk (vs (rr L xs P vu) (rr L xs P vu)) (qc_X5_writeNumber_L6 L xs P k)) := by
  unfold zf_X5_writeNumber_J44 qf_X5_writeNumber_J44
  exact qs_tk ⟨_, _, _, _, rfl, ei1, ei2, (p_div ei3 k_10 (by decide)), hS, hM⟩
set_option maxRecDepth 20000 in
theorem qz_X5_writeNumber_J32 {P : Nat → Nat} {S : zm_S} {M : qm} {i1 : Int32} {qi1 : Int} {i3 : Int32} {qi3 : Int} {i4 : Int32} {qi4 : Int} (hS : Sh L xs P S) (hM : qM P S = M) (ei1 : i1.toInt = qi1) (ei3 : i3.toInt = qi3) (ei4 : i4.toInt = qi4) {k : Nat → Int32 → Int32 → Int32 → zm_S → Option ((Unit × zm_S) ⊕ ((Unit) × zm_S))} : qs (zf_X5_writeNumber_J32 20000 k 908 i1 i3 i4 S) (qf_X5_writeNumber_J32 20000 qi1 qi3 qi4 M) (tk (vs (rr L xs P vu) (rr L xs P vu)) (qc_X5_writeNumber_L6 L xs P k)) := by
  unfold zf_X5_writeNumber_J32 qf_X5_writeNumber_J32
  refine qs_zi hS pl_908 ts_908 ?_
  refine qs_b (qz_X5_write hS hM (p_chr (p_add k_48 ei4))) (fun v5239 S5239 w5239 M5239 h5239 hS5239 hM5239 => ?_)
  exact (qz_X5_writeNumber_J44 hS5239 hM5239 ei1 k_1 ei3)
set_option maxRecDepth 20000 in
theorem qz_X5_writeNumber_L6_b (n : Nat) {P : Nat → Nat} {S : zm_S} {M : qm} {i1 : Int32} {qi1 : Int} {i2 : Int32} {qi2 : Int} {i3 : Int32} {qi3 : Int} (hS : Sh L xs P S) (hM : qM P S = M) (ei1 : i1.toInt = qi1) (ei2 : i2.toInt = qi2) (ei3 : i3.toInt = qi3) : qs (zf_X5_writeNumber_L6 20000 (n + 1) 908 i1 i2 i3 S) (qf_X5_writeNumber_L6_b 20000 qi1 qi2 qi3 M) (tk (vs (rr L xs P vu) (rr L xs P vu)) (qc_X5_writeNumber_L6 L xs P (zf_X5_writeNumber_L6 20000 n))) := by
  refine qs_eq (zf_X5_writeNumber_L6.eq_2 ..) ?_
  unfold qf_X5_writeNumber_L6_b
  refine qs_ite (c_le ei3 k_0) ?_ ?_
  · exact qs_tr2 (show vu _ _ from trivial) hS hM
  · refine qs_ite (c_eq ei3 k_0) ?_ ?_
    · exact qs_none
    · refine qs_ite (c_eq (p_mod (p_divw ei1 ei3) k_10) k_0) ?_ ?_
      · refine qs_ite (c_eq ei2 k_0) ?_ ?_
        · refine qs_ite (c_eq ei3 k_1) ?_ ?_
          · exact (qz_X5_writeNumber_J32 hS hM ei1 ei3 (p_mod (p_divw ei1 ei3) k_10))
          · exact (qz_X5_writeNumber_J44 hS hM ei1 ei2 ei3)
        · exact (qz_X5_writeNumber_J32 hS hM ei1 ei3 (p_mod (p_divw ei1 ei3) k_10))
      · exact (qz_X5_writeNumber_J32 hS hM ei1 ei3 (p_mod (p_divw ei1 ei3) k_10))
theorem qz_X5_writeNumber_L6 (n : Nat) : ∀ {P : Nat → Nat} {S : zm_S} {M : qm} {i1 : Int32} {qi1 : Int} {i2 : Int32} {qi2 : Int} {i3 : Int32} {qi3 : Int} (hS : Sh L xs P S) (hM : qM P S = M) (ei1 : i1.toInt = qi1) (ei2 : i2.toInt = qi2) (ei3 : i3.toInt = qi3), qs (zf_X5_writeNumber_L6 20000 n 908 i1 i2 i3 S) (qf_X5_writeNumber_L6 20000 n qi1 qi2 qi3 M) (tO (vs (rr L xs P vu) (rr L xs P vu))) := by
  induction n with
  | zero =>
    intros
    exact qs_none
  | succ n ih =>
    intro P S M i1 qi1 i2 qi2 i3 qi3 hS hM ei1 ei2 ei3
    unfold qf_X5_writeNumber_L6
    refine qs_loop (C := (qc_X5_writeNumber_L6 L xs P (zf_X5_writeNumber_L6 20000 n))) (qz_X5_writeNumber_L6_b n hS hM ei1 ei2 ei3) ?_
    rintro x s ⟨_, _, _, _, rfl, u0, u1, u2, hS2, hM2⟩
    exact ih hS2 hM2 u0 u1 u2
set_option maxRecDepth 20000 in
theorem qz_X5_writeNumber {P : Nat → Nat} {S : zm_S} {M : qm} {i1 : Int32} {qi1 : Int} (hS : Sh L xs P S) (hM : qM P S = M) (ei1 : i1.toInt = qi1) : qs (zf_X5_writeNumber 20000 908 i1 S) (qf_X5_writeNumber 20000 qi1 M) (tO (rr L xs P vu)) := by
  unfold zf_X5_writeNumber qf_X5_writeNumber
  refine qs_lr (qz_X5_writeNumber_L6 20000 hS hM ei1 k_0 k_10000) ?_ ?_
  · intro v5241 S5241 w5241 M5241 h5241 hS5241 hM5241
    dsimp only
    exact qs_tr h5241 hS5241 hM5241
  · intro v5241 S5241 w5241 M5241 h5241 hS5241 hM5241
    dsimp only
    refine qs_zi hS5241 pl_908 ts_908 ?_
    refine qs_b (qz_X5_write hS5241 hM5241 k_32) (fun v5243 S5243 w5243 M5243 h5243 hS5243 hM5243 => ?_)
    exact qs_tr (show vu _ _ from trivial) hS5243 hM5243
set_option maxRecDepth 20000 in
theorem qz_X5_writePart {P : Nat → Nat} {S : zm_S} {M : qm} {j1 : Int64} {qj1 : Int} {i3 : Int32} {qi3 : Int} (hS : Sh L xs P S) (hM : qM P S = M) (ej1 : j1.toInt = qj1) (ei3 : i3.toInt = qi3) : qs (zf_X5_writePart 20000 908 j1 i3 S) (qf_X5_writePart 20000 qj1 qi3 M) (tO (rr L xs P vu)) := by
  unfold zf_X5_writePart qf_X5_writePart
  refine qs_lr (qz_X5_writePart_L4 20000 hS hM ej1 ei3 k_56) ?_ ?_
  · intro v5245 S5245 w5245 M5245 h5245 hS5245 hM5245
    dsimp only
    exact qs_tr h5245 hS5245 hM5245
  · intro v5245 S5245 w5245 M5245 h5245 hS5245 hM5245
    dsimp only
    refine qs_zi hS5245 pl_908 ts_908 ?_
    refine qs_b (qz_X5_write hS5245 hM5245 k_32) (fun v5247 S5247 w5247 M5247 h5247 hS5247 hM5247 => ?_)
    refine qs_zi hS5247 pl_908 ts_908 ?_
    refine qs_b (qz_X5_writeNumber hS5247 hM5247 ei3) (fun v5249 S5249 w5249 M5249 h5249 hS5249 hM5249 => ?_)
    exact qs_tr (show vu _ _ from trivial) hS5249 hM5249
set_option maxRecDepth 20000 in
theorem qz_X5_writeSentence_L68_b (n : Nat) {P : Nat → Nat} {S : zm_S} {M : qm} {i4 : Int32} {qi4 : Int} {i5 : Int32} {qi5 : Int} {i6 : Int32} {qi6 : Int} (hS : Sh L xs P S) (hM : qM P S = M) (ei4 : i4.toInt = qi4) (ei5 : i5.toInt = qi5) (ei6 : i6.toInt = qi6) : qs (zf_X5_writeSentence_L68 20000 (n + 1) 908 i4 i5 i6 S) (qf_X5_writeSentence_L68_b 20000 qi4 qi5 qi6 M) (tk (vs (rr L xs P vi) (rr L xs P vu)) (qc_X5_writeSentence_L68 L xs P (zf_X5_writeSentence_L68 20000 n))) := by
  refine qs_eq (zf_X5_writeSentence_L68.eq_2 ..) ?_
  unfold qf_X5_writeSentence_L68_b
  refine qs_ite (c_le ei5 ei6) ?_ ?_
  · exact qs_tr2 (show vu _ _ from trivial) hS hM
  · refine qs_ite (c_le k_12 ei6) ?_ ?_
    · exact qs_tr2 (show vu _ _ from trivial) hS hM
    · refine qs_zi hS pl_908 ts_908 ?_
      refine qs_b (qz_X5_writeNumber hS hM (p_add ei4 ei6)) (fun v5251 S5251 w5251 M5251 h5251 hS5251 hM5251 => ?_)
      exact qs_tk ⟨_, _, _, _, rfl, ei4, ei5, (p_add ei6 k_1), hS5251, hM5251⟩
theorem qz_X5_writeSentence_L68 (n : Nat) : ∀ {P : Nat → Nat} {S : zm_S} {M : qm} {i4 : Int32} {qi4 : Int} {i5 : Int32} {qi5 : Int} {i6 : Int32} {qi6 : Int} (hS : Sh L xs P S) (hM : qM P S = M) (ei4 : i4.toInt = qi4) (ei5 : i5.toInt = qi5) (ei6 : i6.toInt = qi6), qs (zf_X5_writeSentence_L68 20000 n 908 i4 i5 i6 S) (qf_X5_writeSentence_L68 20000 n qi4 qi5 qi6 M) (tO (vs (rr L xs P vi) (rr L xs P vu))) := by
  induction n with
  | zero =>
    intros
    exact qs_none
  | succ n ih =>
    intro P S M i4 qi4 i5 qi5 i6 qi6 hS hM ei4 ei5 ei6
    unfold qf_X5_writeSentence_L68
    refine qs_loop (C := (qc_X5_writeSentence_L68 L xs P (zf_X5_writeSentence_L68 20000 n))) (qz_X5_writeSentence_L68_b n hS hM ei4 ei5 ei6) ?_
    rintro x s ⟨_, _, _, _, rfl, u0, u1, u2, hS2, hM2⟩
    exact ih hS2 hM2 u0 u1 u2
set_option maxRecDepth 20000 in
theorem qz_X5_writeSentence_J192 {P : Nat → Nat} {S : zm_S} {M : qm}  (hS : Sh L xs P S) (hM : qM P S = M)  : qs (zf_X5_writeSentence_J192 20000 908 S) (qf_X5_writeSentence_J192 20000 M) (tO (rr L xs P vi)) := by
  unfold zf_X5_writeSentence_J192 qf_X5_writeSentence_J192
  refine qs_zi hS pl_908 ts_908 ?_
  refine qs_b (qz_X5_write hS hM k_59) (fun v5253 S5253 w5253 M5253 h5253 hS5253 hM5253 => ?_)
  refine qs_zi hS5253 pl_908 ts_908 ?_
  refine qs_b (qz_X5_write hS5253 hM5253 k_32) (fun v5255 S5255 w5255 M5255 h5255 hS5255 hM5255 => ?_)
  refine qs_gi hS5255 hM5255 pl_908 ts_908 (z := 2) rfl rfl (fun v5256 h5256 => ?_)
  exact qs_tr (show vi _ _ from h5256) hS5255 hM5255
set_option maxRecDepth 20000 in
theorem qz_X5_writeSentence_J97 {P : Nat → Nat} {S : zm_S} {M : qm}  (hS : Sh L xs P S) (hM : qM P S = M)  : qs (zf_X5_writeSentence_J97 20000 908 S) (qf_X5_writeSentence_J97 20000 M) (tO (rr L xs P vi)) := by
  unfold zf_X5_writeSentence_J97 qf_X5_writeSentence_J97
  exact (qz_X5_writeSentence_J192 hS hM )
set_option maxRecDepth 20000 in
theorem qz_X5_writeSentence {P : Nat → Nat} {S : zm_S} {M : qm} {i1 : Int32} {qi1 : Int} {i2 : Int32} {qi2 : Int} {i3 : Int32} {qi3 : Int} {i4 : Int32} {qi4 : Int} {i5 : Int32} {qi5 : Int} (hS : Sh L xs P S) (hM : qM P S = M) (ei1 : i1.toInt = qi1) (ei2 : i2.toInt = qi2) (ei3 : i3.toInt = qi3) (ei4 : i4.toInt = qi4) (ei5 : i5.toInt = qi5) : qs (zf_X5_writeSentence 20000 908 i1 i2 i3 i4 i5 S) (qf_X5_writeSentence 20000 qi1 qi2 qi3 qi4 qi5 M) (tO (rr L xs P vi)) := by
  unfold zf_X5_writeSentence qf_X5_writeSentence
  refine qs_gi hS hM pl_908 ts_908 (z := 1) rfl rfl (fun v5257 h5257 => ?_)
  refine qs_pi hS hM pl_908 ts_908 (z := 2) rfl rfl h5257 (fun S5258 M5258 hS5258 hM5258 => ?_)
  refine qs_ite (z_eq ei1) ?_ ?_
  · refine qs_zi hS5258 pl_908 ts_908 ?_
    refine qs_b (qz_X5_writePart hS5258 hM5258 kl_2054123109 ei2) (fun v5260 S5260 w5260 M5260 h5260 hS5260 hM5260 => ?_)
    refine qs_zi hS5260 pl_908 ts_908 ?_
    refine qs_b (qz_X5_writePart hS5260 hM5260 kl_474147546227 ei3) (fun v5262 S5262 w5262 M5262 h5262 hS5262 hM5262 => ?_)
    refine qs_zi hS5262 pl_908 ts_908 ?_
    refine qs_b (qz_X5_writePart hS5262 hM5262 kl_28518 ei4) (fun v5264 S5264 w5264 M5264 h5264 hS5264 hM5264 => ?_)
    refine qs_lr (qz_X5_writeSentence_L68 20000 hS5264 hM5264 ei4 ei5 k_1) ?_ ?_
    · intro v5266 S5266 w5266 M5266 h5266 hS5266 hM5266
      dsimp only
      exact qs_tr h5266 hS5266 hM5266
    · intro v5266 S5266 w5266 M5266 h5266 hS5266 hM5266
      dsimp only
      exact (qz_X5_writeSentence_J97 hS5266 hM5266 )
  · refine qs_ite (z_eq ei1) ?_ ?_
    · refine qs_zi hS5258 pl_908 ts_908 ?_
      refine qs_b (qz_X5_writePart hS5258 hM5258 kl_6382452 ei2) (fun v5268 S5268 w5268 M5268 h5268 hS5268 hM5268 => ?_)
      refine qs_zi hS5268 pl_908 ts_908 ?_
      refine qs_b (qz_X5_writePart hS5268 hM5268 kl_1802071652 ei3) (fun v5270 S5270 w5270 M5270 h5270 hS5270 hM5270 => ?_)
      refine qs_zi hS5270 pl_908 ts_908 ?_
      refine qs_b (qz_X5_writePart hS5270 hM5270 kl_1918987883 ei4) (fun v5272 S5272 w5272 M5272 h5272 hS5272 hM5272 => ?_)
      refine qs_zi hS5272 pl_908 ts_908 ?_
      refine qs_b (qz_X5_writePart hS5272 hM5272 kl_431198331257 ei5) (fun v5274 S5274 w5274 M5274 h5274 hS5274 hM5274 => ?_)
      exact (qz_X5_writeSentence_J192 hS5274 hM5274 )
    · refine qs_ite (z_eq ei1) ?_ ?_
      · refine qs_zi hS5258 pl_908 ts_908 ?_
        refine qs_b (qz_X5_writePart hS5258 hM5258 kl_2003330414 ei2) (fun v5276 S5276 w5276 M5276 h5276 hS5276 hM5276 => ?_)
        refine qs_zi hS5276 pl_908 ts_908 ?_
        refine qs_b (qz_X5_writePart hS5276 hM5276 kl_1685022067 ei3) (fun v5278 S5278 w5278 M5278 h5278 hS5278 hM5278 => ?_)
        exact (qz_X5_writeSentence_J192 hS5278 hM5278 )
      · refine qs_ite (z_eq ei1) ?_ ?_
        · refine qs_zi hS5258 pl_908 ts_908 ?_
          refine qs_b (qz_X5_writePart hS5258 hM5258 kl_2003330414 ei2) (fun v5280 S5280 w5280 M5280 h5280 hS5280 hM5280 => ?_)
          refine qs_zi hS5280 pl_908 ts_908 ?_
          refine qs_b (qz_X5_writePart hS5280 hM5280 kl_38 ei3) (fun v5282 S5282 w5282 M5282 h5282 hS5282 hM5282 => ?_)
          refine qs_zi hS5282 pl_908 ts_908 ?_
          refine qs_b (qz_X5_writePart hS5282 hM5282 kl_1685022067 ei4) (fun v5284 S5284 w5284 M5284 h5284 hS5284 hM5284 => ?_)
          exact (qz_X5_writeSentence_J192 hS5284 hM5284 )
        · refine qs_zi hS5258 pl_908 ts_908 ?_
          refine qs_b (qz_X5_writePart hS5258 hM5258 kl_1752132708 ei2) (fun v5286 S5286 w5286 M5286 h5286 hS5286 hM5286 => ?_)
          exact (qz_X5_writeSentence_J192 hS5286 hM5286 )
set_option maxRecDepth 20000 in
theorem qz_X11_sentence_J66 {P : Nat → Nat} {S : zm_S} {M : qm} {i6 : Int32} {qi6 : Int} {t0 : Int32} {qt0 : Int} (hS : Sh L xs P S) (hM : qM P S = M) (ei6 : i6.toInt = qi6) (et0 : t0.toInt = qt0) : qs (zf_X11_sentence_J66 20000 6 i6 t0 S) (qf_X11_sentence_J66 20000 qi6 qt0 M) (tO (rr L xs P (vs vi ve))) := by
  unfold zf_X11_sentence_J66 qf_X11_sentence_J66
  refine qs_xp (qz_X11_needState hS hM et0) ?_ ?_
  · intro v5288 S5288 w5288 h5288 hS5288 hM5288
    dsimp only
    refine qs_gr hS5288 pl_6 ts_6 rfl ?_
    refine qs_pi hS5288 hM5288 pl_908 ts_908 (z := 1) rfl rfl ei6 (fun S5290 M5290 hS5290 hM5290 => ?_)
    exact qs_tr (show (vs vi ve) _ _ from ei6) hS5290 hM5290
  · intro v5288 S5288 hS5288 hM5288
    dsimp only
    exact qs_tr (show (vs vi ve) _ _ from rfl) hS5288 hM5288
set_option maxRecDepth 20000 in
theorem qz_X11_sentence_J65 {P : Nat → Nat} {S : zm_S} {M : qm} {i6 : Int32} {qi6 : Int} (hS : Sh L xs P S) (hM : qM P S = M) (ei6 : i6.toInt = qi6) : qs (zf_X11_sentence_J65 20000 6 i6 S) (qf_X11_sentence_J65 20000 qi6 M) (tO (rr L xs P (vs vi ve))) := by
  unfold zf_X11_sentence_J65 qf_X11_sentence_J65
  exact (qz_X11_sentence_J66 hS hM ei6 k_0)
set_option maxRecDepth 20000 in
theorem qz_X11_sentence_J27 {P : Nat → Nat} {S : zm_S} {M : qm} {i1 : Int32} {qi1 : Int} {i2 : Int32} {qi2 : Int} {i3 : Int32} {qi3 : Int} {i4 : Int32} {qi4 : Int} {i5 : Int32} {qi5 : Int} {t0 : Int32} {qt0 : Int} (hS : Sh L xs P S) (hM : qM P S = M) (ei1 : i1.toInt = qi1) (ei2 : i2.toInt = qi2) (ei3 : i3.toInt = qi3) (ei4 : i4.toInt = qi4) (ei5 : i5.toInt = qi5) (et0 : t0.toInt = qt0) : qs (zf_X11_sentence_J27 20000 6 i1 i2 i3 i4 i5 t0 S) (qf_X11_sentence_J27 20000 qi1 qi2 qi3 qi4 qi5 qt0 M) (tO (rr L xs P (vs vi ve))) := by
  unfold zf_X11_sentence_J27 qf_X11_sentence_J27
  refine qs_xp (qz_X11_needArgument hS hM et0) ?_ ?_
  · intro v5292 S5292 w5292 h5292 hS5292 hM5292
    dsimp only
    refine qs_gr hS5292 pl_6 ts_6 rfl ?_
    refine qs_zi hS5292 pl_908 ts_908 ?_
    refine qs_b (qz_X5_writeSentence hS5292 hM5292 ei1 ei2 ei3 ei4 ei5) (fun v5295 S5295 w5295 M5295 h5295 hS5295 hM5295 => ?_)
    refine qs_gi hS5295 hM5295 pl_6 ts_6 (z := 11) rfl rfl (fun v5296 h5296 => ?_)
    refine qs_ite (c_eq h5296 k_0) ?_ ?_
    · exact (qz_X11_sentence_J65 hS5295 hM5295 h5295)
    · refine qs_ite (c_lt k_2000 h5295) ?_ ?_
      · exact (qz_X11_sentence_J65 hS5295 hM5295 h5295)
      · exact (qz_X11_sentence_J66 hS5295 hM5295 h5295 k_1)
  · intro v5292 S5292 hS5292 hM5292
    dsimp only
    exact qs_tr (show (vs vi ve) _ _ from rfl) hS5292 hM5292
set_option maxRecDepth 20000 in
theorem qz_X11_sentence_J26 {P : Nat → Nat} {S : zm_S} {M : qm} {i1 : Int32} {qi1 : Int} {i2 : Int32} {qi2 : Int} {i3 : Int32} {qi3 : Int} {i4 : Int32} {qi4 : Int} {i5 : Int32} {qi5 : Int} (hS : Sh L xs P S) (hM : qM P S = M) (ei1 : i1.toInt = qi1) (ei2 : i2.toInt = qi2) (ei3 : i3.toInt = qi3) (ei4 : i4.toInt = qi4) (ei5 : i5.toInt = qi5) : qs (zf_X11_sentence_J26 20000 6 i1 i2 i3 i4 i5 S) (qf_X11_sentence_J26 20000 qi1 qi2 qi3 qi4 qi5 M) (tO (rr L xs P (vs vi ve))) := by
  unfold zf_X11_sentence_J26 qf_X11_sentence_J26
  exact (qz_X11_sentence_J27 hS hM ei1 ei2 ei3 ei4 ei5 k_0)
set_option maxRecDepth 20000 in
theorem qz_X11_isSentenceNumber {P : Nat → Nat} {S : zm_S} {M : qm} {i0 : Int32} {qi0 : Int} (hS : Sh L xs P S) (hM : qM P S = M) (ei0 : i0.toInt = qi0) : qs (zf_X11_isSentenceNumber 20000 i0 S) (qf_X11_isSentenceNumber 20000 qi0 M) (tO (rp L xs P M vi)) := by
  unfold zf_X11_isSentenceNumber qf_X11_isSentenceNumber
  refine qs_bp (qz_X11_isWithin hS hM ei0 k_0 k_9999) (fun v5297 S5297 w5297 h5297 hS5297 hM5297 => ?_)
  refine qs_ite (or_congr (c_eq h5297 k_0) (c_eq h5297 k_1)) ?_ ?_
  · exact qs_tp (show vi _ _ from h5297) hS5297 hM5297
  · exact qs_none
set_option maxRecDepth 20000 in
theorem qz_X11_areSentenceNumbers_J112 {P : Nat → Nat} {S : zm_S} {M : qm}  (hS : Sh L xs P S) (hM : qM P S = M)  : qs (zf_X11_areSentenceNumbers_J112 20000 S) (qf_X11_areSentenceNumbers_J112 20000 M) (tO (rp L xs P M vi)) := by
  unfold zf_X11_areSentenceNumbers_J112 qf_X11_areSentenceNumbers_J112
  exact qs_tp (show vi _ _ from k_0) hS hM
set_option maxRecDepth 20000 in
theorem qz_X11_areSentenceNumbers_J90 {P : Nat → Nat} {S : zm_S} {M : qm} {i0 : Int32} {qi0 : Int} {i4 : Int32} {qi4 : Int} {i5 : Int32} {qi5 : Int} (hS : Sh L xs P S) (hM : qM P S = M) (ei0 : i0.toInt = qi0) (ei4 : i4.toInt = qi4) (ei5 : i5.toInt = qi5) : qs (zf_X11_areSentenceNumbers_J90 20000 i0 i4 i5 S) (qf_X11_areSentenceNumbers_J90 20000 qi0 qi4 qi5 M) (tO (rp L xs P M vi)) := by
  unfold zf_X11_areSentenceNumbers_J90 qf_X11_areSentenceNumbers_J90
  refine qs_ite (c_eq ei0 k_1) ?_ ?_
  · refine qs_ite (c_eq ei5 k_0) ?_ ?_
    · exact (qz_X11_areSentenceNumbers_J112 hS hM )
    · refine qs_bp (qz_X11_isSentenceNumber hS hM ei4) (fun v5298 S5298 w5298 h5298 hS5298 hM5298 => ?_)
      refine qs_ite (c_eq h5298 k_0) ?_ ?_
      · exact (qz_X11_areSentenceNumbers_J112 hS5298 hM5298 )
      · exact qs_tp (show vi _ _ from k_1) hS5298 hM5298
  · refine qs_ite (or_congr (c_eq ei5 k_0) (c_eq ei5 k_1)) ?_ ?_
    · exact qs_tp (show vi _ _ from ei5) hS hM
    · exact qs_none
set_option maxRecDepth 20000 in
theorem qz_X11_areSentenceNumbers_J88 {P : Nat → Nat} {S : zm_S} {M : qm} {i0 : Int32} {qi0 : Int} {i4 : Int32} {qi4 : Int} {t0 : Int32} {qt0 : Int} (hS : Sh L xs P S) (hM : qM P S = M) (ei0 : i0.toInt = qi0) (ei4 : i4.toInt = qi4) (et0 : t0.toInt = qt0) : qs (zf_X11_areSentenceNumbers_J88 20000 i0 i4 t0 S) (qf_X11_areSentenceNumbers_J88 20000 qi0 qi4 qt0 M) (tO (rp L xs P M vi)) := by
  unfold zf_X11_areSentenceNumbers_J88 qf_X11_areSentenceNumbers_J88
  exact (qz_X11_areSentenceNumbers_J90 hS hM ei0 ei4 et0)
set_option maxRecDepth 20000 in
theorem qz_X11_areSentenceNumbers_J87 {P : Nat → Nat} {S : zm_S} {M : qm} {i0 : Int32} {qi0 : Int} {i4 : Int32} {qi4 : Int} (hS : Sh L xs P S) (hM : qM P S = M) (ei0 : i0.toInt = qi0) (ei4 : i4.toInt = qi4) : qs (zf_X11_areSentenceNumbers_J87 20000 i0 i4 S) (qf_X11_areSentenceNumbers_J87 20000 qi0 qi4 M) (tO (rp L xs P M vi)) := by
  unfold zf_X11_areSentenceNumbers_J87 qf_X11_areSentenceNumbers_J87
  exact (qz_X11_areSentenceNumbers_J88 hS hM ei0 ei4 k_0)
set_option maxRecDepth 20000 in
theorem qz_X11_areSentenceNumbers_J63 {P : Nat → Nat} {S : zm_S} {M : qm} {i0 : Int32} {qi0 : Int} {i4 : Int32} {qi4 : Int} {i5 : Int32} {qi5 : Int} (hS : Sh L xs P S) (hM : qM P S = M) (ei0 : i0.toInt = qi0) (ei4 : i4.toInt = qi4) (ei5 : i5.toInt = qi5) : qs (zf_X11_areSentenceNumbers_J63 20000 i0 i4 i5 S) (qf_X11_areSentenceNumbers_J63 20000 qi0 qi4 qi5 M) (tO (rp L xs P M vi)) := by
  unfold zf_X11_areSentenceNumbers_J63 qf_X11_areSentenceNumbers_J63
  refine qs_ite (c_eq ei0 k_0) ?_ ?_
  · refine qs_ite (c_eq ei5 k_0) ?_ ?_
    · exact (qz_X11_areSentenceNumbers_J87 hS hM ei0 ei4)
    · refine qs_bp (qz_X11_isWithin hS hM ei4 k_1 k_12) (fun v5299 S5299 w5299 h5299 hS5299 hM5299 => ?_)
      refine qs_ite (c_eq h5299 k_0) ?_ ?_
      · exact (qz_X11_areSentenceNumbers_J87 hS5299 hM5299 ei0 ei4)
      · exact (qz_X11_areSentenceNumbers_J88 hS5299 hM5299 ei0 ei4 k_1)
  · exact (qz_X11_areSentenceNumbers_J90 hS hM ei0 ei4 ei5)
set_option maxRecDepth 20000 in
theorem qz_X11_areSentenceNumbers_J61 {P : Nat → Nat} {S : zm_S} {M : qm} {i0 : Int32} {qi0 : Int} {i4 : Int32} {qi4 : Int} {t0 : Int32} {qt0 : Int} (hS : Sh L xs P S) (hM : qM P S = M) (ei0 : i0.toInt = qi0) (ei4 : i4.toInt = qi4) (et0 : t0.toInt = qt0) : qs (zf_X11_areSentenceNumbers_J61 20000 i0 i4 t0 S) (qf_X11_areSentenceNumbers_J61 20000 qi0 qi4 qt0 M) (tO (rp L xs P M vi)) := by
  unfold zf_X11_areSentenceNumbers_J61 qf_X11_areSentenceNumbers_J61
  exact (qz_X11_areSentenceNumbers_J63 hS hM ei0 ei4 et0)
set_option maxRecDepth 20000 in
theorem qz_X11_areSentenceNumbers_J60 {P : Nat → Nat} {S : zm_S} {M : qm} {i0 : Int32} {qi0 : Int} {i4 : Int32} {qi4 : Int} (hS : Sh L xs P S) (hM : qM P S = M) (ei0 : i0.toInt = qi0) (ei4 : i4.toInt = qi4) : qs (zf_X11_areSentenceNumbers_J60 20000 i0 i4 S) (qf_X11_areSentenceNumbers_J60 20000 qi0 qi4 M) (tO (rp L xs P M vi)) := by
  unfold zf_X11_areSentenceNumbers_J60 qf_X11_areSentenceNumbers_J60
  exact (qz_X11_areSentenceNumbers_J61 hS hM ei0 ei4 k_0)
set_option maxRecDepth 20000 in
theorem qz_X11_areSentenceNumbers_J44 {P : Nat → Nat} {S : zm_S} {M : qm} {i0 : Int32} {qi0 : Int} {i3 : Int32} {qi3 : Int} {i4 : Int32} {qi4 : Int} {i5 : Int32} {qi5 : Int} (hS : Sh L xs P S) (hM : qM P S = M) (ei0 : i0.toInt = qi0) (ei3 : i3.toInt = qi3) (ei4 : i4.toInt = qi4) (ei5 : i5.toInt = qi5) : qs (zf_X11_areSentenceNumbers_J44 20000 i0 i3 i4 i5 S) (qf_X11_areSentenceNumbers_J44 20000 qi0 qi3 qi4 qi5 M) (tO (rp L xs P M vi)) := by
  unfold zf_X11_areSentenceNumbers_J44 qf_X11_areSentenceNumbers_J44
  refine qs_ite (c_eq ei5 k_0) ?_ ?_
  · exact (qz_X11_areSentenceNumbers_J60 hS hM ei0 ei4)
  · refine qs_bp (qz_X11_isSentenceNumber hS hM ei3) (fun v5300 S5300 w5300 h5300 hS5300 hM5300 => ?_)
    refine qs_ite (c_eq h5300 k_0) ?_ ?_
    · exact (qz_X11_areSentenceNumbers_J60 hS5300 hM5300 ei0 ei4)
    · exact (qz_X11_areSentenceNumbers_J61 hS5300 hM5300 ei0 ei4 k_1)
set_option maxRecDepth 20000 in
theorem qz_X11_areSentenceNumbers_J30 {P : Nat → Nat} {S : zm_S} {M : qm} {i0 : Int32} {qi0 : Int} {i3 : Int32} {qi3 : Int} {i4 : Int32} {qi4 : Int} {i5 : Int32} {qi5 : Int} (hS : Sh L xs P S) (hM : qM P S = M) (ei0 : i0.toInt = qi0) (ei3 : i3.toInt = qi3) (ei4 : i4.toInt = qi4) (ei5 : i5.toInt = qi5) : qs (zf_X11_areSentenceNumbers_J30 20000 i0 i3 i4 i5 S) (qf_X11_areSentenceNumbers_J30 20000 qi0 qi3 qi4 qi5 M) (tO (rp L xs P M vi)) := by
  unfold zf_X11_areSentenceNumbers_J30 qf_X11_areSentenceNumbers_J30
  refine qs_ite (c_eq ei0 k_0) ?_ ?_
  · exact (qz_X11_areSentenceNumbers_J44 hS hM ei0 ei3 ei4 ei5)
  · refine qs_ite (c_eq ei0 k_1) ?_ ?_
    · exact (qz_X11_areSentenceNumbers_J44 hS hM ei0 ei3 ei4 ei5)
    · refine qs_ite (c_eq ei0 k_3) ?_ ?_
      · exact (qz_X11_areSentenceNumbers_J44 hS hM ei0 ei3 ei4 ei5)
      · exact (qz_X11_areSentenceNumbers_J63 hS hM ei0 ei4 ei5)
set_option maxRecDepth 20000 in
theorem qz_X11_areSentenceNumbers_J28 {P : Nat → Nat} {S : zm_S} {M : qm} {i0 : Int32} {qi0 : Int} {i3 : Int32} {qi3 : Int} {i4 : Int32} {qi4 : Int} {t0 : Int32} {qt0 : Int} (hS : Sh L xs P S) (hM : qM P S = M) (ei0 : i0.toInt = qi0) (ei3 : i3.toInt = qi3) (ei4 : i4.toInt = qi4) (et0 : t0.toInt = qt0) : qs (zf_X11_areSentenceNumbers_J28 20000 i0 i3 i4 t0 S) (qf_X11_areSentenceNumbers_J28 20000 qi0 qi3 qi4 qt0 M) (tO (rp L xs P M vi)) := by
  unfold zf_X11_areSentenceNumbers_J28 qf_X11_areSentenceNumbers_J28
  exact (qz_X11_areSentenceNumbers_J30 hS hM ei0 ei3 ei4 et0)
set_option maxRecDepth 20000 in
theorem qz_X11_areSentenceNumbers_J27 {P : Nat → Nat} {S : zm_S} {M : qm} {i0 : Int32} {qi0 : Int} {i3 : Int32} {qi3 : Int} {i4 : Int32} {qi4 : Int} (hS : Sh L xs P S) (hM : qM P S = M) (ei0 : i0.toInt = qi0) (ei3 : i3.toInt = qi3) (ei4 : i4.toInt = qi4) : qs (zf_X11_areSentenceNumbers_J27 20000 i0 i3 i4 S) (qf_X11_areSentenceNumbers_J27 20000 qi0 qi3 qi4 M) (tO (rp L xs P M vi)) := by
  unfold zf_X11_areSentenceNumbers_J27 qf_X11_areSentenceNumbers_J27
  exact (qz_X11_areSentenceNumbers_J28 hS hM ei0 ei3 ei4 k_0)
set_option maxRecDepth 20000 in
theorem qz_X11_areSentenceNumbers {P : Nat → Nat} {S : zm_S} {M : qm} {i0 : Int32} {qi0 : Int} {i1 : Int32} {qi1 : Int} {i2 : Int32} {qi2 : Int} {i3 : Int32} {qi3 : Int} {i4 : Int32} {qi4 : Int} (hS : Sh L xs P S) (hM : qM P S = M) (ei0 : i0.toInt = qi0) (ei1 : i1.toInt = qi1) (ei2 : i2.toInt = qi2) (ei3 : i3.toInt = qi3) (ei4 : i4.toInt = qi4) : qs (zf_X11_areSentenceNumbers 20000 i0 i1 i2 i3 i4 S) (qf_X11_areSentenceNumbers 20000 qi0 qi1 qi2 qi3 qi4 M) (tO (rp L xs P M vi)) := by
  unfold zf_X11_areSentenceNumbers qf_X11_areSentenceNumbers
  refine qs_bp (qz_X11_isSentenceNumber hS hM ei1) (fun v5301 S5301 w5301 h5301 hS5301 hM5301 => ?_)
  refine qs_ite (c_eq ei0 k_4) ?_ ?_
  · exact (qz_X11_areSentenceNumbers_J30 hS5301 hM5301 ei0 ei3 ei4 h5301)
  · refine qs_ite (c_eq h5301 k_0) ?_ ?_
    · exact (qz_X11_areSentenceNumbers_J27 hS5301 hM5301 ei0 ei3 ei4)
    · refine qs_bp (qz_X11_isSentenceNumber hS5301 hM5301 ei2) (fun v5302 S5302 w5302 h5302 hS5302 hM5302 => ?_)
      refine qs_ite (c_eq h5302 k_0) ?_ ?_
      · exact (qz_X11_areSentenceNumbers_J27 hS5302 hM5302 ei0 ei3 ei4)
      · exact (qz_X11_areSentenceNumbers_J28 hS5302 hM5302 ei0 ei3 ei4 k_1)
set_option maxRecDepth 20000 in
theorem qz_X11_sentence {P : Nat → Nat} {S : zm_S} {M : qm} {i1 : Int32} {qi1 : Int} {i2 : Int32} {qi2 : Int} {i3 : Int32} {qi3 : Int} {i4 : Int32} {qi4 : Int} {i5 : Int32} {qi5 : Int} (hS : Sh L xs P S) (hM : qM P S = M) (ei1 : i1.toInt = qi1) (ei2 : i2.toInt = qi2) (ei3 : i3.toInt = qi3) (ei4 : i4.toInt = qi4) (ei5 : i5.toInt = qi5) : qs (zf_X11_sentence 20000 6 i1 i2 i3 i4 i5 S) (qf_X11_sentence 20000 qi1 qi2 qi3 qi4 qi5 M) (tO (rr L xs P (vs vi ve))) := by
  unfold zf_X11_sentence qf_X11_sentence
  refine qs_bp (qz_X11_isWithin hS hM ei1 k_0 k_4) (fun v5303 S5303 w5303 h5303 hS5303 hM5303 => ?_)
  refine qs_ite (c_eq h5303 k_0) ?_ ?_
  · exact (qz_X11_sentence_J26 hS5303 hM5303 ei1 ei2 ei3 ei4 ei5)
  · refine qs_bp (qz_X11_areSentenceNumbers hS5303 hM5303 ei1 ei2 ei3 ei4 ei5) (fun v5304 S5304 w5304 h5304 hS5304 hM5304 => ?_)
    refine qs_ite (c_eq h5304 k_0) ?_ ?_
    · exact (qz_X11_sentence_J26 hS5304 hM5304 ei1 ei2 ei3 ei4 ei5)
    · exact (qz_X11_sentence_J27 hS5304 hM5304 ei1 ei2 ei3 ei4 ei5 k_1)
set_option maxRecDepth 20000 in
theorem qz_L_sentence {P : Nat → Nat} {S : zm_S} {M : qm} {i1 : Int32} {qi1 : Int} {i2 : Int32} {qi2 : Int} {i3 : Int32} {qi3 : Int} {i4 : Int32} {qi4 : Int} {i5 : Int32} {qi5 : Int} (hS : Sh L xs P S) (hM : qM P S = M) (ei1 : i1.toInt = qi1) (ei2 : i2.toInt = qi2) (ei3 : i3.toInt = qi3) (ei4 : i4.toInt = qi4) (ei5 : i5.toInt = qi5) : qs (zf_L_sentence 20000 6 i1 i2 i3 i4 i5 2332 S) (qf_L_sentence 20000 qi1 qi2 qi3 qi4 qi5 M) (tO (rr L xs P vi)) := by
  unfold zf_L_sentence qf_L_sentence
  refine qs_zi hS pl_6 ts_6 ?_
  refine qs_xr (qz_X11_sentence hS hM ei1 ei2 ei3 ei4 ei5) ?_ ?_
  · intro v5307 S5307 w5307 M5307 h5307 hS5307 hM5307
    dsimp only
    refine qs_sl hS5307 hM5307 (pa_p hS5307 pl_2332 ts_2332) k_0 (by decide) (p_64 h5307) (fun S5308 M5308 hS5308 hM5308 => ?_)
    exact qs_tr (show vi _ _ from k_0) hS5308 hM5308
  · intro v5307 S5307 M5307 hS5307 hM5307
    dsimp only
    refine qs_ite Iff.rfl ?_ ?_
    · exact qs_tr (show vi _ _ from k_1) hS5307 hM5307
    · refine qs_ite Iff.rfl ?_ ?_
      · exact qs_tr (show vi _ _ from k_2) hS5307 hM5307
      · exact qs_none
set_option maxRecDepth 20000 in
theorem qz_X14_say_L2_b (n : Nat) {P : Nat → Nat} {S : zm_S} {M : qm} {i1 : Int32} {qi1 : Int} (hS : Sh L xs P S) (hM : qM P S = M) (ei1 : i1.toInt = qi1) : qs (zf_X14_say_L2 20000 (n + 1) 2208 i1 S) (qf_X14_say_L2_b 20000 qi1 M) (tk (vs (rr L xs P vi) (rr L xs P vu)) (qc_X14_say_L2 L xs P (zf_X14_say_L2 20000 n))) := by
  refine qs_eq (zf_X14_say_L2.eq_2 ..) ?_
  unfold qf_X14_say_L2_b
  refine qs_gi hS hM pl_2208 ts_2208 (z := 35) rfl rfl (fun v5309 h5309 => ?_)
  refine qs_ite (c_le h5309 ei1) ?_ ?_
  · exact qs_tr2 (show vu _ _ from trivial) hS hM
  · refine qs_gr hS pl_2208 ts_2208 rfl ?_
    refine qs_gd (fun g5312 => ?_)
    refine qs_xi hM (pa_p hS pl_2234 ts_2234) ei1 g5312 (fun v5311 h5311 => ?_)
    refine qs_zi hS pl_2208 ts_2208 ?_
    refine qs_b (qz_X14_unit hS hM h5311) (fun v5314 S5314 w5314 M5314 h5314 hS5314 hM5314 => ?_)
    exact qs_tk ⟨_, _, rfl, (p_add ei1 k_1), hS5314, hM5314⟩
theorem qz_X14_say_L2 (n : Nat) : ∀ {P : Nat → Nat} {S : zm_S} {M : qm} {i1 : Int32} {qi1 : Int} (hS : Sh L xs P S) (hM : qM P S = M) (ei1 : i1.toInt = qi1), qs (zf_X14_say_L2 20000 n 2208 i1 S) (qf_X14_say_L2 20000 n qi1 M) (tO (vs (rr L xs P vi) (rr L xs P vu))) := by
  induction n with
  | zero =>
    intros
    exact qs_none
  | succ n ih =>
    intro P S M i1 qi1 hS hM ei1
    unfold qf_X14_say_L2
    refine qs_loop (C := (qc_X14_say_L2 L xs P (zf_X14_say_L2 20000 n))) (qz_X14_say_L2_b n hS hM ei1) ?_
    rintro x s ⟨_, _, rfl, u0, hS2, hM2⟩
    exact ih hS2 hM2 u0
set_option maxRecDepth 20000 in
theorem qz_X14_say {P : Nat → Nat} {S : zm_S} {M : qm}  (hS : Sh L xs P S) (hM : qM P S = M)  : qs (zf_X14_say 20000 2208 S) (qf_X14_say 20000 M) (tO (rr L xs P vi)) := by
  unfold zf_X14_say qf_X14_say
  refine qs_lr (qz_X14_say_L2 20000 hS hM k_0) ?_ ?_
  · intro v5316 S5316 w5316 M5316 h5316 hS5316 hM5316
    dsimp only
    exact qs_tr h5316 hS5316 hM5316
  · intro v5316 S5316 w5316 M5316 h5316 hS5316 hM5316
    dsimp only
    refine qs_gi hS5316 hM5316 pl_2208 ts_2208 (z := 6) rfl rfl (fun v5317 h5317 => ?_)
    exact qs_tr (show vi _ _ from h5317) hS5316 hM5316
set_option maxRecDepth 20000 in
theorem qz_X18_sentence_J170 {P : Nat → Nat} {S : zm_S} {M : qm} {t1 : Int32} {qt1 : Int} {t2 : Int32} {qt2 : Int} (hS : Sh L xs P S) (hM : qM P S = M) (et1 : t1.toInt = qt1) (et2 : t2.toInt = qt2) : qs (zf_X18_sentence_J170 20000 2156 2156 t1 t2 S) (qf_X18_sentence_J170 20000 qt1 qt2 M) (tO (rr L xs P vi)) := by
  unfold zf_X18_sentence_J170 qf_X18_sentence_J170
  refine qs_zi hS pl_2156 ts_2156 ?_
  refine qs_b (qz_X18_goes hS hM et1 et2) (fun v5319 S5319 w5319 M5319 h5319 hS5319 hM5319 => ?_)
  refine qs_ite (c_eq h5319 k_0) ?_ ?_
  · exact qs_tr (show vi _ _ from k_0) hS5319 hM5319
  · refine qs_gr hS5319 pl_2156 ts_2156 rfl ?_
    refine qs_zi hS5319 pl_2208 ts_2208 ?_
    refine qs_b (qz_X14_say hS5319 hM5319 ) (fun v5322 S5322 w5322 M5322 h5322 hS5322 hM5322 => ?_)
    exact qs_tr (show vi _ _ from h5322) hS5322 hM5322
set_option maxRecDepth 20000 in
theorem qz_X18_sentence_J169 {P : Nat → Nat} {S : zm_S} {M : qm} {t1 : Int32} {qt1 : Int} (hS : Sh L xs P S) (hM : qM P S = M) (et1 : t1.toInt = qt1) : qs (zf_X18_sentence_J169 20000 2156 2156 t1 S) (qf_X18_sentence_J169 20000 qt1 M) (tO (rr L xs P vi)) := by
  unfold zf_X18_sentence_J169 qf_X18_sentence_J169
  exact (qz_X18_sentence_J170 hS hM et1 k_0)
set_option maxRecDepth 20000 in
theorem qz_X18_sentence_J134 {P : Nat → Nat} {S : zm_S} {M : qm} {i6 : Int32} {qi6 : Int} (hS : Sh L xs P S) (hM : qM P S = M) (ei6 : i6.toInt = qi6) : qs (zf_X18_sentence_J134 20000 2156 i6 S) (qf_X18_sentence_J134 20000 qi6 M) (tO (rr L xs P vi)) := by
  unfold zf_X18_sentence_J134 qf_X18_sentence_J134
  refine qs_gi hS hM pl_2156 ts_2156 (z := 1) rfl rfl (fun v5323 h5323 => ?_)
  refine qs_ite (c_eq h5323 k_0) ?_ ?_
  · exact (qz_X18_sentence_J169 hS hM ei6)
  · refine qs_gr hS pl_2156 ts_2156 rfl ?_
    refine qs_gi hS hM pl_2208 ts_2208 (z := 6) rfl rfl (fun v5325 h5325 => ?_)
    refine qs_gr hS pl_2156 ts_2156 rfl ?_
    refine qs_gi hS hM pl_2208 ts_2208 (z := 35) rfl rfl (fun v5327 h5327 => ?_)
    refine qs_ite (c_lt k_2000 (p_add h5325 h5327)) ?_ ?_
    · exact (qz_X18_sentence_J169 hS hM ei6)
    · exact (qz_X18_sentence_J170 hS hM ei6 k_1)
set_option maxRecDepth 20000 in
theorem qz_X14_letter {P : Nat → Nat} {S : zm_S} {M : qm} {i1 : Int32} {qi1 : Int} (hS : Sh L xs P S) (hM : qM P S = M) (ei1 : i1.toInt = qi1) : qs (zf_X14_letter 20000 2208 i1 S) (qf_X14_letter 20000 qi1 M) (tO (rr L xs P vu)) := by
  unfold zf_X14_letter qf_X14_letter
  refine qs_gr hS pl_2208 ts_2208 rfl ?_
  refine qs_gi hS hM pl_2208 ts_2208 (z := 35) rfl rfl (fun v5329 h5329 => ?_)
  refine qs_gd (fun g5331 => ?_)
  refine qs_si hS hM (pa_p hS pl_2234 ts_2234) h5329 g5331 ei1 (fun S5330 M5330 hS5330 hM5330 => ?_)
  refine qs_gi hS5330 hM5330 pl_2208 ts_2208 (z := 35) rfl rfl (fun v5332 h5332 => ?_)
  refine qs_pi hS5330 hM5330 pl_2208 ts_2208 (z := 35) rfl rfl (p_add h5332 k_1) (fun S5333 M5333 hS5333 hM5333 => ?_)
  exact qs_tr (show vu _ _ from trivial) hS5333 hM5333
set_option maxRecDepth 20000 in
theorem qz_X14_word_L2_b (n : Nat) {P : Nat → Nat} {S : zm_S} {M : qm} {i2 : Int32} {qi2 : Int} (hS : Sh L xs P S) (hM : qM P S = M) (ei2 : i2.toInt = qi2) : qs (zf_X14_word_L2 20000 (n + 1) 2208 i2 S) (qf_X14_word_L2_b 20000 qi2 M) (tk (vs (rr L xs P vu) (rr L xs P vu)) (qc_X14_word_L2 L xs P (zf_X14_word_L2 20000 n))) := by
  refine qs_eq (zf_X14_word_L2.eq_2 ..) ?_
  unfold qf_X14_word_L2_b
  refine qs_ite (c_le ei2 k_0) ?_ ?_
  · exact qs_tr2 (show vu _ _ from trivial) hS hM
  · refine qs_zi hS pl_2208 ts_2208 ?_
    refine qs_b (qz_X14_letter hS hM (p_add k_96 (p_mod ei2 k_32))) (fun v5335 S5335 w5335 M5335 h5335 hS5335 hM5335 => ?_)
    exact qs_tk ⟨_, _, rfl, (p_div ei2 k_32 (by decide)), hS5335, hM5335⟩
theorem qz_X14_word_L2 (n : Nat) : ∀ {P : Nat → Nat} {S : zm_S} {M : qm} {i2 : Int32} {qi2 : Int} (hS : Sh L xs P S) (hM : qM P S = M) (ei2 : i2.toInt = qi2), qs (zf_X14_word_L2 20000 n 2208 i2 S) (qf_X14_word_L2 20000 n qi2 M) (tO (vs (rr L xs P vu) (rr L xs P vu))) := by
  induction n with
  | zero =>
    intros
    exact qs_none
  | succ n ih =>
    intro P S M i2 qi2 hS hM ei2
    unfold qf_X14_word_L2
    refine qs_loop (C := (qc_X14_word_L2 L xs P (zf_X14_word_L2 20000 n))) (qz_X14_word_L2_b n hS hM ei2) ?_
    rintro x s ⟨_, _, rfl, u0, hS2, hM2⟩
    exact ih hS2 hM2 u0
set_option maxRecDepth 20000 in
theorem qz_X14_word {P : Nat → Nat} {S : zm_S} {M : qm} {i1 : Int32} {qi1 : Int} (hS : Sh L xs P S) (hM : qM P S = M) (ei1 : i1.toInt = qi1) : qs (zf_X14_word 20000 2208 i1 S) (qf_X14_word 20000 qi1 M) (tO (rr L xs P vu)) := by
  unfold zf_X14_word qf_X14_word
  refine qs_lr (qz_X14_word_L2 20000 hS hM ei1) ?_ ?_
  · intro v5337 S5337 w5337 M5337 h5337 hS5337 hM5337
    dsimp only
    exact qs_tr h5337 hS5337 hM5337
  · intro v5337 S5337 w5337 M5337 h5337 hS5337 hM5337
    dsimp only
    refine qs_zi hS5337 pl_2208 ts_2208 ?_
    refine qs_b (qz_X14_letter hS5337 hM5337 k_32) (fun v5339 S5339 w5339 M5339 h5339 hS5339 hM5339 => ?_)
    exact qs_tr (show vu _ _ from trivial) hS5339 hM5339
set_option maxRecDepth 20000 in
theorem qz_X14_number_J81 {P : Nat → Nat} {S : zm_S} {M : qm} {i1 : Int32} {qi1 : Int} (hS : Sh L xs P S) (hM : qM P S = M) (ei1 : i1.toInt = qi1) : qs (zf_X14_number_J81 20000 2208 i1 S) (qf_X14_number_J81 20000 qi1 M) (tO (rr L xs P vu)) := by
  unfold zf_X14_number_J81 qf_X14_number_J81
  refine qs_zi hS pl_2208 ts_2208 ?_
  refine qs_b (qz_X14_letter hS hM (p_add k_48 (p_mod ei1 k_10))) (fun v5341 S5341 w5341 M5341 h5341 hS5341 hM5341 => ?_)
  refine qs_zi hS5341 pl_2208 ts_2208 ?_
  refine qs_b (qz_X14_letter hS5341 hM5341 k_32) (fun v5343 S5343 w5343 M5343 h5343 hS5343 hM5343 => ?_)
  exact qs_tr (show vu _ _ from trivial) hS5343 hM5343
set_option maxRecDepth 20000 in
theorem qz_X14_number_J61 {P : Nat → Nat} {S : zm_S} {M : qm} {i1 : Int32} {qi1 : Int} (hS : Sh L xs P S) (hM : qM P S = M) (ei1 : i1.toInt = qi1) : qs (zf_X14_number_J61 20000 2208 i1 S) (qf_X14_number_J61 20000 qi1 M) (tO (rr L xs P vu)) := by
  unfold zf_X14_number_J61 qf_X14_number_J61
  refine qs_ite (c_le ei1 k_9) ?_ ?_
  · exact (qz_X14_number_J81 hS hM ei1)
  · refine qs_zi hS pl_2208 ts_2208 ?_
    refine qs_b (qz_X14_letter hS hM (p_add k_48 (p_mod (p_div ei1 k_10 (by decide)) k_10))) (fun v5345 S5345 w5345 M5345 h5345 hS5345 hM5345 => ?_)
    exact (qz_X14_number_J81 hS5345 hM5345 ei1)
set_option maxRecDepth 20000 in
theorem qz_X14_number_J41 {P : Nat → Nat} {S : zm_S} {M : qm} {i1 : Int32} {qi1 : Int} (hS : Sh L xs P S) (hM : qM P S = M) (ei1 : i1.toInt = qi1) : qs (zf_X14_number_J41 20000 2208 i1 S) (qf_X14_number_J41 20000 qi1 M) (tO (rr L xs P vu)) := by
  unfold zf_X14_number_J41 qf_X14_number_J41
  refine qs_ite (c_le ei1 k_99) ?_ ?_
  · exact (qz_X14_number_J61 hS hM ei1)
  · refine qs_zi hS pl_2208 ts_2208 ?_
    refine qs_b (qz_X14_letter hS hM (p_add k_48 (p_mod (p_div ei1 k_100 (by decide)) k_10))) (fun v5347 S5347 w5347 M5347 h5347 hS5347 hM5347 => ?_)
    exact (qz_X14_number_J61 hS5347 hM5347 ei1)
set_option maxRecDepth 20000 in
theorem qz_X14_number_J19 {P : Nat → Nat} {S : zm_S} {M : qm} {i1 : Int32} {qi1 : Int} (hS : Sh L xs P S) (hM : qM P S = M) (ei1 : i1.toInt = qi1) : qs (zf_X14_number_J19 20000 2208 i1 S) (qf_X14_number_J19 20000 qi1 M) (tO (rr L xs P vu)) := by
  unfold zf_X14_number_J19 qf_X14_number_J19
  refine qs_ite (c_le ei1 k_999) ?_ ?_
  · exact (qz_X14_number_J41 hS hM ei1)
  · refine qs_zi hS pl_2208 ts_2208 ?_
    refine qs_b (qz_X14_letter hS hM (p_add k_48 (p_mod (p_div ei1 k_1000 (by decide)) k_10))) (fun v5349 S5349 w5349 M5349 h5349 hS5349 hM5349 => ?_)
    exact (qz_X14_number_J41 hS5349 hM5349 ei1)
set_option maxRecDepth 20000 in
theorem qz_X14_number {P : Nat → Nat} {S : zm_S} {M : qm} {i1 : Int32} {qi1 : Int} (hS : Sh L xs P S) (hM : qM P S = M) (ei1 : i1.toInt = qi1) : qs (zf_X14_number 20000 2208 i1 S) (qf_X14_number 20000 qi1 M) (tO (rr L xs P vu)) := by
  unfold zf_X14_number qf_X14_number
  refine qs_ite (c_le ei1 k_9999) ?_ ?_
  · exact (qz_X14_number_J19 hS hM ei1)
  · refine qs_zi hS pl_2208 ts_2208 ?_
    refine qs_b (qz_X14_letter hS hM (p_add k_48 (p_div ei1 k_10000 (by decide)))) (fun v5351 S5351 w5351 M5351 h5351 hS5351 hM5351 => ?_)
    exact (qz_X14_number_J19 hS5351 hM5351 ei1)
set_option maxRecDepth 20000 in
theorem qz_X14_sentence_L66_b (n : Nat) {P : Nat → Nat} {S : zm_S} {M : qm} {i4 : Int32} {qi4 : Int} {i5 : Int32} {qi5 : Int} {i6 : Int32} {qi6 : Int} (hS : Sh L xs P S) (hM : qM P S = M) (ei4 : i4.toInt = qi4) (ei5 : i5.toInt = qi5) (ei6 : i6.toInt = qi6) : qs (zf_X14_sentence_L66 20000 (n + 1) 2208 i4 i5 i6 S) (qf_X14_sentence_L66_b 20000 qi4 qi5 qi6 M) (tk (vs (rr L xs P vu) (rr L xs P vu)) (qc_X14_sentence_L66 L xs P (zf_X14_sentence_L66 20000 n))) := by
  refine qs_eq (zf_X14_sentence_L66.eq_2 ..) ?_
  unfold qf_X14_sentence_L66_b
  refine qs_ite (c_le ei5 ei6) ?_ ?_
  · exact qs_tr2 (show vu _ _ from trivial) hS hM
  · refine qs_zi hS pl_2208 ts_2208 ?_
    refine qs_b (qz_X14_number hS hM (p_add ei4 ei6)) (fun v5353 S5353 w5353 M5353 h5353 hS5353 hM5353 => ?_)
    exact qs_tk ⟨_, _, _, _, rfl, ei4, ei5, (p_add ei6 k_1), hS5353, hM5353⟩
theorem qz_X14_sentence_L66 (n : Nat) : ∀ {P : Nat → Nat} {S : zm_S} {M : qm} {i4 : Int32} {qi4 : Int} {i5 : Int32} {qi5 : Int} {i6 : Int32} {qi6 : Int} (hS : Sh L xs P S) (hM : qM P S = M) (ei4 : i4.toInt = qi4) (ei5 : i5.toInt = qi5) (ei6 : i6.toInt = qi6), qs (zf_X14_sentence_L66 20000 n 2208 i4 i5 i6 S) (qf_X14_sentence_L66 20000 n qi4 qi5 qi6 M) (tO (vs (rr L xs P vu) (rr L xs P vu))) := by
  induction n with
  | zero =>
    intros
    exact qs_none
  | succ n ih =>
    intro P S M i4 qi4 i5 qi5 i6 qi6 hS hM ei4 ei5 ei6
    unfold qf_X14_sentence_L66
    refine qs_loop (C := (qc_X14_sentence_L66 L xs P (zf_X14_sentence_L66 20000 n))) (qz_X14_sentence_L66_b n hS hM ei4 ei5 ei6) ?_
    rintro x s ⟨_, _, _, _, rfl, u0, u1, u2, hS2, hM2⟩
    exact ih hS2 hM2 u0 u1 u2
set_option maxRecDepth 20000 in
theorem qz_X14_stop {P : Nat → Nat} {S : zm_S} {M : qm}  (hS : Sh L xs P S) (hM : qM P S = M)  : qs (zf_X14_stop 20000 2208 S) (qf_X14_stop 20000 M) (tO (rr L xs P vu)) := by
  unfold zf_X14_stop qf_X14_stop
  refine qs_zi hS pl_2208 ts_2208 ?_
  refine qs_b (qz_X14_letter hS hM k_59) (fun v5355 S5355 w5355 M5355 h5355 hS5355 hM5355 => ?_)
  refine qs_zi hS5355 pl_2208 ts_2208 ?_
  refine qs_b (qz_X14_letter hS5355 hM5355 k_32) (fun v5357 S5357 w5357 M5357 h5357 hS5357 hM5357 => ?_)
  exact qs_tr (show vu _ _ from trivial) hS5357 hM5357
set_option maxRecDepth 20000 in
theorem qz_X14_sentence_J184 {P : Nat → Nat} {S : zm_S} {M : qm} {t1 : Int32} {qt1 : Int} (hS : Sh L xs P S) (hM : qM P S = M) (et1 : t1.toInt = qt1) : qs (zf_X14_sentence_J184 20000 2208 2208 t1 S) (qf_X14_sentence_J184 20000 qt1 M) (tO (rr L xs P vu)) := by
  unfold zf_X14_sentence_J184 qf_X14_sentence_J184
  refine qs_zi hS pl_2208 ts_2208 ?_
  refine qs_b (qz_X14_number hS hM et1) (fun v5359 S5359 w5359 M5359 h5359 hS5359 hM5359 => ?_)
  refine qs_zi hS5359 pl_2208 ts_2208 ?_
  refine qs_b (qz_X14_stop hS5359 hM5359 ) (fun v5361 S5361 w5361 M5361 h5361 hS5361 hM5361 => ?_)
  exact qs_tr (show vu _ _ from trivial) hS5361 hM5361
set_option maxRecDepth 20000 in
theorem qz_X14_sentence_J166 {P : Nat → Nat} {S : zm_S} {M : qm} {i1 : Int32} {qi1 : Int} {i3 : Int32} {qi3 : Int} {i4 : Int32} {qi4 : Int} (hS : Sh L xs P S) (hM : qM P S = M) (ei1 : i1.toInt = qi1) (ei3 : i3.toInt = qi3) (ei4 : i4.toInt = qi4) : qs (zf_X14_sentence_J166 20000 2208 i1 i3 i4 S) (qf_X14_sentence_J166 20000 qi1 qi3 qi4 M) (tO (rr L xs P vu)) := by
  unfold zf_X14_sentence_J166 qf_X14_sentence_J166
  refine qs_zi hS pl_2208 ts_2208 ?_
  refine qs_b (qz_X14_word hS hM k_628196) (fun v5363 S5363 w5363 M5363 h5363 hS5363 hM5363 => ?_)
  refine qs_ite (c_eq ei1 k_2) ?_ ?_
  · exact (qz_X14_sentence_J184 hS5363 hM5363 ei3)
  · exact (qz_X14_sentence_J184 hS5363 hM5363 ei4)
set_option maxRecDepth 20000 in
theorem qz_X14_sentence_J144 {P : Nat → Nat} {S : zm_S} {M : qm} {i1 : Int32} {qi1 : Int} {i3 : Int32} {qi3 : Int} {i4 : Int32} {qi4 : Int} (hS : Sh L xs P S) (hM : qM P S = M) (ei1 : i1.toInt = qi1) (ei3 : i3.toInt = qi3) (ei4 : i4.toInt = qi4) : qs (zf_X14_sentence_J144 20000 2208 i1 i3 i4 S) (qf_X14_sentence_J144 20000 qi1 qi3 qi4 M) (tO (rr L xs P vu)) := by
  unfold zf_X14_sentence_J144 qf_X14_sentence_J144
  refine qs_ite (c_eq ei1 k_3) ?_ ?_
  · refine qs_zi hS pl_2208 ts_2208 ?_
    refine qs_b (qz_X14_letter hS hM k_38) (fun v5365 S5365 w5365 M5365 h5365 hS5365 hM5365 => ?_)
    refine qs_zi hS5365 pl_2208 ts_2208 ?_
    refine qs_b (qz_X14_letter hS5365 hM5365 k_32) (fun v5367 S5367 w5367 M5367 h5367 hS5367 hM5367 => ?_)
    refine qs_zi hS5367 pl_2208 ts_2208 ?_
    refine qs_b (qz_X14_number hS5367 hM5367 ei3) (fun v5369 S5369 w5369 M5369 h5369 hS5369 hM5369 => ?_)
    exact (qz_X14_sentence_J166 hS5369 hM5369 ei1 ei3 ei4)
  · exact (qz_X14_sentence_J166 hS hM ei1 ei3 ei4)
set_option maxRecDepth 20000 in
theorem qz_X14_sentence_J33 {P : Nat → Nat} {S : zm_S} {M : qm} {i1 : Int32} {qi1 : Int} {i2 : Int32} {qi2 : Int} {i3 : Int32} {qi3 : Int} {i4 : Int32} {qi4 : Int} {i5 : Int32} {qi5 : Int} {t1 : Int32} {qt1 : Int} (hS : Sh L xs P S) (hM : qM P S = M) (ei1 : i1.toInt = qi1) (ei2 : i2.toInt = qi2) (ei3 : i3.toInt = qi3) (ei4 : i4.toInt = qi4) (ei5 : i5.toInt = qi5) (et1 : t1.toInt = qt1) : qs (zf_X14_sentence_J33 20000 2208 i1 i2 i3 i4 i5 2208 t1 S) (qf_X14_sentence_J33 20000 qi1 qi2 qi3 qi4 qi5 qt1 M) (tO (rr L xs P vu)) := by
  unfold zf_X14_sentence_J33 qf_X14_sentence_J33
  refine qs_zi hS pl_2208 ts_2208 ?_
  refine qs_b (qz_X14_word hS hM et1) (fun v5371 S5371 w5371 M5371 h5371 hS5371 hM5371 => ?_)
  refine qs_zi hS5371 pl_2208 ts_2208 ?_
  refine qs_b (qz_X14_number hS5371 hM5371 ei2) (fun v5373 S5373 w5373 M5373 h5373 hS5373 hM5373 => ?_)
  refine qs_ite (c_eq ei1 k_0) ?_ ?_
  · refine qs_zi hS5373 pl_2208 ts_2208 ?_
    refine qs_b (qz_X14_word hS5373 hM5373 k_20059310) (fun v5375 S5375 w5375 M5375 h5375 hS5375 hM5375 => ?_)
    refine qs_zi hS5375 pl_2208 ts_2208 ?_
    refine qs_b (qz_X14_number hS5375 hM5375 ei3) (fun v5377 S5377 w5377 M5377 h5377 hS5377 hM5377 => ?_)
    refine qs_zi hS5377 pl_2208 ts_2208 ?_
    refine qs_b (qz_X14_word hS5377 hM5377 k_207) (fun v5379 S5379 w5379 M5379 h5379 hS5379 hM5379 => ?_)
    refine qs_lr (qz_X14_sentence_L66 20000 hS5379 hM5379 ei4 ei5 k_0) ?_ ?_
    · intro v5381 S5381 w5381 M5381 h5381 hS5381 hM5381
      dsimp only
      exact qs_tr h5381 hS5381 hM5381
    · intro v5381 S5381 w5381 M5381 h5381 hS5381 hM5381
      dsimp only
      refine qs_zi hS5381 pl_2208 ts_2208 ?_
      refine qs_b (qz_X14_stop hS5381 hM5381 ) (fun v5383 S5383 w5383 M5383 h5383 hS5383 hM5383 => ?_)
      exact qs_tr (show vu _ _ from trivial) hS5383 hM5383
  · refine qs_ite (c_eq ei1 k_1) ?_ ?_
    · refine qs_zi hS5373 pl_2208 ts_2208 ?_
      refine qs_b (qz_X14_word hS5373 hM5373 k_145707) (fun v5385 S5385 w5385 M5385 h5385 hS5385 hM5385 => ?_)
      refine qs_zi hS5385 pl_2208 ts_2208 ?_
      refine qs_b (qz_X14_number hS5385 hM5385 ei3) (fun v5387 S5387 w5387 M5387 h5387 hS5387 hM5387 => ?_)
      refine qs_zi hS5387 pl_2208 ts_2208 ?_
      refine qs_b (qz_X14_word hS5387 hM5387 k_374834) (fun v5389 S5389 w5389 M5389 h5389 hS5389 hM5389 => ?_)
      refine qs_zi hS5389 pl_2208 ts_2208 ?_
      refine qs_b (qz_X14_number hS5389 hM5389 ei4) (fun v5391 S5391 w5391 M5391 h5391 hS5391 hM5391 => ?_)
      refine qs_zi hS5391 pl_2208 ts_2208 ?_
      refine qs_b (qz_X14_word hS5391 hM5391 k_26259620) (fun v5393 S5393 w5393 M5393 h5393 hS5393 hM5393 => ?_)
      refine qs_zi hS5393 pl_2208 ts_2208 ?_
      refine qs_b (qz_X14_number hS5393 hM5393 ei5) (fun v5395 S5395 w5395 M5395 h5395 hS5395 hM5395 => ?_)
      refine qs_zi hS5395 pl_2208 ts_2208 ?_
      refine qs_b (qz_X14_stop hS5395 hM5395 ) (fun v5397 S5397 w5397 M5397 h5397 hS5397 hM5397 => ?_)
      exact qs_tr (show vu _ _ from trivial) hS5397 hM5397
    · refine qs_ite (c_eq ei1 k_2) ?_ ?_
      · exact (qz_X14_sentence_J144 hS5373 hM5373 ei1 ei3 ei4)
      · refine qs_ite (c_eq ei1 k_3) ?_ ?_
        · exact (qz_X14_sentence_J144 hS5373 hM5373 ei1 ei3 ei4)
        · refine qs_zi hS5373 pl_2208 ts_2208 ?_
          refine qs_b (qz_X14_stop hS5373 hM5373 ) (fun v5399 S5399 w5399 M5399 h5399 hS5399 hM5399 => ?_)
          exact qs_tr (show vu _ _ from trivial) hS5399 hM5399
set_option maxRecDepth 20000 in
theorem qz_X14_sentence {P : Nat → Nat} {S : zm_S} {M : qm} {i1 : Int32} {qi1 : Int} {i2 : Int32} {qi2 : Int} {i3 : Int32} {qi3 : Int} {i4 : Int32} {qi4 : Int} {i5 : Int32} {qi5 : Int} (hS : Sh L xs P S) (hM : qM P S = M) (ei1 : i1.toInt = qi1) (ei2 : i2.toInt = qi2) (ei3 : i3.toInt = qi3) (ei4 : i4.toInt = qi4) (ei5 : i5.toInt = qi5) : qs (zf_X14_sentence 20000 2208 i1 i2 i3 i4 i5 S) (qf_X14_sentence 20000 qi1 qi2 qi3 qi4 qi5 M) (tO (rr L xs P vu)) := by
  unfold zf_X14_sentence qf_X14_sentence
  refine qs_ite (c_eq ei1 k_0) ?_ ?_
  · exact (qz_X14_sentence_J33 hS hM ei1 ei2 ei3 ei4 ei5 k_178682)
  · refine qs_ite (c_eq ei1 k_1) ?_ ?_
    · exact (qz_X14_sentence_J33 hS hM ei1 ei2 ei3 ei4 ei5 k_20577)
    · refine qs_ite (c_eq ei1 k_4) ?_ ?_
      · exact (qz_X14_sentence_J33 hS hM ei1 ei2 ei3 ei4 ei5 k_143848)
      · exact (qz_X14_sentence_J33 hS hM ei1 ei2 ei3 ei4 ei5 k_464151)
set_option maxRecDepth 20000 in
theorem qz_X14_make {P : Nat → Nat} {S : zm_S} {M : qm} {i1 : Int32} {qi1 : Int} {i2 : Int32} {qi2 : Int} {i3 : Int32} {qi3 : Int} {i4 : Int32} {qi4 : Int} {i5 : Int32} {qi5 : Int} (hS : Sh L xs P S) (hM : qM P S = M) (ei1 : i1.toInt = qi1) (ei2 : i2.toInt = qi2) (ei3 : i3.toInt = qi3) (ei4 : i4.toInt = qi4) (ei5 : i5.toInt = qi5) : qs (zf_X14_make 20000 2208 i1 i2 i3 i4 i5 S) (qf_X14_make 20000 qi1 qi2 qi3 qi4 qi5 M) (tO (rr L xs P vu)) := by
  unfold zf_X14_make qf_X14_make
  refine qs_pi hS hM pl_2208 ts_2208 (z := 35) rfl rfl k_0 (fun S5400 M5400 hS5400 hM5400 => ?_)
  refine qs_zi hS5400 pl_2208 ts_2208 ?_
  refine qs_b (qz_X14_sentence hS5400 hM5400 ei1 ei2 ei3 ei4 ei5) (fun v5402 S5402 w5402 M5402 h5402 hS5402 hM5402 => ?_)
  exact qs_tr (show vu _ _ from trivial) hS5402 hM5402
set_option maxRecDepth 20000 in
theorem qz_X18_sentence_J113 {P : Nat → Nat} {S : zm_S} {M : qm} {i1 : Int32} {qi1 : Int} {i2 : Int32} {qi2 : Int} {i3 : Int32} {qi3 : Int} {i4 : Int32} {qi4 : Int} {i5 : Int32} {qi5 : Int} {t0 : Int32} {qt0 : Int} (hS : Sh L xs P S) (hM : qM P S = M) (ei1 : i1.toInt = qi1) (ei2 : i2.toInt = qi2) (ei3 : i3.toInt = qi3) (ei4 : i4.toInt = qi4) (ei5 : i5.toInt = qi5) (et0 : t0.toInt = qt0) : qs (zf_X18_sentence_J113 20000 2156 i1 i2 i3 i4 i5 t0 S) (qf_X18_sentence_J113 20000 qi1 qi2 qi3 qi4 qi5 qt0 M) (tO (rr L xs P vi)) := by
  unfold zf_X18_sentence_J113 qf_X18_sentence_J113
  refine qs_ite (c_eq et0 k_0) ?_ ?_
  · exact (qz_X18_sentence_J134 hS hM et0)
  · refine qs_gr hS pl_2156 ts_2156 rfl ?_
    refine qs_zi hS pl_2208 ts_2208 ?_
    refine qs_b (qz_X14_make hS hM ei1 ei2 ei3 ei4 ei5) (fun v5405 S5405 w5405 M5405 h5405 hS5405 hM5405 => ?_)
    exact (qz_X18_sentence_J134 hS5405 hM5405 et0)
set_option maxRecDepth 20000 in
theorem qz_X18_sentence_J112 {P : Nat → Nat} {S : zm_S} {M : qm} {i1 : Int32} {qi1 : Int} {i2 : Int32} {qi2 : Int} {i3 : Int32} {qi3 : Int} {i4 : Int32} {qi4 : Int} {i5 : Int32} {qi5 : Int} (hS : Sh L xs P S) (hM : qM P S = M) (ei1 : i1.toInt = qi1) (ei2 : i2.toInt = qi2) (ei3 : i3.toInt = qi3) (ei4 : i4.toInt = qi4) (ei5 : i5.toInt = qi5) : qs (zf_X18_sentence_J112 20000 2156 i1 i2 i3 i4 i5 S) (qf_X18_sentence_J112 20000 qi1 qi2 qi3 qi4 qi5 M) (tO (rr L xs P vi)) := by
  unfold zf_X18_sentence_J112 qf_X18_sentence_J112
  exact (qz_X18_sentence_J113 hS hM ei1 ei2 ei3 ei4 ei5 k_0)
set_option maxRecDepth 20000 in
theorem qz_X18_sentence_J108 {P : Nat → Nat} {S : zm_S} {M : qm} {i1 : Int32} {qi1 : Int} {i2 : Int32} {qi2 : Int} {i3 : Int32} {qi3 : Int} {i4 : Int32} {qi4 : Int} {i5 : Int32} {qi5 : Int} (hS : Sh L xs P S) (hM : qM P S = M) (ei1 : i1.toInt = qi1) (ei2 : i2.toInt = qi2) (ei3 : i3.toInt = qi3) (ei4 : i4.toInt = qi4) (ei5 : i5.toInt = qi5) : qs (zf_X18_sentence_J108 20000 2156 i1 i2 i3 i4 i5 S) (qf_X18_sentence_J108 20000 qi1 qi2 qi3 qi4 qi5 M) (tO (rr L xs P vi)) := by
  unfold zf_X18_sentence_J108 qf_X18_sentence_J108
  exact (qz_X18_sentence_J113 hS hM ei1 ei2 ei3 ei4 ei5 k_1)
set_option maxRecDepth 20000 in
theorem qz_X14_isSaid {P : Nat → Nat} {S : zm_S} {M : qm} {i0 : Int32} {qi0 : Int} (hS : Sh L xs P S) (hM : qM P S = M) (ei0 : i0.toInt = qi0) : qs (zf_X14_isSaid 20000 i0 S) (qf_X14_isSaid 20000 qi0 M) (tO (rp L xs P M vi)) := by
  unfold zf_X14_isSaid qf_X14_isSaid
  refine qs_ite (c_lt ei0 k_0) ?_ ?_
  · exact qs_tp (show vi _ _ from k_0) hS hM
  · refine qs_ite (c_lt k_9999 ei0) ?_ ?_
    · exact qs_tp (show vi _ _ from k_0) hS hM
    · exact qs_tp (show vi _ _ from k_1) hS hM
set_option maxRecDepth 20000 in
theorem qz_X18_sentence_J67 {P : Nat → Nat} {S : zm_S} {M : qm} {i1 : Int32} {qi1 : Int} {i2 : Int32} {qi2 : Int} {i3 : Int32} {qi3 : Int} {i4 : Int32} {qi4 : Int} {i5 : Int32} {qi5 : Int} {t0 : Int32} {qt0 : Int} (hS : Sh L xs P S) (hM : qM P S = M) (ei1 : i1.toInt = qi1) (ei2 : i2.toInt = qi2) (ei3 : i3.toInt = qi3) (ei4 : i4.toInt = qi4) (ei5 : i5.toInt = qi5) (et0 : t0.toInt = qt0) : qs (zf_X18_sentence_J67 20000 2156 i1 i2 i3 i4 i5 t0 S) (qf_X18_sentence_J67 20000 qi1 qi2 qi3 qi4 qi5 qt0 M) (tO (rr L xs P vi)) := by
  unfold zf_X18_sentence_J67 qf_X18_sentence_J67
  refine qs_ite (c_eq et0 k_0) ?_ ?_
  · exact (qz_X18_sentence_J112 hS hM ei1 ei2 ei3 ei4 ei5)
  · refine qs_ite (c_lt k_1 ei1) ?_ ?_
    · exact (qz_X18_sentence_J108 hS hM ei1 ei2 ei3 ei4 ei5)
    · refine qs_ite (c_eq ei1 k_1) ?_ ?_
      · refine qs_bp (qz_X14_isSaid hS hM ei5) (fun v5406 S5406 w5406 h5406 hS5406 hM5406 => ?_)
        refine qs_ite (c_eq h5406 k_0) ?_ ?_
        · exact (qz_X18_sentence_J112 hS5406 hM5406 ei1 ei2 ei3 ei4 ei5)
        · exact (qz_X18_sentence_J108 hS5406 hM5406 ei1 ei2 ei3 ei4 ei5)
      · refine qs_ite (c_lt ei5 k_1) ?_ ?_
        · exact (qz_X18_sentence_J112 hS hM ei1 ei2 ei3 ei4 ei5)
        · refine qs_ite (c_lt k_12 ei5) ?_ ?_
          · exact (qz_X18_sentence_J112 hS hM ei1 ei2 ei3 ei4 ei5)
          · exact (qz_X18_sentence_J108 hS hM ei1 ei2 ei3 ei4 ei5)
set_option maxRecDepth 20000 in
theorem qz_X18_sentence_J66 {P : Nat → Nat} {S : zm_S} {M : qm} {i1 : Int32} {qi1 : Int} {i2 : Int32} {qi2 : Int} {i3 : Int32} {qi3 : Int} {i4 : Int32} {qi4 : Int} {i5 : Int32} {qi5 : Int} (hS : Sh L xs P S) (hM : qM P S = M) (ei1 : i1.toInt = qi1) (ei2 : i2.toInt = qi2) (ei3 : i3.toInt = qi3) (ei4 : i4.toInt = qi4) (ei5 : i5.toInt = qi5) : qs (zf_X18_sentence_J66 20000 2156 i1 i2 i3 i4 i5 S) (qf_X18_sentence_J66 20000 qi1 qi2 qi3 qi4 qi5 M) (tO (rr L xs P vi)) := by
  unfold zf_X18_sentence_J66 qf_X18_sentence_J66
  exact (qz_X18_sentence_J67 hS hM ei1 ei2 ei3 ei4 ei5 k_0)
set_option maxRecDepth 20000 in
theorem qz_X18_sentence_J62 {P : Nat → Nat} {S : zm_S} {M : qm} {i1 : Int32} {qi1 : Int} {i2 : Int32} {qi2 : Int} {i3 : Int32} {qi3 : Int} {i4 : Int32} {qi4 : Int} {i5 : Int32} {qi5 : Int} (hS : Sh L xs P S) (hM : qM P S = M) (ei1 : i1.toInt = qi1) (ei2 : i2.toInt = qi2) (ei3 : i3.toInt = qi3) (ei4 : i4.toInt = qi4) (ei5 : i5.toInt = qi5) : qs (zf_X18_sentence_J62 20000 2156 i1 i2 i3 i4 i5 S) (qf_X18_sentence_J62 20000 qi1 qi2 qi3 qi4 qi5 M) (tO (rr L xs P vi)) := by
  unfold zf_X18_sentence_J62 qf_X18_sentence_J62
  exact (qz_X18_sentence_J67 hS hM ei1 ei2 ei3 ei4 ei5 k_1)
set_option maxRecDepth 20000 in
theorem qz_X18_sentence_J44 {P : Nat → Nat} {S : zm_S} {M : qm} {i1 : Int32} {qi1 : Int} {i2 : Int32} {qi2 : Int} {i3 : Int32} {qi3 : Int} {i4 : Int32} {qi4 : Int} {i5 : Int32} {qi5 : Int} (hS : Sh L xs P S) (hM : qM P S = M) (ei1 : i1.toInt = qi1) (ei2 : i2.toInt = qi2) (ei3 : i3.toInt = qi3) (ei4 : i4.toInt = qi4) (ei5 : i5.toInt = qi5) : qs (zf_X18_sentence_J44 20000 2156 i1 i2 i3 i4 i5 S) (qf_X18_sentence_J44 20000 qi1 qi2 qi3 qi4 qi5 M) (tO (rr L xs P vi)) := by
  unfold zf_X18_sentence_J44 qf_X18_sentence_J44
  refine qs_ite (c_eq ei1 k_2) ?_ ?_
  · exact (qz_X18_sentence_J62 hS hM ei1 ei2 ei3 ei4 ei5)
  · refine qs_ite (c_eq ei1 k_4) ?_ ?_
    · exact (qz_X18_sentence_J62 hS hM ei1 ei2 ei3 ei4 ei5)
    · refine qs_bp (qz_X14_isSaid hS hM ei4) (fun v5407 S5407 w5407 h5407 hS5407 hM5407 => ?_)
      refine qs_ite (c_eq h5407 k_0) ?_ ?_
      · exact (qz_X18_sentence_J66 hS5407 hM5407 ei1 ei2 ei3 ei4 ei5)
      · exact (qz_X18_sentence_J62 hS5407 hM5407 ei1 ei2 ei3 ei4 ei5)
set_option maxRecDepth 20000 in
theorem qz_X18_sentence_J25 {P : Nat → Nat} {S : zm_S} {M : qm} {i1 : Int32} {qi1 : Int} {i2 : Int32} {qi2 : Int} {i3 : Int32} {qi3 : Int} {i4 : Int32} {qi4 : Int} {i5 : Int32} {qi5 : Int} {t0 : Int32} {qt0 : Int} (hS : Sh L xs P S) (hM : qM P S = M) (ei1 : i1.toInt = qi1) (ei2 : i2.toInt = qi2) (ei3 : i3.toInt = qi3) (ei4 : i4.toInt = qi4) (ei5 : i5.toInt = qi5) (et0 : t0.toInt = qt0) : qs (zf_X18_sentence_J25 20000 2156 i1 i2 i3 i4 i5 t0 S) (qf_X18_sentence_J25 20000 qi1 qi2 qi3 qi4 qi5 qt0 M) (tO (rr L xs P vi)) := by
  unfold zf_X18_sentence_J25 qf_X18_sentence_J25
  refine qs_ite (c_eq et0 k_0) ?_ ?_
  · exact (qz_X18_sentence_J66 hS hM ei1 ei2 ei3 ei4 ei5)
  · refine qs_ite (c_eq ei1 k_4) ?_ ?_
    · exact (qz_X18_sentence_J44 hS hM ei1 ei2 ei3 ei4 ei5)
    · refine qs_bp (qz_X14_isSaid hS hM ei3) (fun v5408 S5408 w5408 h5408 hS5408 hM5408 => ?_)
      refine qs_ite (c_eq h5408 k_0) ?_ ?_
      · exact (qz_X18_sentence_J66 hS5408 hM5408 ei1 ei2 ei3 ei4 ei5)
      · exact (qz_X18_sentence_J44 hS5408 hM5408 ei1 ei2 ei3 ei4 ei5)
set_option maxRecDepth 20000 in
theorem qz_X18_sentence_J24 {P : Nat → Nat} {S : zm_S} {M : qm} {i1 : Int32} {qi1 : Int} {i2 : Int32} {qi2 : Int} {i3 : Int32} {qi3 : Int} {i4 : Int32} {qi4 : Int} {i5 : Int32} {qi5 : Int} (hS : Sh L xs P S) (hM : qM P S = M) (ei1 : i1.toInt = qi1) (ei2 : i2.toInt = qi2) (ei3 : i3.toInt = qi3) (ei4 : i4.toInt = qi4) (ei5 : i5.toInt = qi5) : qs (zf_X18_sentence_J24 20000 2156 i1 i2 i3 i4 i5 S) (qf_X18_sentence_J24 20000 qi1 qi2 qi3 qi4 qi5 M) (tO (rr L xs P vi)) := by
  unfold zf_X18_sentence_J24 qf_X18_sentence_J24
  exact (qz_X18_sentence_J25 hS hM ei1 ei2 ei3 ei4 ei5 k_0)
set_option maxRecDepth 20000 in
theorem qz_X18_sentence {P : Nat → Nat} {S : zm_S} {M : qm} {i1 : Int32} {qi1 : Int} {i2 : Int32} {qi2 : Int} {i3 : Int32} {qi3 : Int} {i4 : Int32} {qi4 : Int} {i5 : Int32} {qi5 : Int} (hS : Sh L xs P S) (hM : qM P S = M) (ei1 : i1.toInt = qi1) (ei2 : i2.toInt = qi2) (ei3 : i3.toInt = qi3) (ei4 : i4.toInt = qi4) (ei5 : i5.toInt = qi5) : qs (zf_X18_sentence 20000 2156 i1 i2 i3 i4 i5 S) (qf_X18_sentence 20000 qi1 qi2 qi3 qi4 qi5 M) (tO (rr L xs P vi)) := by
  unfold zf_X18_sentence qf_X18_sentence
  refine qs_pi hS hM pl_2156 ts_2156 (z := 0) rfl rfl k_0 (fun S5409 M5409 hS5409 hM5409 => ?_)
  refine qs_bp (qz_X18_isIn hS5409 hM5409 ei1 k_5) (fun v5410 S5410 w5410 h5410 hS5410 hM5410 => ?_)
  refine qs_ite (c_eq h5410 k_0) ?_ ?_
  · exact (qz_X18_sentence_J24 hS5410 hM5410 ei1 ei2 ei3 ei4 ei5)
  · refine qs_bp (qz_X14_isSaid hS5410 hM5410 ei2) (fun v5411 S5411 w5411 h5411 hS5411 hM5411 => ?_)
    refine qs_ite (c_eq h5411 k_0) ?_ ?_
    · exact (qz_X18_sentence_J24 hS5411 hM5411 ei1 ei2 ei3 ei4 ei5)
    · exact (qz_X18_sentence_J25 hS5411 hM5411 ei1 ei2 ei3 ei4 ei5 k_1)
set_option maxRecDepth 20000 in
theorem qz_X11_cutText_J20 {P : Nat → Nat} {S : zm_S} {M : qm} {i1 : Int32} {qi1 : Int} {t0 : Int32} {qt0 : Int} (hS : Sh L xs P S) (hM : qM P S = M) (ei1 : i1.toInt = qi1) (et0 : t0.toInt = qt0) : qs (zf_X11_cutText_J20 20000 6 i1 t0 S) (qf_X11_cutText_J20 20000 qi1 qt0 M) (tO (rr L xs P (vs vi ve))) := by
  unfold zf_X11_cutText_J20 qf_X11_cutText_J20
  refine qs_xp (qz_X11_needArgument hS hM et0) ?_ ?_
  · intro v5413 S5413 w5413 h5413 hS5413 hM5413
    dsimp only
    refine qs_gi hS5413 hM5413 pl_6 ts_6 (z := 11) rfl rfl (fun v5414 h5414 => ?_)
    refine qs_xp (qz_X11_needState hS5413 hM5413 h5414) ?_ ?_
    · intro v5416 S5416 w5416 h5416 hS5416 hM5416
      dsimp only
      refine qs_gr hS5416 pl_6 ts_6 rfl ?_
      refine qs_gi hS5416 hM5416 pl_908 ts_908 (z := 1) rfl rfl (fun v5418 h5418 => ?_)
      refine qs_pi hS5416 hM5416 pl_908 ts_908 (z := 1) rfl rfl (p_sub h5418 ei1) (fun S5419 M5419 hS5419 hM5419 => ?_)
      refine qs_gr hS5419 pl_6 ts_6 rfl ?_
      refine qs_gi hS5419 hM5419 pl_908 ts_908 (z := 1) rfl rfl (fun v5421 h5421 => ?_)
      exact qs_tr (show (vs vi ve) _ _ from h5421) hS5419 hM5419
    · intro v5416 S5416 hS5416 hM5416
      dsimp only
      exact qs_tr (show (vs vi ve) _ _ from rfl) hS5416 hM5416
  · intro v5413 S5413 hS5413 hM5413
    dsimp only
    exact qs_tr (show (vs vi ve) _ _ from rfl) hS5413 hM5413
set_option maxRecDepth 20000 in
theorem qz_X11_cutText_J19 {P : Nat → Nat} {S : zm_S} {M : qm} {i1 : Int32} {qi1 : Int} (hS : Sh L xs P S) (hM : qM P S = M) (ei1 : i1.toInt = qi1) : qs (zf_X11_cutText_J19 20000 6 i1 S) (qf_X11_cutText_J19 20000 qi1 M) (tO (rr L xs P (vs vi ve))) := by
  unfold zf_X11_cutText_J19 qf_X11_cutText_J19
  exact (qz_X11_cutText_J20 hS hM ei1 k_0)
set_option maxRecDepth 20000 in
theorem qz_X11_cutText {P : Nat → Nat} {S : zm_S} {M : qm} {i1 : Int32} {qi1 : Int} (hS : Sh L xs P S) (hM : qM P S = M) (ei1 : i1.toInt = qi1) : qs (zf_X11_cutText 20000 6 i1 S) (qf_X11_cutText 20000 qi1 M) (tO (rr L xs P (vs vi ve))) := by
  unfold zf_X11_cutText qf_X11_cutText
  refine qs_ite (c_lt ei1 k_0) ?_ ?_
  · exact (qz_X11_cutText_J19 hS hM ei1)
  · refine qs_gr hS pl_6 ts_6 rfl ?_
    refine qs_gi hS hM pl_908 ts_908 (z := 1) rfl rfl (fun v5423 h5423 => ?_)
    refine qs_ite (c_lt h5423 ei1) ?_ ?_
    · exact (qz_X11_cutText_J19 hS hM ei1)
    · exact (qz_X11_cutText_J20 hS hM ei1 k_1)
set_option maxRecDepth 20000 in
theorem qz_L_cutText {P : Nat → Nat} {S : zm_S} {M : qm} {i1 : Int32} {qi1 : Int} (hS : Sh L xs P S) (hM : qM P S = M) (ei1 : i1.toInt = qi1) : qs (zf_L_cutText 20000 6 i1 2332 S) (qf_L_cutText 20000 qi1 M) (tO (rr L xs P vi)) := by
  unfold zf_L_cutText qf_L_cutText
  refine qs_zi hS pl_6 ts_6 ?_
  refine qs_xr (qz_X11_cutText hS hM ei1) ?_ ?_
  · intro v5426 S5426 w5426 M5426 h5426 hS5426 hM5426
    dsimp only
    refine qs_sl hS5426 hM5426 (pa_p hS5426 pl_2332 ts_2332) k_0 (by decide) (p_64 h5426) (fun S5427 M5427 hS5427 hM5427 => ?_)
    exact qs_tr (show vi _ _ from k_0) hS5427 hM5427
  · intro v5426 S5426 M5426 hS5426 hM5426
    dsimp only
    refine qs_ite Iff.rfl ?_ ?_
    · exact qs_tr (show vi _ _ from k_1) hS5426 hM5426
    · refine qs_ite Iff.rfl ?_ ?_
      · exact qs_tr (show vi _ _ from k_2) hS5426 hM5426
      · exact qs_none
set_option maxRecDepth 20000 in
theorem qz_X18_cutText_J21 {P : Nat → Nat} {S : zm_S} {M : qm} {i1 : Int32} {qi1 : Int} {t1 : Int32} {qt1 : Int} (hS : Sh L xs P S) (hM : qM P S = M) (ei1 : i1.toInt = qi1) (et1 : t1.toInt = qt1) : qs (zf_X18_cutText_J21 20000 2156 i1 2156 t1 S) (qf_X18_cutText_J21 20000 qi1 qt1 M) (tO (rr L xs P vi)) := by
  unfold zf_X18_cutText_J21 qf_X18_cutText_J21
  refine qs_gi hS hM pl_2156 ts_2156 (z := 1) rfl rfl (fun v5428 h5428 => ?_)
  refine qs_zi hS pl_2156 ts_2156 ?_
  refine qs_b (qz_X18_goes hS hM et1 h5428) (fun v5430 S5430 w5430 M5430 h5430 hS5430 hM5430 => ?_)
  refine qs_ite (c_eq h5430 k_0) ?_ ?_
  · exact qs_tr (show vi _ _ from k_0) hS5430 hM5430
  · refine qs_gr hS5430 pl_2156 ts_2156 rfl ?_
    refine qs_gi hS5430 hM5430 pl_2208 ts_2208 (z := 6) rfl rfl (fun v5432 h5432 => ?_)
    refine qs_pi hS5430 hM5430 pl_2208 ts_2208 (z := 6) rfl rfl (p_sub h5432 ei1) (fun S5433 M5433 hS5433 hM5433 => ?_)
    refine qs_gr hS5433 pl_2156 ts_2156 rfl ?_
    refine qs_gi hS5433 hM5433 pl_2208 ts_2208 (z := 6) rfl rfl (fun v5435 h5435 => ?_)
    exact qs_tr (show vi _ _ from h5435) hS5433 hM5433
set_option maxRecDepth 20000 in
theorem qz_X18_cutText_J20 {P : Nat → Nat} {S : zm_S} {M : qm} {i1 : Int32} {qi1 : Int} (hS : Sh L xs P S) (hM : qM P S = M) (ei1 : i1.toInt = qi1) : qs (zf_X18_cutText_J20 20000 2156 i1 2156 S) (qf_X18_cutText_J20 20000 qi1 M) (tO (rr L xs P vi)) := by
  unfold zf_X18_cutText_J20 qf_X18_cutText_J20
  exact (qz_X18_cutText_J21 hS hM ei1 k_0)
set_option maxRecDepth 20000 in
theorem qz_X18_cutText {P : Nat → Nat} {S : zm_S} {M : qm} {i1 : Int32} {qi1 : Int} (hS : Sh L xs P S) (hM : qM P S = M) (ei1 : i1.toInt = qi1) : qs (zf_X18_cutText 20000 2156 i1 S) (qf_X18_cutText 20000 qi1 M) (tO (rr L xs P vi)) := by
  unfold zf_X18_cutText qf_X18_cutText
  refine qs_ite (c_lt ei1 k_0) ?_ ?_
  · exact (qz_X18_cutText_J20 hS hM ei1)
  · refine qs_gr hS pl_2156 ts_2156 rfl ?_
    refine qs_gi hS hM pl_2208 ts_2208 (z := 6) rfl rfl (fun v5437 h5437 => ?_)
    refine qs_ite (c_lt h5437 ei1) ?_ ?_
    · exact (qz_X18_cutText_J20 hS hM ei1)
    · exact (qz_X18_cutText_J21 hS hM ei1 k_1)
set_option maxRecDepth 20000 in
theorem qz_X5_forgetTables_L7_b (n : Nat) {P : Nat → Nat} {S : zm_S} {M : qm} {i1 : Int32} {qi1 : Int} (hS : Sh L xs P S) (hM : qM P S = M) (ei1 : i1.toInt = qi1) : qs (zf_X5_forgetTables_L7 20000 (n + 1) 908 i1 S) (qf_X5_forgetTables_L7_b 20000 qi1 M) (tk (vs (rr L xs P vu) (rr L xs P vu)) (qc_X5_forgetTables_L7 L xs P (zf_X5_forgetTables_L7 20000 n))) := by
  refine qs_eq (zf_X5_forgetTables_L7.eq_2 ..) ?_
  unfold qf_X5_forgetTables_L7_b
  refine qs_ite (c_le k_20 ei1) ?_ ?_
  · exact qs_tr2 (show vu _ _ from trivial) hS hM
  · refine qs_gr hS pl_908 ts_908 rfl ?_
    refine qs_gd (fun g5440 => ?_)
    refine qs_xt hS pl_910 ts_910 (Or.inl rfl) ei1 g5440 (fun b5439 r5439 => ?_)
    refine qs_fyi hS hM qt_910 tq_910 r5439 (by decide) k_0 (fun S5441 M5441 hS5441 hM5441 => ?_)
    exact qs_tk ⟨_, _, rfl, (p_add ei1 k_1), hS5441, hM5441⟩
theorem qz_X5_forgetTables_L7 (n : Nat) : ∀ {P : Nat → Nat} {S : zm_S} {M : qm} {i1 : Int32} {qi1 : Int} (hS : Sh L xs P S) (hM : qM P S = M) (ei1 : i1.toInt = qi1), qs (zf_X5_forgetTables_L7 20000 n 908 i1 S) (qf_X5_forgetTables_L7 20000 n qi1 M) (tO (vs (rr L xs P vu) (rr L xs P vu))) := by
  induction n with
  | zero =>
    intros
    exact qs_none
  | succ n ih =>
    intro P S M i1 qi1 hS hM ei1
    unfold qf_X5_forgetTables_L7
    refine qs_loop (C := (qc_X5_forgetTables_L7 L xs P (zf_X5_forgetTables_L7 20000 n))) (qz_X5_forgetTables_L7_b n hS hM ei1) ?_
    rintro x s ⟨_, _, rfl, u0, hS2, hM2⟩
    exact ih hS2 hM2 u0
set_option maxRecDepth 20000 in
theorem qz_X5_forgetTables_L31_b (n : Nat) {P : Nat → Nat} {S : zm_S} {M : qm} {i1 : Int32} {qi1 : Int} (hS : Sh L xs P S) (hM : qM P S = M) (ei1 : i1.toInt = qi1) : qs (zf_X5_forgetTables_L31 20000 (n + 1) 908 i1 S) (qf_X5_forgetTables_L31_b 20000 qi1 M) (tk (vs (rr L xs P vu) (rr L xs P vu)) (qc_X5_forgetTables_L31 L xs P (zf_X5_forgetTables_L31 20000 n))) := by
  refine qs_eq (zf_X5_forgetTables_L31.eq_2 ..) ?_
  unfold qf_X5_forgetTables_L31_b
  refine qs_ite (c_le k_20 ei1) ?_ ?_
  · exact qs_tr2 (show vu _ _ from trivial) hS hM
  · refine qs_gr hS pl_908 ts_908 rfl ?_
    refine qs_gd (fun g5444 => ?_)
    refine qs_xt hS pl_931 ts_931 (Or.inl rfl) ei1 g5444 (fun b5443 r5443 => ?_)
    refine qs_fyi hS hM qt_931 tq_931 r5443 (by decide) k_0 (fun S5445 M5445 hS5445 hM5445 => ?_)
    exact qs_tk ⟨_, _, rfl, (p_add ei1 k_1), hS5445, hM5445⟩
theorem qz_X5_forgetTables_L31 (n : Nat) : ∀ {P : Nat → Nat} {S : zm_S} {M : qm} {i1 : Int32} {qi1 : Int} (hS : Sh L xs P S) (hM : qM P S = M) (ei1 : i1.toInt = qi1), qs (zf_X5_forgetTables_L31 20000 n 908 i1 S) (qf_X5_forgetTables_L31 20000 n qi1 M) (tO (vs (rr L xs P vu) (rr L xs P vu))) := by
  induction n with
  | zero =>
    intros
    exact qs_none
  | succ n ih =>
    intro P S M i1 qi1 hS hM ei1
    unfold qf_X5_forgetTables_L31
    refine qs_loop (C := (qc_X5_forgetTables_L31 L xs P (zf_X5_forgetTables_L31 20000 n))) (qz_X5_forgetTables_L31_b n hS hM ei1) ?_
    rintro x s ⟨_, _, rfl, u0, hS2, hM2⟩
    exact ih hS2 hM2 u0
set_option maxRecDepth 20000 in
theorem qz_X5_forgetTables {P : Nat → Nat} {S : zm_S} {M : qm}  (hS : Sh L xs P S) (hM : qM P S = M)  : qs (zf_X5_forgetTables 20000 908 S) (qf_X5_forgetTables 20000 M) (tO (rr L xs P vu)) := by
  unfold zf_X5_forgetTables qf_X5_forgetTables
  refine qs_pi hS hM pl_908 ts_908 (z := 12) rfl rfl k_0 (fun S5446 M5446 hS5446 hM5446 => ?_)
  refine qs_lr (qz_X5_forgetTables_L7 20000 hS5446 hM5446 k_0) ?_ ?_
  · intro v5448 S5448 w5448 M5448 h5448 hS5448 hM5448
    dsimp only
    exact qs_tr h5448 hS5448 hM5448
  · intro v5448 S5448 w5448 M5448 h5448 hS5448 hM5448
    dsimp only
    refine qs_lr (qz_X5_forgetTables_L31 20000 hS5448 hM5448 k_0) ?_ ?_
    · intro v5450 S5450 w5450 M5450 h5450 hS5450 hM5450
      dsimp only
      exact qs_tr h5450 hS5450 hM5450
    · intro v5450 S5450 w5450 M5450 h5450 hS5450 hM5450
      dsimp only
      exact qs_tr (show vu _ _ from trivial) hS5450 hM5450
set_option maxRecDepth 20000 in
theorem qz_X5_nextWord_L5_b (n : Nat) {P : Nat → Nat} {S : zm_S} {M : qm} {i1 : Int32} {qi1 : Int} (hS : Sh L xs P S) (hM : qM P S = M) (ei1 : i1.toInt = qi1) : qs (zf_X5_nextWord_L5 20000 (n + 1) 908 i1 S) (qf_X5_nextWord_L5_b 20000 qi1 M) (tk (vs (rp L xs P M vu) (rp L xs P M vi)) (qc_X5_nextWord_L5 L xs P M (zf_X5_nextWord_L5 20000 n))) := by
  refine qs_eq (zf_X5_nextWord_L5.eq_2 ..) ?_
  unfold qf_X5_nextWord_L5_b
  refine qs_gi hS hM pl_908 ts_908 (z := 1) rfl rfl (fun v5451 h5451 => ?_)
  refine qs_ite (c_le h5451 ei1) ?_ ?_
  · exact qs_tp2 (show vi _ _ from ei1) hS hM
  · refine qs_gr hS pl_908 ts_908 rfl ?_
    refine qs_gd (fun g5454 => ?_)
    refine qs_xi hM (pa_p hS pl_909 ts_909) ei1 g5454 (fun v5453 h5453 => ?_)
    refine qs_ite (c_eq h5453 k_32) ?_ ?_
    · exact qs_tk ⟨_, _, rfl, (p_add ei1 k_1), hS, hM⟩
    · refine qs_gr hS pl_908 ts_908 rfl ?_
      refine qs_gd (fun g5457 => ?_)
      refine qs_xi hM (pa_p hS pl_909 ts_909) ei1 g5457 (fun v5456 h5456 => ?_)
      refine qs_ite (c_eq h5456 k_10) ?_ ?_
      · exact qs_tk ⟨_, _, rfl, (p_add ei1 k_1), hS, hM⟩
      · exact qs_tp2 (show vi _ _ from ei1) hS hM
theorem qz_X5_nextWord_L5 (n : Nat) : ∀ {P : Nat → Nat} {S : zm_S} {M : qm} {i1 : Int32} {qi1 : Int} (hS : Sh L xs P S) (hM : qM P S = M) (ei1 : i1.toInt = qi1), qs (zf_X5_nextWord_L5 20000 n 908 i1 S) (qf_X5_nextWord_L5 20000 n qi1 M) (tO (vs (rp L xs P M vu) (rp L xs P M vi))) := by
  induction n with
  | zero =>
    intros
    exact qs_none
  | succ n ih =>
    intro P S M i1 qi1 hS hM ei1
    unfold qf_X5_nextWord_L5
    refine qs_loop (C := (qc_X5_nextWord_L5 L xs P M (zf_X5_nextWord_L5 20000 n))) (qz_X5_nextWord_L5_b n hS hM ei1) ?_
    rintro x s ⟨_, _, rfl, u0, hS2, hM2⟩
    exact ih hS2 hM2 u0
set_option maxRecDepth 20000 in
theorem qz_X5_kindOf_J30 {P : Nat → Nat} {S : zm_S} {M : qm} {i0 : Int32} {qi0 : Int} (hS : Sh L xs P S) (hM : qM P S = M) (ei0 : i0.toInt = qi0) : qs (zf_X5_kindOf_J30 20000 i0 S) (qf_X5_kindOf_J30 20000 qi0 M) (tO (rp L xs P M vi)) := by
  unfold zf_X5_kindOf_J30 qf_X5_kindOf_J30
  refine qs_ite (c_eq ei0 k_59) ?_ ?_
  · exact qs_tp (show vi _ _ from ei0) hS hM
  · refine qs_ite (c_eq ei0 k_38) ?_ ?_
    · exact qs_tp (show vi _ _ from ei0) hS hM
    · exact qs_tp (show vi _ _ from k_63) hS hM
set_option maxRecDepth 20000 in
theorem qz_X5_kindOf_J15 {P : Nat → Nat} {S : zm_S} {M : qm} {i0 : Int32} {qi0 : Int} (hS : Sh L xs P S) (hM : qM P S = M) (ei0 : i0.toInt = qi0) : qs (zf_X5_kindOf_J15 20000 i0 S) (qf_X5_kindOf_J15 20000 qi0 M) (tO (rp L xs P M vi)) := by
  unfold zf_X5_kindOf_J15 qf_X5_kindOf_J15
  refine qs_ite (c_lt ei0 k_48) ?_ ?_
  · exact (qz_X5_kindOf_J30 hS hM ei0)
  · refine qs_ite (c_lt k_57 ei0) ?_ ?_
    · exact (qz_X5_kindOf_J30 hS hM ei0)
    · exact qs_tp (show vi _ _ from k_48) hS hM
set_option maxRecDepth 20000 in
theorem qz_X5_kindOf {P : Nat → Nat} {S : zm_S} {M : qm} {i0 : Int32} {qi0 : Int} (hS : Sh L xs P S) (hM : qM P S = M) (ei0 : i0.toInt = qi0) : qs (zf_X5_kindOf 20000 i0 S) (qf_X5_kindOf 20000 qi0 M) (tO (rp L xs P M vi)) := by
  unfold zf_X5_kindOf qf_X5_kindOf
  refine qs_ite (c_lt ei0 k_97) ?_ ?_
  · exact (qz_X5_kindOf_J15 hS hM ei0)
  · refine qs_ite (c_lt k_122 ei0) ?_ ?_
    · exact (qz_X5_kindOf_J15 hS hM ei0)
    · exact qs_tp (show vi _ _ from k_97) hS hM
set_option maxRecDepth 20000 in
theorem qz_X5_nextWord_L111_b (n : Nat) {P : Nat → Nat} {S : zm_S} {M : qm} {i1 : Int32} {qi1 : Int} {i2 : Int32} {qi2 : Int} (hS : Sh L xs P S) (hM : qM P S = M) (ei1 : i1.toInt = qi1) (ei2 : i2.toInt = qi2) : qs (zf_X5_nextWord_L111 20000 (n + 1) 908 i1 i2 S) (qf_X5_nextWord_L111_b 20000 qi1 qi2 M) (tk (vs (rr L xs P vu) (rr L xs P vi)) (qc_X5_nextWord_L111 L xs P (zf_X5_nextWord_L111 20000 n))) := by
  refine qs_eq (zf_X5_nextWord_L111.eq_2 ..) ?_
  unfold qf_X5_nextWord_L111_b
  refine qs_ite (c_eq ei2 k_0) ?_ ?_
  · exact qs_tr2 (show vi _ _ from ei1) hS hM
  · refine qs_gi hS hM pl_908 ts_908 (z := 1) rfl rfl (fun v5458 h5458 => ?_)
    refine qs_ite (c_le h5458 ei1) ?_ ?_
    · exact qs_tr2 (show vi _ _ from ei1) hS hM
    · refine qs_gr hS pl_908 ts_908 rfl ?_
      refine qs_gd (fun g5461 => ?_)
      refine qs_xi hM (pa_p hS pl_909 ts_909) ei1 g5461 (fun v5460 h5460 => ?_)
      refine qs_bp (qz_X5_kindOf hS hM h5460) (fun v5462 S5462 w5462 h5462 hS5462 hM5462 => ?_)
      refine qs_gi hS5462 hM5462 pl_908 ts_908 (z := 5) rfl rfl (fun v5463 h5463 => ?_)
      refine qs_ite (c_eq h5462 h5463) ?_ ?_
      · refine qs_gl hS5462 hM5462 pl_908 ts_908 (z := 8) rfl rfl (fun v5464 h5464 => ?_)
        refine qs_gr hS5462 pl_908 ts_908 rfl ?_
        refine qs_gd (fun g5467 => ?_)
        refine qs_xi hM5462 (pa_p hS5462 pl_909 ts_909) ei1 g5467 (fun v5466 h5466 => ?_)
        refine qs_pl hS5462 hM5462 pl_908 ts_908 (z := 8) rfl rfl (pl_or (pl_shl h5464 (p_64 k_8)) (p_64 h5466)) (fun S5468 M5468 hS5468 hM5468 => ?_)
        exact qs_tk ⟨_, _, _, rfl, (p_add ei1 k_1), ei2, hS5468, hM5468⟩
      · exact qs_tr2 (show vi _ _ from ei1) hS5462 hM5462
theorem qz_X5_nextWord_L111 (n : Nat) : ∀ {P : Nat → Nat} {S : zm_S} {M : qm} {i1 : Int32} {qi1 : Int} {i2 : Int32} {qi2 : Int} (hS : Sh L xs P S) (hM : qM P S = M) (ei1 : i1.toInt = qi1) (ei2 : i2.toInt = qi2), qs (zf_X5_nextWord_L111 20000 n 908 i1 i2 S) (qf_X5_nextWord_L111 20000 n qi1 qi2 M) (tO (vs (rr L xs P vu) (rr L xs P vi))) := by
  induction n with
  | zero =>
    intros
    exact qs_none
  | succ n ih =>
    intro P S M i1 qi1 i2 qi2 hS hM ei1 ei2
    unfold qf_X5_nextWord_L111
    refine qs_loop (C := (qc_X5_nextWord_L111 L xs P (zf_X5_nextWord_L111 20000 n))) (qz_X5_nextWord_L111_b n hS hM ei1 ei2) ?_
    rintro x s ⟨_, _, _, rfl, u0, u1, hS2, hM2⟩
    exact ih hS2 hM2 u0 u1
set_option maxRecDepth 20000 in
theorem qz_X5_nextWord_J178 {P : Nat → Nat} {S : zm_S} {M : qm} {i1 : Int32} {qi1 : Int} (hS : Sh L xs P S) (hM : qM P S = M) (ei1 : i1.toInt = qi1) : qs (zf_X5_nextWord_J178 20000 i1 908 S) (qf_X5_nextWord_J178 20000 qi1 M) (tO (rr L xs P vu)) := by
  unfold zf_X5_nextWord_J178 qf_X5_nextWord_J178
  refine qs_pi hS hM pl_908 ts_908 (z := 7) rfl rfl ei1 (fun S5469 M5469 hS5469 hM5469 => ?_)
  exact qs_tr (show vu _ _ from trivial) hS5469 hM5469
set_option maxRecDepth 20000 in
theorem qz_X5_nextWord_J164 {P : Nat → Nat} {S : zm_S} {M : qm} {i1 : Int32} {qi1 : Int} {i2 : Int32} {qi2 : Int} (hS : Sh L xs P S) (hM : qM P S = M) (ei1 : i1.toInt = qi1) (ei2 : i2.toInt = qi2) : qs (zf_X5_nextWord_J164 20000 908 i1 i2 S) (qf_X5_nextWord_J164 20000 qi1 qi2 M) (tO (rr L xs P vu)) := by
  unfold zf_X5_nextWord_J164 qf_X5_nextWord_J164
  refine qs_ite (c_eq ei2 k_0) ?_ ?_
  · refine qs_gi hS hM pl_908 ts_908 (z := 5) rfl rfl (fun v5470 h5470 => ?_)
    refine qs_ite (c_eq h5470 k_101) ?_ ?_
    · exact (qz_X5_nextWord_J178 hS hM ei1)
    · refine qs_pi hS hM pl_908 ts_908 (z := 7) rfl rfl (p_add ei1 k_1) (fun S5471 M5471 hS5471 hM5471 => ?_)
      exact qs_tr (show vu _ _ from trivial) hS5471 hM5471
  · exact (qz_X5_nextWord_J178 hS hM ei1)
set_option maxRecDepth 20000 in
theorem qz_X5_nextWord_J110 {P : Nat → Nat} {S : zm_S} {M : qm} {i1 : Int32} {qi1 : Int} {t0 : Int32} {qt0 : Int} (hS : Sh L xs P S) (hM : qM P S = M) (ei1 : i1.toInt = qi1) (et0 : t0.toInt = qt0) : qs (zf_X5_nextWord_J110 20000 908 i1 t0 S) (qf_X5_nextWord_J110 20000 qi1 qt0 M) (tO (rr L xs P vu)) := by
  unfold zf_X5_nextWord_J110 qf_X5_nextWord_J110
  refine qs_lr (qz_X5_nextWord_L111 20000 hS hM ei1 et0) ?_ ?_
  · intro v5473 S5473 w5473 M5473 h5473 hS5473 hM5473
    dsimp only
    exact qs_tr h5473 hS5473 hM5473
  · intro v5473 S5473 w5473 M5473 h5473 hS5473 hM5473
    dsimp only
    exact (qz_X5_nextWord_J164 hS5473 hM5473 h5473 et0)
set_option maxRecDepth 20000 in
theorem qz_X5_nextWord_J105 {P : Nat → Nat} {S : zm_S} {M : qm} {i1 : Int32} {qi1 : Int} (hS : Sh L xs P S) (hM : qM P S = M) (ei1 : i1.toInt = qi1) : qs (zf_X5_nextWord_J105 20000 908 i1 S) (qf_X5_nextWord_J105 20000 qi1 M) (tO (rr L xs P vu)) := by
  unfold zf_X5_nextWord_J105 qf_X5_nextWord_J105
  exact (qz_X5_nextWord_J110 hS hM ei1 k_1)
set_option maxRecDepth 20000 in
theorem qz_X5_nextWord_J84 {P : Nat → Nat} {S : zm_S} {M : qm} {i1 : Int32} {qi1 : Int} {t1 : Int32} {qt1 : Int} (hS : Sh L xs P S) (hM : qM P S = M) (ei1 : i1.toInt = qi1) (et1 : t1.toInt = qt1) : qs (zf_X5_nextWord_J84 20000 908 i1 908 t1 S) (qf_X5_nextWord_J84 20000 qi1 qt1 M) (tO (rr L xs P vu)) := by
  unfold zf_X5_nextWord_J84 qf_X5_nextWord_J84
  refine qs_pi hS hM pl_908 ts_908 (z := 5) rfl rfl et1 (fun S5474 M5474 hS5474 hM5474 => ?_)
  refine qs_gi hS5474 hM5474 pl_908 ts_908 (z := 5) rfl rfl (fun v5475 h5475 => ?_)
  refine qs_ite (c_eq h5475 k_97) ?_ ?_
  · exact (qz_X5_nextWord_J105 hS5474 hM5474 ei1)
  · refine qs_gi hS5474 hM5474 pl_908 ts_908 (z := 5) rfl rfl (fun v5476 h5476 => ?_)
    refine qs_ite (c_eq h5476 k_48) ?_ ?_
    · exact (qz_X5_nextWord_J105 hS5474 hM5474 ei1)
    · exact (qz_X5_nextWord_J110 hS5474 hM5474 ei1 k_0)
set_option maxRecDepth 20000 in
theorem qz_X5_nextWord_J41 {P : Nat → Nat} {S : zm_S} {M : qm} {i1 : Int32} {qi1 : Int} (hS : Sh L xs P S) (hM : qM P S = M) (ei1 : i1.toInt = qi1) : qs (zf_X5_nextWord_J41 20000 908 i1 S) (qf_X5_nextWord_J41 20000 qi1 M) (tO (rr L xs P vu)) := by
  unfold zf_X5_nextWord_J41 qf_X5_nextWord_J41
  refine qs_gi hS hM pl_908 ts_908 (z := 4) rfl rfl (fun v5477 h5477 => ?_)
  refine qs_pi hS hM pl_908 ts_908 (z := 4) rfl rfl (p_add h5477 k_1) (fun S5478 M5478 hS5478 hM5478 => ?_)
  refine qs_pi hS5478 hM5478 pl_908 ts_908 (z := 6) rfl rfl ei1 (fun S5479 M5479 hS5479 hM5479 => ?_)
  refine qs_pl hS5479 hM5479 pl_908 ts_908 (z := 8) rfl rfl kl_0 (fun S5480 M5480 hS5480 hM5480 => ?_)
  refine qs_gi hS5480 hM5480 pl_908 ts_908 (z := 1) rfl rfl (fun v5481 h5481 => ?_)
  refine qs_ite (c_le h5481 ei1) ?_ ?_
  · exact (qz_X5_nextWord_J84 hS5480 hM5480 ei1 k_101)
  · refine qs_gr hS5480 pl_908 ts_908 rfl ?_
    refine qs_gd (fun g5484 => ?_)
    refine qs_xi hM5480 (pa_p hS5480 pl_909 ts_909) ei1 g5484 (fun v5483 h5483 => ?_)
    refine qs_bp (qz_X5_kindOf hS5480 hM5480 h5483) (fun v5485 S5485 w5485 h5485 hS5485 hM5485 => ?_)
    exact (qz_X5_nextWord_J84 hS5485 hM5485 ei1 h5485)
set_option maxRecDepth 20000 in
theorem qz_X5_nextWord {P : Nat → Nat} {S : zm_S} {M : qm}  (hS : Sh L xs P S) (hM : qM P S = M)  : qs (zf_X5_nextWord 20000 908 S) (qf_X5_nextWord 20000 M) (tO (rr L xs P vu)) := by
  unfold zf_X5_nextWord qf_X5_nextWord
  refine qs_gi hS hM pl_908 ts_908 (z := 7) rfl rfl (fun v5486 h5486 => ?_)
  refine qs_lp (qz_X5_nextWord_L5 20000 hS hM h5486) ?_ ?_
  · intro v5488 S5488 w5488 h5488 hS5488 hM5488
    dsimp only
    exact qs_tr h5488 hS5488 hM5488
  · intro v5488 S5488 w5488 h5488 hS5488 hM5488
    dsimp only
    exact (qz_X5_nextWord_J41 hS5488 hM5488 h5488)
set_option maxRecDepth 20000 in
theorem qz_X5_isWord {P : Nat → Nat} {S : zm_S} {M : qm} {j1 : Int64} {qj1 : Int} (hS : Sh L xs P S) (hM : qM P S = M) (ej1 : j1.toInt = qj1) : qs (zf_X5_isWord 20000 908 j1 S) (qf_X5_isWord 20000 qj1 M) (tO (rp L xs P M vi)) := by
  unfold zf_X5_isWord qf_X5_isWord
  refine qs_gi hS hM pl_908 ts_908 (z := 5) rfl rfl (fun v5489 h5489 => ?_)
  refine qs_ite (c_eq h5489 k_97) ?_ ?_
  · refine qs_gl hS hM pl_908 ts_908 (z := 8) rfl rfl (fun v5490 h5490 => ?_)
    refine qs_ite (g_eq h5490 ej1) ?_ ?_
    · exact qs_tp (show vi _ _ from k_1) hS hM
    · exact qs_tp (show vi _ _ from k_0) hS hM
  · exact qs_tp (show vi _ _ from k_0) hS hM
set_option maxRecDepth 20000 in
theorem qz_X5_skipWord {P : Nat → Nat} {S : zm_S} {M : qm} {j1 : Int64} {qj1 : Int} (hS : Sh L xs P S) (hM : qM P S = M) (ej1 : j1.toInt = qj1) : qs (zf_X5_skipWord 20000 908 j1 S) (qf_X5_skipWord 20000 qj1 M) (tO (rr L xs P vi)) := by
  unfold zf_X5_skipWord qf_X5_skipWord
  refine qs_zi hS pl_908 ts_908 ?_
  refine qs_bp (qz_X5_isWord hS hM ej1) (fun v5492 S5492 w5492 h5492 hS5492 hM5492 => ?_)
  refine qs_ite (c_eq h5492 k_0) ?_ ?_
  · refine qs_ite (or_congr (c_eq h5492 k_0) (c_eq h5492 k_1)) ?_ ?_
    · exact qs_tr (show vi _ _ from h5492) hS5492 hM5492
    · exact qs_none
  · refine qs_zi hS5492 pl_908 ts_908 ?_
    refine qs_b (qz_X5_nextWord hS5492 hM5492 ) (fun v5494 S5494 w5494 M5494 h5494 hS5494 hM5494 => ?_)
    refine qs_ite (or_congr (c_eq h5492 k_0) (c_eq h5492 k_1)) ?_ ?_
    · exact qs_tr (show vi _ _ from h5492) hS5494 hM5494
    · exact qs_none
set_option maxRecDepth 20000 in
theorem qz_X5_numberHere_L33_b (n : Nat) {P : Nat → Nat} {S : zm_S} {M : qm} {i1 : Int32} {qi1 : Int} {i2 : Int32} {qi2 : Int} {i3 : Int32} {qi3 : Int} {i4 : Int32} {qi4 : Int} (hS : Sh L xs P S) (hM : qM P S = M) (ei1 : i1.toInt = qi1) (ei2 : i2.toInt = qi2) (ei3 : i3.toInt = qi3) (ei4 : i4.toInt = qi4) : qs (zf_X5_numberHere_L33 20000 (n + 1) 908 i1 i2 i3 i4 S) (qf_X5_numberHere_L33_b 20000 qi1 qi2 qi3 qi4 M) (tk (vs (rp L xs P M vi) (rp L xs P M vi)) (qc_X5_numberHere_L33 L xs P M (zf_X5_numberHere_L33 20000 n))) := by
  refine qs_eq (zf_X5_numberHere_L33.eq_2 ..) ?_
  unfold qf_X5_numberHere_L33_b
  refine qs_gi hS hM pl_908 ts_908 (z := 7) rfl rfl (fun v5495 h5495 => ?_)
  refine qs_ite (c_le h5495 ei4) ?_ ?_
  · exact qs_tp2 (show vi _ _ from ei3) hS hM
  · refine qs_gr hS pl_908 ts_908 rfl ?_
    refine qs_gd (fun g5498 => ?_)
    refine qs_xi hM (pa_p hS pl_909 ts_909) ei4 g5498 (fun v5497 h5497 => ?_)
    exact qs_tk ⟨_, _, _, _, _, rfl, ei1, ei2, (p_add (p_mul ei3 k_10) (p_sub h5497 k_48)), (p_add ei4 k_1), hS, hM⟩
theorem qz_X5_numberHere_L33 (n : Nat) : ∀ {P : Nat → Nat} {S : zm_S} {M : qm} {i1 : Int32} {qi1 : Int} {i2 : Int32} {qi2 : Int} {i3 : Int32} {qi3 : Int} {i4 : Int32} {qi4 : Int} (hS : Sh L xs P S) (hM : qM P S = M) (ei1 : i1.toInt = qi1) (ei2 : i2.toInt = qi2) (ei3 : i3.toInt = qi3) (ei4 : i4.toInt = qi4), qs (zf_X5_numberHere_L33 20000 n 908 i1 i2 i3 i4 S) (qf_X5_numberHere_L33 20000 n qi1 qi2 qi3 qi4 M) (tO (vs (rp L xs P M vi) (rp L xs P M vi))) := by
  induction n with
  | zero =>
    intros
    exact qs_none
  | succ n ih =>
    intro P S M i1 qi1 i2 qi2 i3 qi3 i4 qi4 hS hM ei1 ei2 ei3 ei4
    unfold qf_X5_numberHere_L33
    refine qs_loop (C := (qc_X5_numberHere_L33 L xs P M (zf_X5_numberHere_L33 20000 n))) (qz_X5_numberHere_L33_b n hS hM ei1 ei2 ei3 ei4) ?_
    rintro x s ⟨_, _, _, _, _, rfl, u0, u1, u2, u3, hS2, hM2⟩
    exact ih hS2 hM2 u0 u1 u2 u3
set_option maxRecDepth 20000 in
theorem qz_X5_numberHere {P : Nat → Nat} {S : zm_S} {M : qm} {i1 : Int32} {qi1 : Int} {i2 : Int32} {qi2 : Int} (hS : Sh L xs P S) (hM : qM P S = M) (ei1 : i1.toInt = qi1) (ei2 : i2.toInt = qi2) : qs (zf_X5_numberHere 20000 908 i1 i2 S) (qf_X5_numberHere 20000 qi1 qi2 M) (tO (rp L xs P M vi)) := by
  unfold zf_X5_numberHere qf_X5_numberHere
  refine qs_gi hS hM pl_908 ts_908 (z := 5) rfl rfl (fun v5499 h5499 => ?_)
  refine qs_ite (c_eq h5499 k_48) ?_ ?_
  · refine qs_gi hS hM pl_908 ts_908 (z := 7) rfl rfl (fun v5500 h5500 => ?_)
    refine qs_gi hS hM pl_908 ts_908 (z := 6) rfl rfl (fun v5501 h5501 => ?_)
    refine qs_ite (c_le (p_sub h5500 h5501) k_6) ?_ ?_
    · refine qs_gi hS hM pl_908 ts_908 (z := 6) rfl rfl (fun v5502 h5502 => ?_)
      refine qs_lp (qz_X5_numberHere_L33 20000 hS hM ei1 ei2 k_0 h5502) ?_ ?_
      · intro v5504 S5504 w5504 h5504 hS5504 hM5504
        dsimp only
        exact qs_tp h5504 hS5504 hM5504
      · intro v5504 S5504 w5504 h5504 hS5504 hM5504
        dsimp only
        refine qs_ite (c_lt h5504 ei1) ?_ ?_
        · exact qs_tp (show vi _ _ from k_m1) hS5504 hM5504
        · refine qs_ite (c_lt ei2 h5504) ?_ ?_
          · exact qs_tp (show vi _ _ from k_m1) hS5504 hM5504
          · exact qs_tp (show vi _ _ from h5504) hS5504 hM5504
    · exact qs_tp (show vi _ _ from k_m1) hS hM
  · exact qs_tp (show vi _ _ from k_m1) hS hM
set_option maxRecDepth 20000 in
theorem qz_X5_toldActHere {P : Nat → Nat} {S : zm_S} {M : qm}  (hS : Sh L xs P S) (hM : qM P S = M)  : qs (zf_X5_toldActHere 20000 908 S) (qf_X5_toldActHere 20000 M) (tO (rp L xs P M vi)) := by
  unfold zf_X5_toldActHere qf_X5_toldActHere
  refine qs_zi hS pl_908 ts_908 ?_
  refine qs_bp (qz_X5_numberHere hS hM k_0 k_19) (fun v5506 S5506 w5506 h5506 hS5506 hM5506 => ?_)
  refine qs_ite (c_eq h5506 k_m1) ?_ ?_
  · exact qs_tp (show vi _ _ from k_m1) hS5506 hM5506
  · refine qs_gr hS5506 pl_908 ts_908 rfl ?_
    refine qs_gd (fun g5509 => ?_)
    refine qs_xt hS5506 pl_931 ts_931 (Or.inl rfl) h5506 g5509 (fun b5508 r5508 => ?_)
    refine qs_yi (j := 0) hS5506 hM5506 qt_931 tq_931 r5508 k_0 (by decide) (fun v5510 h5510 => ?_)
    refine qs_ite (c_eq h5510 k_0) ?_ ?_
    · exact qs_tp (show vi _ _ from k_m1) hS5506 hM5506
    · exact qs_tp (show vi _ _ from h5506) hS5506 hM5506
set_option maxRecDepth 20000 in
theorem qz_X5_skipSign_J13 {P : Nat → Nat} {S : zm_S} {M : qm} {t0 : Int32} {qt0 : Int} (hS : Sh L xs P S) (hM : qM P S = M) (et0 : t0.toInt = qt0) : qs (zf_X5_skipSign_J13 20000 908 t0 S) (qf_X5_skipSign_J13 20000 qt0 M) (tO (rr L xs P vi)) := by
  unfold zf_X5_skipSign_J13 qf_X5_skipSign_J13
  refine qs_ite (c_eq et0 k_0) ?_ ?_
  · refine qs_ite (or_congr (c_eq et0 k_0) (c_eq et0 k_1)) ?_ ?_
    · exact qs_tr (show vi _ _ from et0) hS hM
    · exact qs_none
  · refine qs_zi hS pl_908 ts_908 ?_
    refine qs_b (qz_X5_nextWord hS hM ) (fun v5512 S5512 w5512 M5512 h5512 hS5512 hM5512 => ?_)
    refine qs_ite (or_congr (c_eq et0 k_0) (c_eq et0 k_1)) ?_ ?_
    · exact qs_tr (show vi _ _ from et0) hS5512 hM5512
    · exact qs_none
set_option maxRecDepth 20000 in
theorem qz_X5_skipSign {P : Nat → Nat} {S : zm_S} {M : qm} {i1 : Int32} {qi1 : Int} (hS : Sh L xs P S) (hM : qM P S = M) (ei1 : i1.toInt = qi1) : qs (zf_X5_skipSign 20000 908 i1 S) (qf_X5_skipSign 20000 qi1 M) (tO (rr L xs P vi)) := by
  unfold zf_X5_skipSign qf_X5_skipSign
  refine qs_gi hS hM pl_908 ts_908 (z := 5) rfl rfl (fun v5513 h5513 => ?_)
  refine qs_ite (c_eq h5513 ei1) ?_ ?_
  · exact (qz_X5_skipSign_J13 hS hM k_1)
  · exact (qz_X5_skipSign_J13 hS hM k_0)
set_option maxRecDepth 20000 in
theorem qz_X5_readHold {P : Nat → Nat} {S : zm_S} {M : qm}  (hS : Sh L xs P S) (hM : qM P S = M)  : qs (zf_X5_readHold 20000 908 S) (qf_X5_readHold 20000 M) (tO (rr L xs P vi)) := by
  unfold zf_X5_readHold qf_X5_readHold
  refine qs_zi hS pl_908 ts_908 ?_
  refine qs_bp (qz_X5_toldActHere hS hM ) (fun v5515 S5515 w5515 h5515 hS5515 hM5515 => ?_)
  refine qs_ite (c_eq h5515 k_m1) ?_ ?_
  · exact qs_tr (show vi _ _ from k_0) hS5515 hM5515
  · refine qs_gr hS5515 pl_908 ts_908 rfl ?_
    refine qs_gd (fun g5518 => ?_)
    refine qs_xt hS5515 pl_931 ts_931 (Or.inl rfl) h5515 g5518 (fun b5517 r5517 => ?_)
    refine qs_yi (j := 4) hS5515 hM5515 qt_931 tq_931 r5517 k_4 (by decide) (fun v5519 h5519 => ?_)
    refine qs_ite (c_eq h5519 k_0) ?_ ?_
    · refine qs_zi hS5515 pl_908 ts_908 ?_
      refine qs_b (qz_X5_nextWord hS5515 hM5515 ) (fun v5521 S5521 w5521 M5521 h5521 hS5521 hM5521 => ?_)
      refine qs_gr hS5521 pl_908 ts_908 rfl ?_
      refine qs_gd (fun g5524 => ?_)
      refine qs_xt hS5521 pl_931 ts_931 (Or.inl rfl) h5515 g5524 (fun b5523 r5523 => ?_)
      refine qs_ysi hS5521 hM5521 qt_931 tq_931 r5523 k_4 (by decide) k_1 (fun S5525 M5525 hS5525 hM5525 => ?_)
      refine qs_zi hS5525 pl_908 ts_908 ?_
      refine qs_b (qz_X5_skipSign hS5525 hM5525 k_59) (fun v5527 S5527 w5527 M5527 h5527 hS5527 hM5527 => ?_)
      refine qs_ite (or_congr (c_eq h5527 k_0) (c_eq h5527 k_1)) ?_ ?_
      · exact qs_tr (show vi _ _ from h5527) hS5527 hM5527
      · exact qs_none
    · exact qs_tr (show vi _ _ from k_0) hS5515 hM5515
set_option maxRecDepth 20000 in
theorem qz_X5_toldZoneHere {P : Nat → Nat} {S : zm_S} {M : qm}  (hS : Sh L xs P S) (hM : qM P S = M)  : qs (zf_X5_toldZoneHere 20000 908 S) (qf_X5_toldZoneHere 20000 M) (tO (rp L xs P M vi)) := by
  unfold zf_X5_toldZoneHere qf_X5_toldZoneHere
  refine qs_zi hS pl_908 ts_908 ?_
  refine qs_bp (qz_X5_numberHere hS hM k_0 k_19) (fun v5529 S5529 w5529 h5529 hS5529 hM5529 => ?_)
  refine qs_ite (c_eq h5529 k_m1) ?_ ?_
  · exact qs_tp (show vi _ _ from k_m1) hS5529 hM5529
  · refine qs_gr hS5529 pl_908 ts_908 rfl ?_
    refine qs_gd (fun g5532 => ?_)
    refine qs_xt hS5529 pl_910 ts_910 (Or.inl rfl) h5529 g5532 (fun b5531 r5531 => ?_)
    refine qs_yi (j := 0) hS5529 hM5529 qt_910 tq_910 r5531 k_0 (by decide) (fun v5533 h5533 => ?_)
    refine qs_ite (c_eq h5533 k_0) ?_ ?_
    · exact qs_tp (show vi _ _ from k_m1) hS5529 hM5529
    · exact qs_tp (show vi _ _ from h5529) hS5529 hM5529
set_option maxRecDepth 20000 in
theorem qz_X5_readRow_J52 {P : Nat → Nat} {S : zm_S} {M : qm} {i1 : Int32} {qi1 : Int} {i2 : Int32} {qi2 : Int} (hS : Sh L xs P S) (hM : qM P S = M) (ei1 : i1.toInt = qi1) (ei2 : i2.toInt = qi2) : qs (zf_X5_readRow_J52 20000 908 i1 i2 S) (qf_X5_readRow_J52 20000 qi1 qi2 M) (tO (rr L xs P vi)) := by
  unfold zf_X5_readRow_J52 qf_X5_readRow_J52
  refine qs_zi hS pl_908 ts_908 ?_
  refine qs_b (qz_X5_skipWord hS hM kl_1685022067) (fun v5535 S5535 w5535 M5535 h5535 hS5535 hM5535 => ?_)
  refine qs_ite (c_eq h5535 k_0) ?_ ?_
  · exact qs_tr (show vi _ _ from k_0) hS5535 hM5535
  · refine qs_zi hS5535 pl_908 ts_908 ?_
    refine qs_bp (qz_X5_toldActHere hS5535 hM5535 ) (fun v5537 S5537 w5537 h5537 hS5537 hM5537 => ?_)
    refine qs_ite (c_eq h5537 k_m1) ?_ ?_
    · exact qs_tr (show vi _ _ from k_0) hS5537 hM5537
    · refine qs_zi hS5537 pl_908 ts_908 ?_
      refine qs_b (qz_X5_nextWord hS5537 hM5537 ) (fun v5539 S5539 w5539 M5539 h5539 hS5539 hM5539 => ?_)
      refine qs_zi hS5539 pl_908 ts_908 ?_
      refine qs_b (qz_X5_skipSign hS5539 hM5539 k_59) (fun v5541 S5541 w5541 M5541 h5541 hS5541 hM5541 => ?_)
      refine qs_ite (c_eq h5541 k_0) ?_ ?_
      · exact qs_tr (show vi _ _ from k_0) hS5541 hM5541
      · refine qs_gr hS5541 pl_908 ts_908 rfl ?_
        refine qs_gi hS5541 hM5541 pl_908 ts_908 (z := 12) rfl rfl (fun v5543 h5543 => ?_)
        refine qs_gd (fun g5545 => ?_)
        refine qs_xt hS5541 pl_952 ts_952 (Or.inl rfl) h5543 g5545 (fun b5544 r5544 => ?_)
        refine qs_ysi hS5541 hM5541 qt_952 tq_952 r5544 k_0 (by decide) ei1 (fun S5546 M5546 hS5546 hM5546 => ?_)
        refine qs_ysi hS5546 hM5546 qt_952 tq_952 r5544 k_1 (by decide) ei2 (fun S5547 M5547 hS5547 hM5547 => ?_)
        refine qs_ysi hS5547 hM5547 qt_952 tq_952 r5544 k_2 (by decide) h5537 (fun S5548 M5548 hS5548 hM5548 => ?_)
        refine qs_gi hS5548 hM5548 pl_908 ts_908 (z := 12) rfl rfl (fun v5549 h5549 => ?_)
        refine qs_pi hS5548 hM5548 pl_908 ts_908 (z := 12) rfl rfl (p_add h5549 k_1) (fun S5550 M5550 hS5550 hM5550 => ?_)
        exact qs_tr (show vi _ _ from k_1) hS5550 hM5550
set_option maxRecDepth 20000 in
theorem qz_X5_readRow {P : Nat → Nat} {S : zm_S} {M : qm}  (hS : Sh L xs P S) (hM : qM P S = M)  : qs (zf_X5_readRow 20000 908 S) (qf_X5_readRow 20000 M) (tO (rr L xs P vi)) := by
  unfold zf_X5_readRow qf_X5_readRow
  refine qs_zi hS pl_908 ts_908 ?_
  refine qs_b (qz_X5_nextWord hS hM ) (fun v5552 S5552 w5552 M5552 h5552 hS5552 hM5552 => ?_)
  refine qs_zi hS5552 pl_908 ts_908 ?_
  refine qs_bp (qz_X5_toldZoneHere hS5552 hM5552 ) (fun v5554 S5554 w5554 h5554 hS5554 hM5554 => ?_)
  refine qs_ite (c_eq h5554 k_m1) ?_ ?_
  · exact qs_tr (show vi _ _ from k_0) hS5554 hM5554
  · refine qs_zi hS5554 pl_908 ts_908 ?_
    refine qs_b (qz_X5_nextWord hS5554 hM5554 ) (fun v5556 S5556 w5556 M5556 h5556 hS5556 hM5556 => ?_)
    refine qs_zi hS5556 pl_908 ts_908 ?_
    refine qs_b (qz_X5_skipSign hS5556 hM5556 k_38) (fun v5558 S5558 w5558 M5558 h5558 hS5558 hM5558 => ?_)
    refine qs_ite (c_eq h5558 k_0) ?_ ?_
    · exact (qz_X5_readRow_J52 hS5558 hM5558 h5554 k_m1)
    · refine qs_zi hS5558 pl_908 ts_908 ?_
      refine qs_bp (qz_X5_toldZoneHere hS5558 hM5558 ) (fun v5560 S5560 w5560 h5560 hS5560 hM5560 => ?_)
      refine qs_ite (c_eq h5560 k_m1) ?_ ?_
      · exact qs_tr (show vi _ _ from k_0) hS5560 hM5560
      · refine qs_ite (c_eq h5560 h5554) ?_ ?_
        · exact qs_tr (show vi _ _ from k_0) hS5560 hM5560
        · refine qs_zi hS5560 pl_908 ts_908 ?_
          refine qs_b (qz_X5_nextWord hS5560 hM5560 ) (fun v5562 S5562 w5562 M5562 h5562 hS5562 hM5562 => ?_)
          exact (qz_X5_readRow_J52 hS5562 hM5562 h5554 h5560)
set_option maxRecDepth 20000 in
theorem qz_X5_readActNumber {P : Nat → Nat} {S : zm_S} {M : qm} {i1 : Int32} {qi1 : Int} {j2 : Int64} {qj2 : Int} {i4 : Int32} {qi4 : Int} {i5 : Int32} {qi5 : Int} (hS : Sh L xs P S) (hM : qM P S = M) (ei1 : i1.toInt = qi1) (ej2 : j2.toInt = qj2) (ei4 : i4.toInt = qi4) (ei5 : i5.toInt = qi5) : qs (zf_X5_readActNumber 20000 908 i1 j2 i4 i5 S) (qf_X5_readActNumber 20000 qi1 qj2 qi4 qi5 M) (tO (rr L xs P vi)) := by
  unfold zf_X5_readActNumber qf_X5_readActNumber
  refine qs_zi hS pl_908 ts_908 ?_
  refine qs_b (qz_X5_skipWord hS hM ej2) (fun v5564 S5564 w5564 M5564 h5564 hS5564 hM5564 => ?_)
  refine qs_ite (c_eq h5564 k_0) ?_ ?_
  · exact qs_tr (show vi _ _ from k_0) hS5564 hM5564
  · refine qs_zi hS5564 pl_908 ts_908 ?_
    refine qs_bp (qz_X5_numberHere hS5564 hM5564 k_0 ei5) (fun v5566 S5566 w5566 h5566 hS5566 hM5566 => ?_)
    refine qs_ite (c_eq h5566 k_m1) ?_ ?_
    · exact qs_tr (show vi _ _ from k_0) hS5566 hM5566
    · refine qs_gr hS5566 pl_908 ts_908 rfl ?_
      refine qs_gd (fun g5569 => ?_)
      refine qs_xt hS5566 pl_931 ts_931 (Or.inl rfl) ei1 g5569 (fun b5568 r5568 => ?_)
      refine qs_gd (fun g5571 => ?_)
      refine qs_ysi hS5566 hM5566 qt_931 tq_931 r5568 ei4 g5571 h5566 (fun S5570 M5570 hS5570 hM5570 => ?_)
      refine qs_zi hS5570 pl_908 ts_908 ?_
      refine qs_b (qz_X5_nextWord hS5570 hM5570 ) (fun v5573 S5573 w5573 M5573 h5573 hS5573 hM5573 => ?_)
      exact qs_tr (show vi _ _ from k_1) hS5573 hM5573
set_option maxRecDepth 20000 in
theorem qz_X5_readAct_J86 {P : Nat → Nat} {S : zm_S} {M : qm} {i1 : Int32} {qi1 : Int} {t0 : Int32} {qt0 : Int} (hS : Sh L xs P S) (hM : qM P S = M) (ei1 : i1.toInt = qi1) (et0 : t0.toInt = qt0) : qs (zf_X5_readAct_J86 20000 908 i1 t0 S) (qf_X5_readAct_J86 20000 qi1 qt0 M) (tO (rr L xs P vi)) := by
  unfold zf_X5_readAct_J86 qf_X5_readAct_J86
  refine qs_gr hS pl_908 ts_908 rfl ?_
  refine qs_gd (fun g5576 => ?_)
  refine qs_xt hS pl_931 ts_931 (Or.inl rfl) ei1 g5576 (fun b5575 r5575 => ?_)
  refine qs_ysi hS hM qt_931 tq_931 r5575 k_0 (by decide) k_1 (fun S5577 M5577 hS5577 hM5577 => ?_)
  refine qs_ite (or_congr (c_eq et0 k_0) (c_eq et0 k_1)) ?_ ?_
  · exact qs_tr (show vi _ _ from et0) hS5577 hM5577
  · exact qs_none
set_option maxRecDepth 20000 in
theorem qz_X5_readAct_J85 {P : Nat → Nat} {S : zm_S} {M : qm} {i1 : Int32} {qi1 : Int} (hS : Sh L xs P S) (hM : qM P S = M) (ei1 : i1.toInt = qi1) : qs (zf_X5_readAct_J85 20000 908 i1 S) (qf_X5_readAct_J85 20000 qi1 M) (tO (rr L xs P vi)) := by
  unfold zf_X5_readAct_J85 qf_X5_readAct_J85
  exact (qz_X5_readAct_J86 hS hM ei1 k_0)
set_option maxRecDepth 20000 in
theorem qz_X5_readAct {P : Nat → Nat} {S : zm_S} {M : qm}  (hS : Sh L xs P S) (hM : qM P S = M)  : qs (zf_X5_readAct 20000 908 S) (qf_X5_readAct 20000 M) (tO (rr L xs P vi)) := by
  unfold zf_X5_readAct qf_X5_readAct
  refine qs_zi hS pl_908 ts_908 ?_
  refine qs_bp (qz_X5_numberHere hS hM k_0 k_19) (fun v5579 S5579 w5579 h5579 hS5579 hM5579 => ?_)
  refine qs_ite (c_eq h5579 k_m1) ?_ ?_
  · exact qs_tr (show vi _ _ from k_0) hS5579 hM5579
  · refine qs_gr hS5579 pl_908 ts_908 rfl ?_
    refine qs_gd (fun g5582 => ?_)
    refine qs_xt hS5579 pl_931 ts_931 (Or.inl rfl) h5579 g5582 (fun b5581 r5581 => ?_)
    refine qs_yi (j := 0) hS5579 hM5579 qt_931 tq_931 r5581 k_0 (by decide) (fun v5583 h5583 => ?_)
    refine qs_ite (c_eq h5583 k_0) ?_ ?_
    · refine qs_zi hS5579 pl_908 ts_908 ?_
      refine qs_b (qz_X5_nextWord hS5579 hM5579 ) (fun v5585 S5585 w5585 M5585 h5585 hS5585 hM5585 => ?_)
      refine qs_zi hS5585 pl_908 ts_908 ?_
      refine qs_b (qz_X5_readActNumber hS5585 hM5585 h5579 kl_1802071652 k_1 k_5) (fun v5587 S5587 w5587 M5587 h5587 hS5587 hM5587 => ?_)
      refine qs_ite (c_eq h5587 k_0) ?_ ?_
      · exact (qz_X5_readAct_J85 hS5587 hM5587 h5579)
      · refine qs_zi hS5587 pl_908 ts_908 ?_
        refine qs_b (qz_X5_readActNumber hS5587 hM5587 h5579 kl_1918987883 k_2 k_99) (fun v5589 S5589 w5589 M5589 h5589 hS5589 hM5589 => ?_)
        refine qs_ite (c_eq h5589 k_0) ?_ ?_
        · exact (qz_X5_readAct_J85 hS5589 hM5589 h5579)
        · refine qs_zi hS5589 pl_908 ts_908 ?_
          refine qs_b (qz_X5_readActNumber hS5589 hM5589 h5579 kl_431198331257 k_3 k_600) (fun v5591 S5591 w5591 M5591 h5591 hS5591 hM5591 => ?_)
          refine qs_ite (c_eq h5591 k_0) ?_ ?_
          · exact (qz_X5_readAct_J85 hS5591 hM5591 h5579)
          · refine qs_zi hS5591 pl_908 ts_908 ?_
            refine qs_b (qz_X5_skipSign hS5591 hM5591 k_59) (fun v5593 S5593 w5593 M5593 h5593 hS5593 hM5593 => ?_)
            refine qs_ite (c_eq h5593 k_0) ?_ ?_
            · exact (qz_X5_readAct_J85 hS5593 hM5593 h5579)
            · exact (qz_X5_readAct_J86 hS5593 hM5593 h5579 k_1)
    · exact qs_tr (show vi _ _ from k_0) hS5579 hM5579
set_option maxRecDepth 20000 in
theorem qz_X5_isAmong_L2_b (n : Nat) {P : Nat → Nat} {S : zm_S} {M : qm} {a0 : Nat} {qa0 : Int} {i1 : Int32} {qi1 : Int} {i2 : Int32} {qi2 : Int} {i3 : Int32} {qi3 : Int} (hS : Sh L xs P S) (hM : qM P S = M) (ra0 : pr a0 911 20 qa0) (ei1 : i1.toInt = qi1) (ei2 : i2.toInt = qi2) (ei3 : i3.toInt = qi3) : qs (zf_X5_isAmong_L2 20000 (n + 1) a0 i1 i2 i3 S) (qf_X5_isAmong_L2_b 20000 qa0 qi1 qi2 qi3 M) (tk (vs (rp L xs P M vi) (rp L xs P M vu)) (qc_X5_isAmong_L2 L xs P M (zf_X5_isAmong_L2 20000 n))) := by
  refine qs_eq (zf_X5_isAmong_L2.eq_2 ..) ?_
  unfold qf_X5_isAmong_L2_b
  refine qs_ite (c_le ei1 ei3) ?_ ?_
  · exact qs_tp2 (show vu _ _ from trivial) hS hM
  · refine qs_gd (fun g5595 => ?_)
    refine qs_yi hS hM qt_910 tq_910 ra0 (p_add k_2 ei3) g5595 (fun v5594 h5594 => ?_)
    refine qs_ite (c_eq h5594 ei2) ?_ ?_
    · exact qs_tp1 (show vi _ _ from k_1) hS hM
    · exact qs_tk ⟨_, _, _, _, _, rfl, ra0, ei1, ei2, (p_add ei3 k_1), hS, hM⟩
theorem qz_X5_isAmong_L2 (n : Nat) : ∀ {P : Nat → Nat} {S : zm_S} {M : qm} {a0 : Nat} {qa0 : Int} {i1 : Int32} {qi1 : Int} {i2 : Int32} {qi2 : Int} {i3 : Int32} {qi3 : Int} (hS : Sh L xs P S) (hM : qM P S = M) (ra0 : pr a0 911 20 qa0) (ei1 : i1.toInt = qi1) (ei2 : i2.toInt = qi2) (ei3 : i3.toInt = qi3), qs (zf_X5_isAmong_L2 20000 n a0 i1 i2 i3 S) (qf_X5_isAmong_L2 20000 n qa0 qi1 qi2 qi3 M) (tO (vs (rp L xs P M vi) (rp L xs P M vu))) := by
  induction n with
  | zero =>
    intros
    exact qs_none
  | succ n ih =>
    intro P S M a0 qa0 i1 qi1 i2 qi2 i3 qi3 hS hM ra0 ei1 ei2 ei3
    unfold qf_X5_isAmong_L2
    refine qs_loop (C := (qc_X5_isAmong_L2 L xs P M (zf_X5_isAmong_L2 20000 n))) (qz_X5_isAmong_L2_b n hS hM ra0 ei1 ei2 ei3) ?_
    rintro x s ⟨_, _, _, _, _, rfl, u0, u1, u2, u3, hS2, hM2⟩
    exact ih hS2 hM2 u0 u1 u2 u3
set_option maxRecDepth 20000 in
theorem qz_X5_isAmong {P : Nat → Nat} {S : zm_S} {M : qm} {a0 : Nat} {qa0 : Int} {i1 : Int32} {qi1 : Int} {i2 : Int32} {qi2 : Int} (hS : Sh L xs P S) (hM : qM P S = M) (ra0 : pr a0 911 20 qa0) (ei1 : i1.toInt = qi1) (ei2 : i2.toInt = qi2) : qs (zf_X5_isAmong 20000 a0 i1 i2 S) (qf_X5_isAmong 20000 qa0 qi1 qi2 M) (tO (rp L xs P M vi)) := by
  unfold zf_X5_isAmong qf_X5_isAmong
  refine qs_lp (qz_X5_isAmong_L2 20000 hS hM ra0 ei1 ei2 k_0) ?_ ?_
  · intro v5597 S5597 w5597 h5597 hS5597 hM5597
    dsimp only
    exact qs_tp h5597 hS5597 hM5597
  · intro v5597 S5597 w5597 h5597 hS5597 hM5597
    dsimp only
    exact qs_tp (show vi _ _ from k_0) hS5597 hM5597
set_option maxRecDepth 20000 in
theorem qz_X5_readPoints_L4_b (n : Nat) {P : Nat → Nat} {S : zm_S} {M : qm} {a1 : Nat} {qa1 : Int} {i2 : Int32} {qi2 : Int} {i3 : Int32} {qi3 : Int} (hS : Sh L xs P S) (hM : qM P S = M) (ra1 : pr a1 911 20 qa1) (ei2 : i2.toInt = qi2) (ei3 : i3.toInt = qi3) : qs (zf_X5_readPoints_L4 20000 (n + 1) 908 a1 i2 i3 S) (qf_X5_readPoints_L4_b 20000 qa1 qi2 qi3 M) (tk (vs (rr L xs P vi) (rr L xs P vi)) (qc_X5_readPoints_L4 L xs P (zf_X5_readPoints_L4 20000 n))) := by
  refine qs_eq (zf_X5_readPoints_L4.eq_2 ..) ?_
  unfold qf_X5_readPoints_L4_b
  refine qs_ite (c_le k_12 ei3) ?_ ?_
  · exact qs_tr2 (show vi _ _ from ei2) hS hM
  · refine qs_gi hS hM pl_908 ts_908 (z := 3) rfl rfl (fun v5598 h5598 => ?_)
    refine qs_zi hS pl_908 ts_908 ?_
    refine qs_bp (qz_X5_numberHere hS hM k_0 (p_sub h5598 k_1)) (fun v5600 S5600 w5600 h5600 hS5600 hM5600 => ?_)
    refine qs_ite (c_eq h5600 k_m1) ?_ ?_
    · exact qs_tr1 (show vi _ _ from ei2) hS5600 hM5600
    · refine qs_bp (qz_X5_isAmong hS5600 hM5600 ra1 ei2 h5600) (fun v5601 S5601 w5601 h5601 hS5601 hM5601 => ?_)
      refine qs_ite (c_eq h5601 k_0) ?_ ?_
      · refine qs_gd (fun g5603 => ?_)
        refine qs_ysi hS5601 hM5601 qt_910 tq_910 ra1 (p_add k_2 ei2) g5603 h5600 (fun S5602 M5602 hS5602 hM5602 => ?_)
        refine qs_zi hS5602 pl_908 ts_908 ?_
        refine qs_b (qz_X5_nextWord hS5602 hM5602 ) (fun v5605 S5605 w5605 M5605 h5605 hS5605 hM5605 => ?_)
        exact qs_tk ⟨_, _, _, _, rfl, ra1, (p_add ei2 k_1), (p_add ei3 k_1), hS5605, hM5605⟩
      · exact qs_tr1 (show vi _ _ from ei2) hS5601 hM5601
theorem qz_X5_readPoints_L4 (n : Nat) : ∀ {P : Nat → Nat} {S : zm_S} {M : qm} {a1 : Nat} {qa1 : Int} {i2 : Int32} {qi2 : Int} {i3 : Int32} {qi3 : Int} (hS : Sh L xs P S) (hM : qM P S = M) (ra1 : pr a1 911 20 qa1) (ei2 : i2.toInt = qi2) (ei3 : i3.toInt = qi3), qs (zf_X5_readPoints_L4 20000 n 908 a1 i2 i3 S) (qf_X5_readPoints_L4 20000 n qa1 qi2 qi3 M) (tO (vs (rr L xs P vi) (rr L xs P vi))) := by
  induction n with
  | zero =>
    intros
    exact qs_none
  | succ n ih =>
    intro P S M a1 qa1 i2 qi2 i3 qi3 hS hM ra1 ei2 ei3
    unfold qf_X5_readPoints_L4
    refine qs_loop (C := (qc_X5_readPoints_L4 L xs P (zf_X5_readPoints_L4 20000 n))) (qz_X5_readPoints_L4_b n hS hM ra1 ei2 ei3) ?_
    rintro x s ⟨_, _, _, _, rfl, u0, u1, u2, hS2, hM2⟩
    exact ih hS2 hM2 u0 u1 u2
set_option maxRecDepth 20000 in
theorem qz_X5_readPoints {P : Nat → Nat} {S : zm_S} {M : qm} {a1 : Nat} {qa1 : Int} (hS : Sh L xs P S) (hM : qM P S = M) (ra1 : pr a1 911 20 qa1) : qs (zf_X5_readPoints 20000 908 a1 S) (qf_X5_readPoints 20000 qa1 M) (tO (rr L xs P vi)) := by
  unfold zf_X5_readPoints qf_X5_readPoints
  refine qs_lr (qz_X5_readPoints_L4 20000 hS hM ra1 k_0 k_0) ?_ ?_
  · intro v5607 S5607 w5607 M5607 h5607 hS5607 hM5607
    dsimp only
    exact qs_tr h5607 hS5607 hM5607
  · intro v5607 S5607 w5607 M5607 h5607 hS5607 hM5607
    dsimp only
    exact qs_tr (show vi _ _ from h5607) hS5607 hM5607
set_option maxRecDepth 20000 in
theorem qz_X5_readZone {P : Nat → Nat} {S : zm_S} {M : qm}  (hS : Sh L xs P S) (hM : qM P S = M)  : qs (zf_X5_readZone 20000 908 S) (qf_X5_readZone 20000 M) (tO (rr L xs P vi)) := by
  unfold zf_X5_readZone qf_X5_readZone
  refine qs_zi hS pl_908 ts_908 ?_
  refine qs_bp (qz_X5_numberHere hS hM k_0 k_19) (fun v5609 S5609 w5609 h5609 hS5609 hM5609 => ?_)
  refine qs_ite (c_eq h5609 k_m1) ?_ ?_
  · exact qs_tr (show vi _ _ from k_0) hS5609 hM5609
  · refine qs_gr hS5609 pl_908 ts_908 rfl ?_
    refine qs_gd (fun g5612 => ?_)
    refine qs_xt hS5609 pl_910 ts_910 (Or.inl rfl) h5609 g5612 (fun b5611 r5611 => ?_)
    refine qs_yi (j := 0) hS5609 hM5609 qt_910 tq_910 r5611 k_0 (by decide) (fun v5613 h5613 => ?_)
    refine qs_ite (c_eq h5613 k_0) ?_ ?_
    · refine qs_zi hS5609 pl_908 ts_908 ?_
      refine qs_b (qz_X5_nextWord hS5609 hM5609 ) (fun v5615 S5615 w5615 M5615 h5615 hS5615 hM5615 => ?_)
      refine qs_zi hS5615 pl_908 ts_908 ?_
      refine qs_b (qz_X5_skipWord hS5615 hM5615 kl_474147546227) (fun v5617 S5617 w5617 M5617 h5617 hS5617 hM5617 => ?_)
      refine qs_ite (c_eq h5617 k_0) ?_ ?_
      · exact qs_tr (show vi _ _ from k_0) hS5617 hM5617
      · refine qs_zi hS5617 pl_908 ts_908 ?_
        refine qs_bp (qz_X5_numberHere hS5617 hM5617 k_1 k_12) (fun v5619 S5619 w5619 h5619 hS5619 hM5619 => ?_)
        refine qs_gi hS5619 hM5619 pl_908 ts_908 (z := 4) rfl rfl (fun v5620 h5620 => ?_)
        refine qs_ite (c_eq h5619 k_m1) ?_ ?_
        · exact qs_tr (show vi _ _ from k_0) hS5619 hM5619
        · refine qs_zi hS5619 pl_908 ts_908 ?_
          refine qs_b (qz_X5_nextWord hS5619 hM5619 ) (fun v5622 S5622 w5622 M5622 h5622 hS5622 hM5622 => ?_)
          refine qs_zi hS5622 pl_908 ts_908 ?_
          refine qs_b (qz_X5_skipWord hS5622 hM5622 kl_28518) (fun v5624 S5624 w5624 M5624 h5624 hS5624 hM5624 => ?_)
          refine qs_ite (c_eq h5624 k_0) ?_ ?_
          · exact qs_tr (show vi _ _ from k_0) hS5624 hM5624
          · refine qs_gr hS5624 pl_908 ts_908 rfl ?_
            refine qs_gd (fun g5627 => ?_)
            refine qs_xt hS5624 pl_910 ts_910 (Or.inl rfl) h5609 g5627 (fun b5626 r5626 => ?_)
            refine qs_zi hS5624 pl_908 ts_908 ?_
            refine qs_b (qz_X5_readPoints hS5624 hM5624 r5626) (fun v5629 S5629 w5629 M5629 h5629 hS5629 hM5629 => ?_)
            refine qs_ite (c_eq h5629 k_0) ?_ ?_
            · exact qs_tr (show vi _ _ from k_0) hS5629 hM5629
            · refine qs_zi hS5629 pl_908 ts_908 ?_
              refine qs_b (qz_X5_skipSign hS5629 hM5629 k_59) (fun v5631 S5631 w5631 M5631 h5631 hS5631 hM5631 => ?_)
              refine qs_ite (c_eq h5631 k_0) ?_ ?_
              · exact qs_tr (show vi _ _ from k_0) hS5631 hM5631
              · refine qs_ite (c_le h5619 h5629) ?_ ?_
                · refine qs_gr hS5631 pl_908 ts_908 rfl ?_
                  refine qs_gd (fun g5634 => ?_)
                  refine qs_xt hS5631 pl_910 ts_910 (Or.inl rfl) h5609 g5634 (fun b5633 r5633 => ?_)
                  refine qs_ysi hS5631 hM5631 qt_910 tq_910 r5633 k_0 (by decide) h5619 (fun S5635 M5635 hS5635 hM5635 => ?_)
                  refine qs_gr hS5635 pl_908 ts_908 rfl ?_
                  refine qs_gd (fun g5638 => ?_)
                  refine qs_xt hS5635 pl_910 ts_910 (Or.inl rfl) h5609 g5638 (fun b5637 r5637 => ?_)
                  refine qs_ysi hS5635 hM5635 qt_910 tq_910 r5637 k_1 (by decide) h5629 (fun S5639 M5639 hS5639 hM5639 => ?_)
                  exact qs_tr (show vi _ _ from k_1) hS5639 hM5639
                · refine qs_pi hS5631 hM5631 pl_908 ts_908 (z := 4) rfl rfl h5620 (fun S5640 M5640 hS5640 hM5640 => ?_)
                  exact qs_tr (show vi _ _ from k_0) hS5640 hM5640
    · exact qs_tr (show vi _ _ from k_0) hS5609 hM5609
set_option maxRecDepth 20000 in
theorem qz_X5_readSentence {P : Nat → Nat} {S : zm_S} {M : qm}  (hS : Sh L xs P S) (hM : qM P S = M)  : qs (zf_X5_readSentence 20000 908 S) (qf_X5_readSentence 20000 M) (tO (rr L xs P vi)) := by
  unfold zf_X5_readSentence qf_X5_readSentence
  refine qs_zi hS pl_908 ts_908 ?_
  refine qs_b (qz_X5_skipWord hS hM kl_2054123109) (fun v5642 S5642 w5642 M5642 h5642 hS5642 hM5642 => ?_)
  refine qs_ite (c_eq h5642 k_0) ?_ ?_
  · refine qs_zi hS5642 pl_908 ts_908 ?_
    refine qs_b (qz_X5_skipWord hS5642 hM5642 kl_6382452) (fun v5644 S5644 w5644 M5644 h5644 hS5644 hM5644 => ?_)
    refine qs_ite (c_eq h5644 k_0) ?_ ?_
    · refine qs_zi hS5644 pl_908 ts_908 ?_
      refine qs_bp (qz_X5_isWord hS5644 hM5644 kl_2003330414) (fun v5646 S5646 w5646 h5646 hS5646 hM5646 => ?_)
      refine qs_ite (c_eq h5646 k_0) ?_ ?_
      · refine qs_zi hS5646 pl_908 ts_908 ?_
        refine qs_b (qz_X5_skipWord hS5646 hM5646 kl_1752132708) (fun v5648 S5648 w5648 M5648 h5648 hS5648 hM5648 => ?_)
        refine qs_ite (c_eq h5648 k_0) ?_ ?_
        · exact qs_tr (show vi _ _ from k_0) hS5648 hM5648
        · refine qs_zi hS5648 pl_908 ts_908 ?_
          refine qs_b (qz_X5_readHold hS5648 hM5648 ) (fun v5650 S5650 w5650 M5650 h5650 hS5650 hM5650 => ?_)
          refine qs_ite (c_eq h5650 k_0) ?_ ?_
          · exact qs_tr (show vi _ _ from k_0) hS5650 hM5650
          · exact qs_tr (show vi _ _ from k_1) hS5650 hM5650
      · refine qs_gi hS5646 hM5646 pl_908 ts_908 (z := 12) rfl rfl (fun v5651 h5651 => ?_)
        refine qs_ite (c_le k_50 h5651) ?_ ?_
        · exact qs_tr (show vi _ _ from k_0) hS5646 hM5646
        · refine qs_zi hS5646 pl_908 ts_908 ?_
          refine qs_b (qz_X5_readRow hS5646 hM5646 ) (fun v5653 S5653 w5653 M5653 h5653 hS5653 hM5653 => ?_)
          refine qs_ite (c_eq h5653 k_0) ?_ ?_
          · exact qs_tr (show vi _ _ from k_0) hS5653 hM5653
          · exact qs_tr (show vi _ _ from k_1) hS5653 hM5653
    · refine qs_zi hS5644 pl_908 ts_908 ?_
      refine qs_b (qz_X5_readAct hS5644 hM5644 ) (fun v5655 S5655 w5655 M5655 h5655 hS5655 hM5655 => ?_)
      refine qs_ite (or_congr (c_eq h5655 k_0) (c_eq h5655 k_1)) ?_ ?_
      · exact qs_tr (show vi _ _ from h5655) hS5655 hM5655
      · exact qs_none
  · refine qs_zi hS5642 pl_908 ts_908 ?_
    refine qs_b (qz_X5_readZone hS5642 hM5642 ) (fun v5657 S5657 w5657 M5657 h5657 hS5657 hM5657 => ?_)
    refine qs_ite (or_congr (c_eq h5657 k_0) (c_eq h5657 k_1)) ?_ ?_
    · exact qs_tr (show vi _ _ from h5657) hS5657 hM5657
    · exact qs_none
set_option maxRecDepth 20000 in
theorem qz_X5_readSentences_L25_b (n : Nat) {P : Nat → Nat} {S : zm_S} {M : qm} {i2 : Int32} {qi2 : Int} (hS : Sh L xs P S) (hM : qM P S = M) (ei2 : i2.toInt = qi2) : qs (zf_X5_readSentences_L25 20000 (n + 1) 908 i2 S) (qf_X5_readSentences_L25_b 20000 qi2 M) (tk (vs (rr L xs P vi) (rr L xs P vu)) (qc_X5_readSentences_L25 L xs P (zf_X5_readSentences_L25 20000 n))) := by
  refine qs_eq (zf_X5_readSentences_L25.eq_2 ..) ?_
  unfold qf_X5_readSentences_L25_b
  refine qs_ite (c_le k_2000 ei2) ?_ ?_
  · exact qs_tr2 (show vu _ _ from trivial) hS hM
  · refine qs_gi hS hM pl_908 ts_908 (z := 5) rfl rfl (fun v5658 h5658 => ?_)
    refine qs_ite (c_eq h5658 k_101) ?_ ?_
    · exact qs_tr2 (show vu _ _ from trivial) hS hM
    · refine qs_zi hS pl_908 ts_908 ?_
      refine qs_b (qz_X5_readSentence hS hM ) (fun v5660 S5660 w5660 M5660 h5660 hS5660 hM5660 => ?_)
      refine qs_ite (c_eq h5660 k_0) ?_ ?_
      · exact qs_tr1 (show vi _ _ from k_0) hS5660 hM5660
      · exact qs_tk ⟨_, _, rfl, (p_add ei2 k_1), hS5660, hM5660⟩
theorem qz_X5_readSentences_L25 (n : Nat) : ∀ {P : Nat → Nat} {S : zm_S} {M : qm} {i2 : Int32} {qi2 : Int} (hS : Sh L xs P S) (hM : qM P S = M) (ei2 : i2.toInt = qi2), qs (zf_X5_readSentences_L25 20000 n 908 i2 S) (qf_X5_readSentences_L25 20000 n qi2 M) (tO (vs (rr L xs P vi) (rr L xs P vu))) := by
  induction n with
  | zero =>
    intros
    exact qs_none
  | succ n ih =>
    intro P S M i2 qi2 hS hM ei2
    unfold qf_X5_readSentences_L25
    refine qs_loop (C := (qc_X5_readSentences_L25 L xs P (zf_X5_readSentences_L25 20000 n))) (qz_X5_readSentences_L25_b n hS hM ei2) ?_
    rintro x s ⟨_, _, rfl, u0, hS2, hM2⟩
    exact ih hS2 hM2 u0
end QZ
