/-! ===== each function over memories is the one over plain states, by program (wip/tools/q) ===== -/
section QZ
variable {L : Nat} {xs : Nat → Int32}
set_option maxRecDepth 20000 in
theorem qz_X18_block_J31 {P : Nat → Nat} {S : zm_S} {M : qm} {i1 : Int32} {qi1 : Int} {t1 : Int32} {qt1 : Int} {t2 : Int32} {qt2 : Int} (hS : Sh L xs P S) (hM : qM P S = M) (ei1 : i1.toInt = qi1) (et1 : t1.toInt = qt1) (et2 : t2.toInt = qt2) : qs (zf_X18_block_J31 20000 2156 i1 2156 t1 t2 S) (qf_X18_block_J31 20000 qi1 qt1 qt2 M) (tO (rr L xs P vi)) := by
  unfold zf_X18_block_J31 qf_X18_block_J31
  refine qs_zi hS pl_2156 ts_2156 ?_
  refine qs_b (qz_X18_goes hS hM et1 et2) (fun v7028 S7028 w7028 M7028 h7028 hS7028 hM7028 => ?_)
  refine qs_ite (c_eq h7028 k_0) ?_ ?_
  · exact qs_tr (show vi _ _ from k_0) hS7028 hM7028
  · refine qs_gr hS7028 pl_2156 ts_2156 rfl ?_
    refine qs_zi hS7028 pl_2235 ts_2235 ?_
    refine qs_b (qz_X17_block hS7028 hM7028 ei1) (fun v7031 S7031 w7031 M7031 h7031 hS7031 hM7031 => ?_)
    exact qs_tr (show vi _ _ from h7031) hS7031 hM7031
set_option maxRecDepth 20000 in
theorem qz_X18_block_J30 {P : Nat → Nat} {S : zm_S} {M : qm} {i1 : Int32} {qi1 : Int} {t1 : Int32} {qt1 : Int} (hS : Sh L xs P S) (hM : qM P S = M) (ei1 : i1.toInt = qi1) (et1 : t1.toInt = qt1) : qs (zf_X18_block_J30 20000 2156 i1 2156 t1 S) (qf_X18_block_J30 20000 qi1 qt1 M) (tO (rr L xs P vi)) := by
  unfold zf_X18_block_J30 qf_X18_block_J30
  exact (qz_X18_block_J31 hS hM ei1 et1 k_0)
set_option maxRecDepth 20000 in
theorem qz_X18_block {P : Nat → Nat} {S : zm_S} {M : qm} {i1 : Int32} {qi1 : Int} (hS : Sh L xs P S) (hM : qM P S = M) (ei1 : i1.toInt = qi1) : qs (zf_X18_block 20000 2156 i1 S) (qf_X18_block 20000 qi1 M) (tO (rr L xs P vi)) := by
  unfold zf_X18_block qf_X18_block
  refine qs_bp (qz_X18_isIn hS hM ei1 k_26) (fun v7032 S7032 w7032 h7032 hS7032 hM7032 => ?_)
  refine qs_gi hS7032 hM7032 pl_2156 ts_2156 (z := 1) rfl rfl (fun v7033 h7033 => ?_)
  refine qs_ite (c_eq h7033 k_0) ?_ ?_
  · exact (qz_X18_block_J30 hS7032 hM7032 ei1 h7032)
  · refine qs_gr hS7032 pl_2156 ts_2156 rfl ?_
    refine qs_gi hS7032 hM7032 pl_2235 ts_2235 (z := 0) rfl rfl (fun v7035 h7035 => ?_)
    refine qs_ite (c_le k_40 h7035) ?_ ?_
    · exact (qz_X18_block_J30 hS7032 hM7032 ei1 h7032)
    · exact (qz_X18_block_J31 hS7032 hM7032 ei1 h7032 k_1)
set_option maxRecDepth 20000 in
theorem qz_X11_isBlock {P : Nat → Nat} {S : zm_S} {M : qm} {i1 : Int32} {qi1 : Int} (hS : Sh L xs P S) (hM : qM P S = M) (ei1 : i1.toInt = qi1) : qs (zf_X11_isBlock 20000 6 i1 S) (qf_X11_isBlock 20000 qi1 M) (tO (rp L xs P M vi)) := by
  unfold zf_X11_isBlock qf_X11_isBlock
  refine qs_gr hS pl_6 ts_6 rfl ?_
  refine qs_gi hS hM pl_1003 ts_1003 (z := 0) rfl rfl (fun v7037 h7037 => ?_)
  refine qs_bp (qz_X11_isWithin hS hM ei1 k_0 (p_sub h7037 k_1)) (fun v7038 S7038 w7038 h7038 hS7038 hM7038 => ?_)
  refine qs_ite (or_congr (c_eq h7038 k_0) (c_eq h7038 k_1)) ?_ ?_
  · exact qs_tp (show vi _ _ from h7038) hS7038 hM7038
  · exact qs_none
set_option maxRecDepth 20000 in
theorem qz_X9_setInput {P : Nat → Nat} {S : zm_S} {M : qm} {i1 : Int32} {qi1 : Int} {i2 : Int32} {qi2 : Int} {i3 : Int32} {qi3 : Int} (hS : Sh L xs P S) (hM : qM P S = M) (ei1 : i1.toInt = qi1) (ei2 : i2.toInt = qi2) (ei3 : i3.toInt = qi3) : qs (zf_X9_setInput 20000 1003 i1 i2 i3 S) (qf_X9_setInput 20000 qi1 qi2 qi3 M) (tO (rr L xs P vi)) := by
  unfold zf_X9_setInput qf_X9_setInput
  refine qs_gr hS pl_1003 ts_1003 rfl ?_
  refine qs_gd (fun g7041 => ?_)
  refine qs_xt hS pl_1008 ts_1008 (Or.inl rfl) ei1 g7041 (fun b7040 r7040 => ?_)
  refine qs_gd (fun g7043 => ?_)
  refine qs_yi hS hM qt_1008 tq_1008 r7040 ei2 g7043 (fun v7042 h7042 => ?_)
  refine qs_gr hS pl_1003 ts_1003 rfl ?_
  refine qs_gd (fun g7046 => ?_)
  refine qs_xt hS pl_1008 ts_1008 (Or.inl rfl) ei1 g7046 (fun b7045 r7045 => ?_)
  refine qs_gd (fun g7048 => ?_)
  refine qs_ysi hS hM qt_1008 tq_1008 r7045 ei2 g7048 ei3 (fun S7047 M7047 hS7047 hM7047 => ?_)
  refine qs_pi hS7047 hM7047 pl_1003 ts_1003 (z := 13) rfl rfl k_0 (fun S7049 M7049 hS7049 hM7049 => ?_)
  exact qs_tr (show vi _ _ from h7042) hS7049 hM7049
set_option maxRecDepth 20000 in
theorem qz_X11_wire_J35 {P : Nat → Nat} {S : zm_S} {M : qm} {i1 : Int32} {qi1 : Int} {i2 : Int32} {qi2 : Int} {i3 : Int32} {qi3 : Int} {t0 : Int32} {qt0 : Int} (hS : Sh L xs P S) (hM : qM P S = M) (ei1 : i1.toInt = qi1) (ei2 : i2.toInt = qi2) (ei3 : i3.toInt = qi3) (et0 : t0.toInt = qt0) : qs (zf_X11_wire_J35 20000 6 i1 i2 i3 t0 S) (qf_X11_wire_J35 20000 qi1 qi2 qi3 qt0 M) (tO (rr L xs P (vs vi ve))) := by
  unfold zf_X11_wire_J35 qf_X11_wire_J35
  refine qs_xp (qz_X11_needArgument hS hM et0) ?_ ?_
  · intro v7051 S7051 w7051 h7051 hS7051 hM7051
    dsimp only
    refine qs_gi hS7051 hM7051 pl_6 ts_6 (z := 11) rfl rfl (fun v7052 h7052 => ?_)
    refine qs_xp (qz_X11_needState hS7051 hM7051 h7052) ?_ ?_
    · intro v7054 S7054 w7054 h7054 hS7054 hM7054
      dsimp only
      refine qs_gr hS7054 pl_6 ts_6 rfl ?_
      refine qs_zi hS7054 pl_1003 ts_1003 ?_
      refine qs_b (qz_X9_setInput hS7054 hM7054 ei1 ei2 ei3) (fun v7057 S7057 w7057 M7057 h7057 hS7057 hM7057 => ?_)
      exact qs_tr (show (vs vi ve) _ _ from h7057) hS7057 hM7057
    · intro v7054 S7054 hS7054 hM7054
      dsimp only
      exact qs_tr (show (vs vi ve) _ _ from rfl) hS7054 hM7054
  · intro v7051 S7051 hS7051 hM7051
    dsimp only
    exact qs_tr (show (vs vi ve) _ _ from rfl) hS7051 hM7051
set_option maxRecDepth 20000 in
theorem qz_X11_wire_J34 {P : Nat → Nat} {S : zm_S} {M : qm} {i1 : Int32} {qi1 : Int} {i2 : Int32} {qi2 : Int} {i3 : Int32} {qi3 : Int} (hS : Sh L xs P S) (hM : qM P S = M) (ei1 : i1.toInt = qi1) (ei2 : i2.toInt = qi2) (ei3 : i3.toInt = qi3) : qs (zf_X11_wire_J34 20000 6 i1 i2 i3 S) (qf_X11_wire_J34 20000 qi1 qi2 qi3 M) (tO (rr L xs P (vs vi ve))) := by
  unfold zf_X11_wire_J34 qf_X11_wire_J34
  exact (qz_X11_wire_J35 hS hM ei1 ei2 ei3 k_0)
set_option maxRecDepth 20000 in
theorem qz_X11_wire_J30 {P : Nat → Nat} {S : zm_S} {M : qm} {i1 : Int32} {qi1 : Int} {i2 : Int32} {qi2 : Int} {i3 : Int32} {qi3 : Int} (hS : Sh L xs P S) (hM : qM P S = M) (ei1 : i1.toInt = qi1) (ei2 : i2.toInt = qi2) (ei3 : i3.toInt = qi3) : qs (zf_X11_wire_J30 20000 6 i1 i2 i3 S) (qf_X11_wire_J30 20000 qi1 qi2 qi3 M) (tO (rr L xs P (vs vi ve))) := by
  unfold zf_X11_wire_J30 qf_X11_wire_J30
  exact (qz_X11_wire_J35 hS hM ei1 ei2 ei3 k_1)
set_option maxRecDepth 20000 in
theorem qz_X11_wire {P : Nat → Nat} {S : zm_S} {M : qm} {i1 : Int32} {qi1 : Int} {i2 : Int32} {qi2 : Int} {i3 : Int32} {qi3 : Int} (hS : Sh L xs P S) (hM : qM P S = M) (ei1 : i1.toInt = qi1) (ei2 : i2.toInt = qi2) (ei3 : i3.toInt = qi3) : qs (zf_X11_wire 20000 6 i1 i2 i3 S) (qf_X11_wire 20000 qi1 qi2 qi3 M) (tO (rr L xs P (vs vi ve))) := by
  unfold zf_X11_wire qf_X11_wire
  refine qs_zi hS pl_6 ts_6 ?_
  refine qs_bp (qz_X11_isBlock hS hM ei1) (fun v7059 S7059 w7059 h7059 hS7059 hM7059 => ?_)
  refine qs_ite (c_eq h7059 k_0) ?_ ?_
  · exact (qz_X11_wire_J34 hS7059 hM7059 ei1 ei2 ei3)
  · refine qs_bp (qz_X11_isWithin hS7059 hM7059 ei2 k_0 k_2) (fun v7060 S7060 w7060 h7060 hS7060 hM7060 => ?_)
    refine qs_ite (c_eq h7060 k_0) ?_ ?_
    · exact (qz_X11_wire_J34 hS7060 hM7060 ei1 ei2 ei3)
    · refine qs_ite (c_eq ei3 k_m1) ?_ ?_
      · exact (qz_X11_wire_J30 hS7060 hM7060 ei1 ei2 ei3)
      · refine qs_zi hS7060 pl_6 ts_6 ?_
        refine qs_bp (qz_X11_isBlock hS7060 hM7060 ei3) (fun v7062 S7062 w7062 h7062 hS7062 hM7062 => ?_)
        refine qs_ite (c_eq h7062 k_0) ?_ ?_
        · exact (qz_X11_wire_J34 hS7062 hM7062 ei1 ei2 ei3)
        · exact (qz_X11_wire_J30 hS7062 hM7062 ei1 ei2 ei3)
set_option maxRecDepth 20000 in
theorem qz_L_wire {P : Nat → Nat} {S : zm_S} {M : qm} {i1 : Int32} {qi1 : Int} {i2 : Int32} {qi2 : Int} {i3 : Int32} {qi3 : Int} (hS : Sh L xs P S) (hM : qM P S = M) (ei1 : i1.toInt = qi1) (ei2 : i2.toInt = qi2) (ei3 : i3.toInt = qi3) : qs (zf_L_wire 20000 6 i1 i2 i3 2332 S) (qf_L_wire 20000 qi1 qi2 qi3 M) (tO (rr L xs P vi)) := by
  unfold zf_L_wire qf_L_wire
  refine qs_zi hS pl_6 ts_6 ?_
  refine qs_xr (qz_X11_wire hS hM ei1 ei2 ei3) ?_ ?_
  · intro v7065 S7065 w7065 M7065 h7065 hS7065 hM7065
    dsimp only
    refine qs_sl hS7065 hM7065 (pa_p hS7065 pl_2332 ts_2332) k_0 (by decide) (p_64 h7065) (fun S7066 M7066 hS7066 hM7066 => ?_)
    exact qs_tr (show vi _ _ from k_0) hS7066 hM7066
  · intro v7065 S7065 M7065 hS7065 hM7065
    dsimp only
    refine qs_ite Iff.rfl ?_ ?_
    · exact qs_tr (show vi _ _ from k_1) hS7065 hM7065
    · refine qs_ite Iff.rfl ?_ ?_
      · exact qs_tr (show vi _ _ from k_2) hS7065 hM7065
      · exact qs_none
set_option maxRecDepth 20000 in
theorem qz_X18_wire_J47 {P : Nat → Nat} {S : zm_S} {M : qm} {i1 : Int32} {qi1 : Int} {i2 : Int32} {qi2 : Int} {i3 : Int32} {qi3 : Int} {t1 : Int32} {qt1 : Int} (hS : Sh L xs P S) (hM : qM P S = M) (ei1 : i1.toInt = qi1) (ei2 : i2.toInt = qi2) (ei3 : i3.toInt = qi3) (et1 : t1.toInt = qt1) : qs (zf_X18_wire_J47 20000 2156 i1 i2 i3 2156 t1 S) (qf_X18_wire_J47 20000 qi1 qi2 qi3 qt1 M) (tO (rr L xs P vi)) := by
  unfold zf_X18_wire_J47 qf_X18_wire_J47
  refine qs_gi hS hM pl_2156 ts_2156 (z := 1) rfl rfl (fun v7067 h7067 => ?_)
  refine qs_zi hS pl_2156 ts_2156 ?_
  refine qs_b (qz_X18_goes hS hM et1 h7067) (fun v7069 S7069 w7069 M7069 h7069 hS7069 hM7069 => ?_)
  refine qs_ite (c_eq h7069 k_0) ?_ ?_
  · exact qs_tr (show vi _ _ from k_0) hS7069 hM7069
  · refine qs_gr hS7069 pl_2156 ts_2156 rfl ?_
    refine qs_gr hS7069 pl_2235 ts_2235 rfl ?_
    refine qs_gd (fun g7073 => ?_)
    refine qs_xi hM7069 (pa_p hS7069 pl_2240 ts_2240) (p_add (p_mul k_3 ei1) ei2) g7073 (fun v7072 h7072 => ?_)
    refine qs_gr hS7069 pl_2156 ts_2156 rfl ?_
    refine qs_gr hS7069 pl_2235 ts_2235 rfl ?_
    refine qs_gd (fun g7077 => ?_)
    refine qs_si hS7069 hM7069 (pa_p hS7069 pl_2240 ts_2240) (p_add (p_mul k_3 ei1) ei2) g7077 ei3 (fun S7076 M7076 hS7076 hM7076 => ?_)
    exact qs_tr (show vi _ _ from h7072) hS7076 hM7076
set_option maxRecDepth 20000 in
theorem qz_X18_wire_J46 {P : Nat → Nat} {S : zm_S} {M : qm} {i1 : Int32} {qi1 : Int} {i2 : Int32} {qi2 : Int} {i3 : Int32} {qi3 : Int} (hS : Sh L xs P S) (hM : qM P S = M) (ei1 : i1.toInt = qi1) (ei2 : i2.toInt = qi2) (ei3 : i3.toInt = qi3) : qs (zf_X18_wire_J46 20000 2156 i1 i2 i3 2156 S) (qf_X18_wire_J46 20000 qi1 qi2 qi3 M) (tO (rr L xs P vi)) := by
  unfold zf_X18_wire_J46 qf_X18_wire_J46
  exact (qz_X18_wire_J47 hS hM ei1 ei2 ei3 k_0)
set_option maxRecDepth 20000 in
theorem qz_X18_wire_J42 {P : Nat → Nat} {S : zm_S} {M : qm} {i1 : Int32} {qi1 : Int} {i2 : Int32} {qi2 : Int} {i3 : Int32} {qi3 : Int} (hS : Sh L xs P S) (hM : qM P S = M) (ei1 : i1.toInt = qi1) (ei2 : i2.toInt = qi2) (ei3 : i3.toInt = qi3) : qs (zf_X18_wire_J42 20000 2156 i1 i2 i3 2156 S) (qf_X18_wire_J42 20000 qi1 qi2 qi3 M) (tO (rr L xs P vi)) := by
  unfold zf_X18_wire_J42 qf_X18_wire_J42
  exact (qz_X18_wire_J47 hS hM ei1 ei2 ei3 k_1)
set_option maxRecDepth 20000 in
theorem qz_X18_wire {P : Nat → Nat} {S : zm_S} {M : qm} {i1 : Int32} {qi1 : Int} {i2 : Int32} {qi2 : Int} {i3 : Int32} {qi3 : Int} (hS : Sh L xs P S) (hM : qM P S = M) (ei1 : i1.toInt = qi1) (ei2 : i2.toInt = qi2) (ei3 : i3.toInt = qi3) : qs (zf_X18_wire 20000 2156 i1 i2 i3 S) (qf_X18_wire 20000 qi1 qi2 qi3 M) (tO (rr L xs P vi)) := by
  unfold zf_X18_wire qf_X18_wire
  refine qs_gr hS pl_2156 ts_2156 rfl ?_
  refine qs_gi hS hM pl_2235 ts_2235 (z := 0) rfl rfl (fun v7079 h7079 => ?_)
  refine qs_bp (qz_X18_isIn hS hM ei1 h7079) (fun v7080 S7080 w7080 h7080 hS7080 hM7080 => ?_)
  refine qs_ite (c_eq h7080 k_0) ?_ ?_
  · exact (qz_X18_wire_J46 hS7080 hM7080 ei1 ei2 ei3)
  · refine qs_bp (qz_X18_isIn hS7080 hM7080 ei2 k_3) (fun v7081 S7081 w7081 h7081 hS7081 hM7081 => ?_)
    refine qs_ite (c_eq h7081 k_0) ?_ ?_
    · exact (qz_X18_wire_J46 hS7081 hM7081 ei1 ei2 ei3)
    · refine qs_ite (c_eq ei3 k_m1) ?_ ?_
      · exact (qz_X18_wire_J42 hS7081 hM7081 ei1 ei2 ei3)
      · refine qs_gr hS7081 pl_2156 ts_2156 rfl ?_
        refine qs_gi hS7081 hM7081 pl_2235 ts_2235 (z := 0) rfl rfl (fun v7083 h7083 => ?_)
        refine qs_bp (qz_X18_isIn hS7081 hM7081 ei3 h7083) (fun v7084 S7084 w7084 h7084 hS7084 hM7084 => ?_)
        refine qs_ite (c_eq h7084 k_0) ?_ ?_
        · exact (qz_X18_wire_J46 hS7084 hM7084 ei1 ei2 ei3)
        · exact (qz_X18_wire_J42 hS7084 hM7084 ei1 ei2 ei3)
set_option maxRecDepth 20000 in
theorem qz_X11_numbers {P : Nat → Nat} {S : zm_S} {M : qm} {i1 : Int32} {qi1 : Int} {i2 : Int32} {qi2 : Int} {i3 : Int32} {qi3 : Int} (hS : Sh L xs P S) (hM : qM P S = M) (ei1 : i1.toInt = qi1) (ei2 : i2.toInt = qi2) (ei3 : i3.toInt = qi3) : qs (zf_X11_numbers 20000 6 i1 i2 i3 S) (qf_X11_numbers 20000 qi1 qi2 qi3 M) (tO (rr L xs P (vs vu ve))) := by
  unfold zf_X11_numbers qf_X11_numbers
  refine qs_zi hS pl_6 ts_6 ?_
  refine qs_bp (qz_X11_isBlock hS hM ei1) (fun v7086 S7086 w7086 h7086 hS7086 hM7086 => ?_)
  refine qs_xp (qz_X11_needArgument hS7086 hM7086 h7086) ?_ ?_
  · intro v7088 S7088 w7088 h7088 hS7088 hM7088
    dsimp only
    refine qs_gi hS7088 hM7088 pl_6 ts_6 (z := 11) rfl rfl (fun v7089 h7089 => ?_)
    refine qs_xp (qz_X11_needState hS7088 hM7088 h7089) ?_ ?_
    · intro v7091 S7091 w7091 h7091 hS7091 hM7091
      dsimp only
      refine qs_gr hS7091 pl_6 ts_6 rfl ?_
      refine qs_gr hS7091 pl_1003 ts_1003 rfl ?_
      refine qs_gd (fun g7095 => ?_)
      refine qs_si hS7091 hM7091 (pa_p hS7091 pl_1005 ts_1005) ei1 g7095 ei2 (fun S7094 M7094 hS7094 hM7094 => ?_)
      refine qs_gr hS7094 pl_6 ts_6 rfl ?_
      refine qs_gr hS7094 pl_1003 ts_1003 rfl ?_
      refine qs_gd (fun g7099 => ?_)
      refine qs_si hS7094 hM7094 (pa_p hS7094 pl_1006 ts_1006) ei1 g7099 ei3 (fun S7098 M7098 hS7098 hM7098 => ?_)
      exact qs_tr (show (vs vu ve) _ _ from trivial) hS7098 hM7098
    · intro v7091 S7091 hS7091 hM7091
      dsimp only
      exact qs_tr (show (vs vu ve) _ _ from rfl) hS7091 hM7091
  · intro v7088 S7088 hS7088 hM7088
    dsimp only
    exact qs_tr (show (vs vu ve) _ _ from rfl) hS7088 hM7088
set_option maxRecDepth 20000 in
theorem qz_L_numbers {P : Nat → Nat} {S : zm_S} {M : qm} {i1 : Int32} {qi1 : Int} {i2 : Int32} {qi2 : Int} {i3 : Int32} {qi3 : Int} (hS : Sh L xs P S) (hM : qM P S = M) (ei1 : i1.toInt = qi1) (ei2 : i2.toInt = qi2) (ei3 : i3.toInt = qi3) : qs (zf_L_numbers 20000 6 i1 i2 i3 S) (qf_L_numbers 20000 qi1 qi2 qi3 M) (tO (rr L xs P vi)) := by
  unfold zf_L_numbers qf_L_numbers
  refine qs_zi hS pl_6 ts_6 ?_
  refine qs_xr (qz_X11_numbers hS hM ei1 ei2 ei3) ?_ ?_
  · intro v7102 S7102 w7102 M7102 h7102 hS7102 hM7102
    dsimp only
    exact qs_tr (show vi _ _ from k_0) hS7102 hM7102
  · intro v7102 S7102 M7102 hS7102 hM7102
    dsimp only
    refine qs_ite Iff.rfl ?_ ?_
    · exact qs_tr (show vi _ _ from k_1) hS7102 hM7102
    · refine qs_ite Iff.rfl ?_ ?_
      · exact qs_tr (show vi _ _ from k_2) hS7102 hM7102
      · exact qs_none
set_option maxRecDepth 20000 in
theorem qz_X18_numbers {P : Nat → Nat} {S : zm_S} {M : qm} {i1 : Int32} {qi1 : Int} {i2 : Int32} {qi2 : Int} {i3 : Int32} {qi3 : Int} (hS : Sh L xs P S) (hM : qM P S = M) (ei1 : i1.toInt = qi1) (ei2 : i2.toInt = qi2) (ei3 : i3.toInt = qi3) : qs (zf_X18_numbers 20000 2156 i1 i2 i3 S) (qf_X18_numbers 20000 qi1 qi2 qi3 M) (tO (rr L xs P vu)) := by
  unfold zf_X18_numbers qf_X18_numbers
  refine qs_gr hS pl_2156 ts_2156 rfl ?_
  refine qs_gi hS hM pl_2235 ts_2235 (z := 0) rfl rfl (fun v7104 h7104 => ?_)
  refine qs_bp (qz_X18_isIn hS hM ei1 h7104) (fun v7105 S7105 w7105 h7105 hS7105 hM7105 => ?_)
  refine qs_gi hS7105 hM7105 pl_2156 ts_2156 (z := 1) rfl rfl (fun v7106 h7106 => ?_)
  refine qs_zi hS7105 pl_2156 ts_2156 ?_
  refine qs_b (qz_X18_goes hS7105 hM7105 h7105 h7106) (fun v7108 S7108 w7108 M7108 h7108 hS7108 hM7108 => ?_)
  refine qs_ite (c_eq h7108 k_0) ?_ ?_
  · exact qs_tr (show vu _ _ from trivial) hS7108 hM7108
  · refine qs_gr hS7108 pl_2156 ts_2156 rfl ?_
    refine qs_gr hS7108 pl_2235 ts_2235 rfl ?_
    refine qs_gd (fun g7112 => ?_)
    refine qs_si hS7108 hM7108 (pa_p hS7108 pl_2237 ts_2237) ei1 g7112 ei2 (fun S7111 M7111 hS7111 hM7111 => ?_)
    refine qs_gr hS7111 pl_2156 ts_2156 rfl ?_
    refine qs_gr hS7111 pl_2235 ts_2235 rfl ?_
    refine qs_gd (fun g7116 => ?_)
    refine qs_si hS7111 hM7111 (pa_p hS7111 pl_2238 ts_2238) ei1 g7116 ei3 (fun S7115 M7115 hS7115 hM7115 => ?_)
    exact qs_tr (show vu _ _ from trivial) hS7115 hM7115
set_option maxRecDepth 20000 in
theorem qz_X11_row_J52 {P : Nat → Nat} {S : zm_S} {M : qm} {i1 : Int32} {qi1 : Int} {i2 : Int32} {qi2 : Int} {i3 : Int32} {qi3 : Int} {t0 : Int32} {qt0 : Int} (hS : Sh L xs P S) (hM : qM P S = M) (ei1 : i1.toInt = qi1) (ei2 : i2.toInt = qi2) (ei3 : i3.toInt = qi3) (et0 : t0.toInt = qt0) : qs (zf_X11_row_J52 20000 6 i1 i2 i3 t0 S) (qf_X11_row_J52 20000 qi1 qi2 qi3 qt0 M) (tO (rr L xs P (vs vi ve))) := by
  unfold zf_X11_row_J52 qf_X11_row_J52
  refine qs_xp (qz_X11_needState hS hM et0) ?_ ?_
  · intro v7118 S7118 w7118 h7118 hS7118 hM7118
    dsimp only
    refine qs_gr hS7118 pl_6 ts_6 rfl ?_
    refine qs_gr hS7118 pl_1003 ts_1003 rfl ?_
    refine qs_gd (fun g7122 => ?_)
    refine qs_xt hS7118 pl_1091 ts_1091 (Or.inl rfl) ei1 g7122 (fun b7121 r7121 => ?_)
    refine qs_gd (fun g7124 => ?_)
    refine qs_yi hS7118 hM7118 qt_1091 tq_1091 r7121 ei2 g7124 (fun v7123 h7123 => ?_)
    refine qs_gr hS7118 pl_6 ts_6 rfl ?_
    refine qs_gr hS7118 pl_1003 ts_1003 rfl ?_
    refine qs_gd (fun g7128 => ?_)
    refine qs_xt hS7118 pl_1091 ts_1091 (Or.inl rfl) ei1 g7128 (fun b7127 r7127 => ?_)
    refine qs_gd (fun g7130 => ?_)
    refine qs_ysi hS7118 hM7118 qt_1091 tq_1091 r7127 ei2 g7130 ei3 (fun S7129 M7129 hS7129 hM7129 => ?_)
    exact qs_tr (show (vs vi ve) _ _ from h7123) hS7129 hM7129
  · intro v7118 S7118 hS7118 hM7118
    dsimp only
    exact qs_tr (show (vs vi ve) _ _ from rfl) hS7118 hM7118
set_option maxRecDepth 20000 in
theorem qz_X11_row_J51 {P : Nat → Nat} {S : zm_S} {M : qm} {i1 : Int32} {qi1 : Int} {i2 : Int32} {qi2 : Int} {i3 : Int32} {qi3 : Int} (hS : Sh L xs P S) (hM : qM P S = M) (ei1 : i1.toInt = qi1) (ei2 : i2.toInt = qi2) (ei3 : i3.toInt = qi3) : qs (zf_X11_row_J51 20000 6 i1 i2 i3 S) (qf_X11_row_J51 20000 qi1 qi2 qi3 M) (tO (rr L xs P (vs vi ve))) := by
  unfold zf_X11_row_J51 qf_X11_row_J51
  exact (qz_X11_row_J52 hS hM ei1 ei2 ei3 k_0)
set_option maxRecDepth 20000 in
theorem qz_X11_row_J23 {P : Nat → Nat} {S : zm_S} {M : qm} {i1 : Int32} {qi1 : Int} {i2 : Int32} {qi2 : Int} {i3 : Int32} {qi3 : Int} {t0 : Int32} {qt0 : Int} (hS : Sh L xs P S) (hM : qM P S = M) (ei1 : i1.toInt = qi1) (ei2 : i2.toInt = qi2) (ei3 : i3.toInt = qi3) (et0 : t0.toInt = qt0) : qs (zf_X11_row_J23 20000 6 i1 i2 i3 t0 S) (qf_X11_row_J23 20000 qi1 qi2 qi3 qt0 M) (tO (rr L xs P (vs vi ve))) := by
  unfold zf_X11_row_J23 qf_X11_row_J23
  refine qs_xp (qz_X11_needArgument hS hM et0) ?_ ?_
  · intro v7132 S7132 w7132 h7132 hS7132 hM7132
    dsimp only
    refine qs_gi hS7132 hM7132 pl_6 ts_6 (z := 11) rfl rfl (fun v7133 h7133 => ?_)
    refine qs_ite (c_eq h7133 k_0) ?_ ?_
    · exact (qz_X11_row_J51 hS7132 hM7132 ei1 ei2 ei3)
    · refine qs_gr hS7132 pl_6 ts_6 rfl ?_
      refine qs_gr hS7132 pl_1003 ts_1003 rfl ?_
      refine qs_gd (fun g7137 => ?_)
      refine qs_xi hM7132 (pa_p hS7132 pl_1004 ts_1004) ei1 g7137 (fun v7136 h7136 => ?_)
      refine qs_ite (c_eq h7136 k_15) ?_ ?_
      · exact (qz_X11_row_J52 hS7132 hM7132 ei1 ei2 ei3 k_1)
      · exact (qz_X11_row_J51 hS7132 hM7132 ei1 ei2 ei3)
  · intro v7132 S7132 hS7132 hM7132
    dsimp only
    exact qs_tr (show (vs vi ve) _ _ from rfl) hS7132 hM7132
set_option maxRecDepth 20000 in
theorem qz_X11_row_J22 {P : Nat → Nat} {S : zm_S} {M : qm} {i1 : Int32} {qi1 : Int} {i2 : Int32} {qi2 : Int} {i3 : Int32} {qi3 : Int} (hS : Sh L xs P S) (hM : qM P S = M) (ei1 : i1.toInt = qi1) (ei2 : i2.toInt = qi2) (ei3 : i3.toInt = qi3) : qs (zf_X11_row_J22 20000 6 i1 i2 i3 S) (qf_X11_row_J22 20000 qi1 qi2 qi3 M) (tO (rr L xs P (vs vi ve))) := by
  unfold zf_X11_row_J22 qf_X11_row_J22
  exact (qz_X11_row_J23 hS hM ei1 ei2 ei3 k_0)
set_option maxRecDepth 20000 in
theorem qz_X11_row {P : Nat → Nat} {S : zm_S} {M : qm} {i1 : Int32} {qi1 : Int} {i2 : Int32} {qi2 : Int} {i3 : Int32} {qi3 : Int} (hS : Sh L xs P S) (hM : qM P S = M) (ei1 : i1.toInt = qi1) (ei2 : i2.toInt = qi2) (ei3 : i3.toInt = qi3) : qs (zf_X11_row 20000 6 i1 i2 i3 S) (qf_X11_row 20000 qi1 qi2 qi3 M) (tO (rr L xs P (vs vi ve))) := by
  unfold zf_X11_row qf_X11_row
  refine qs_zi hS pl_6 ts_6 ?_
  refine qs_bp (qz_X11_isBlock hS hM ei1) (fun v7139 S7139 w7139 h7139 hS7139 hM7139 => ?_)
  refine qs_ite (c_eq h7139 k_0) ?_ ?_
  · exact (qz_X11_row_J22 hS7139 hM7139 ei1 ei2 ei3)
  · refine qs_bp (qz_X11_isWithin hS7139 hM7139 ei2 k_0 k_7) (fun v7140 S7140 w7140 h7140 hS7140 hM7140 => ?_)
    refine qs_ite (c_eq h7140 k_0) ?_ ?_
    · exact (qz_X11_row_J22 hS7140 hM7140 ei1 ei2 ei3)
    · exact (qz_X11_row_J23 hS7140 hM7140 ei1 ei2 ei3 k_1)
set_option maxRecDepth 20000 in
theorem qz_L_row {P : Nat → Nat} {S : zm_S} {M : qm} {i1 : Int32} {qi1 : Int} {i2 : Int32} {qi2 : Int} {i3 : Int32} {qi3 : Int} (hS : Sh L xs P S) (hM : qM P S = M) (ei1 : i1.toInt = qi1) (ei2 : i2.toInt = qi2) (ei3 : i3.toInt = qi3) : qs (zf_L_row 20000 6 i1 i2 i3 2332 S) (qf_L_row 20000 qi1 qi2 qi3 M) (tO (rr L xs P vi)) := by
  unfold zf_L_row qf_L_row
  refine qs_zi hS pl_6 ts_6 ?_
  refine qs_xr (qz_X11_row hS hM ei1 ei2 ei3) ?_ ?_
  · intro v7143 S7143 w7143 M7143 h7143 hS7143 hM7143
    dsimp only
    refine qs_sl hS7143 hM7143 (pa_p hS7143 pl_2332 ts_2332) k_0 (by decide) (p_64 h7143) (fun S7144 M7144 hS7144 hM7144 => ?_)
    exact qs_tr (show vi _ _ from k_0) hS7144 hM7144
  · intro v7143 S7143 M7143 hS7143 hM7143
    dsimp only
    refine qs_ite Iff.rfl ?_ ?_
    · exact qs_tr (show vi _ _ from k_1) hS7143 hM7143
    · refine qs_ite Iff.rfl ?_ ?_
      · exact qs_tr (show vi _ _ from k_2) hS7143 hM7143
      · exact qs_none
set_option maxRecDepth 20000 in
theorem qz_X18_row_J64 {P : Nat → Nat} {S : zm_S} {M : qm} {i1 : Int32} {qi1 : Int} {i2 : Int32} {qi2 : Int} {i3 : Int32} {qi3 : Int} {t1 : Int32} {qt1 : Int} {t2 : Int32} {qt2 : Int} (hS : Sh L xs P S) (hM : qM P S = M) (ei1 : i1.toInt = qi1) (ei2 : i2.toInt = qi2) (ei3 : i3.toInt = qi3) (et1 : t1.toInt = qt1) (et2 : t2.toInt = qt2) : qs (zf_X18_row_J64 20000 2156 i1 i2 i3 2156 t1 t2 S) (qf_X18_row_J64 20000 qi1 qi2 qi3 qt1 qt2 M) (tO (rr L xs P vi)) := by
  unfold zf_X18_row_J64 qf_X18_row_J64
  refine qs_zi hS pl_2156 ts_2156 ?_
  refine qs_b (qz_X18_goes hS hM et1 et2) (fun v7146 S7146 w7146 M7146 h7146 hS7146 hM7146 => ?_)
  refine qs_ite (c_eq h7146 k_0) ?_ ?_
  · exact qs_tr (show vi _ _ from k_0) hS7146 hM7146
  · refine qs_gr hS7146 pl_2156 ts_2156 rfl ?_
    refine qs_gr hS7146 pl_2235 ts_2235 rfl ?_
    refine qs_gd (fun g7150 => ?_)
    refine qs_xi hM7146 (pa_p hS7146 pl_2241 ts_2241) (p_add (p_mul k_8 ei1) ei2) g7150 (fun v7149 h7149 => ?_)
    refine qs_gr hS7146 pl_2156 ts_2156 rfl ?_
    refine qs_gr hS7146 pl_2235 ts_2235 rfl ?_
    refine qs_gd (fun g7154 => ?_)
    refine qs_si hS7146 hM7146 (pa_p hS7146 pl_2241 ts_2241) (p_add (p_mul k_8 ei1) ei2) g7154 ei3 (fun S7153 M7153 hS7153 hM7153 => ?_)
    exact qs_tr (show vi _ _ from h7149) hS7153 hM7153
set_option maxRecDepth 20000 in
theorem qz_X18_row_J63 {P : Nat → Nat} {S : zm_S} {M : qm} {i1 : Int32} {qi1 : Int} {i2 : Int32} {qi2 : Int} {i3 : Int32} {qi3 : Int} {t1 : Int32} {qt1 : Int} (hS : Sh L xs P S) (hM : qM P S = M) (ei1 : i1.toInt = qi1) (ei2 : i2.toInt = qi2) (ei3 : i3.toInt = qi3) (et1 : t1.toInt = qt1) : qs (zf_X18_row_J63 20000 2156 i1 i2 i3 2156 t1 S) (qf_X18_row_J63 20000 qi1 qi2 qi3 qt1 M) (tO (rr L xs P vi)) := by
  unfold zf_X18_row_J63 qf_X18_row_J63
  exact (qz_X18_row_J64 hS hM ei1 ei2 ei3 et1 k_0)
set_option maxRecDepth 20000 in
theorem qz_X18_row_J59 {P : Nat → Nat} {S : zm_S} {M : qm} {i1 : Int32} {qi1 : Int} {i2 : Int32} {qi2 : Int} {i3 : Int32} {qi3 : Int} {t1 : Int32} {qt1 : Int} (hS : Sh L xs P S) (hM : qM P S = M) (ei1 : i1.toInt = qi1) (ei2 : i2.toInt = qi2) (ei3 : i3.toInt = qi3) (et1 : t1.toInt = qt1) : qs (zf_X18_row_J59 20000 2156 i1 i2 i3 2156 t1 S) (qf_X18_row_J59 20000 qi1 qi2 qi3 qt1 M) (tO (rr L xs P vi)) := by
  unfold zf_X18_row_J59 qf_X18_row_J59
  exact (qz_X18_row_J64 hS hM ei1 ei2 ei3 et1 k_1)
set_option maxRecDepth 20000 in
theorem qz_X18_row_J28 {P : Nat → Nat} {S : zm_S} {M : qm} {i1 : Int32} {qi1 : Int} {i2 : Int32} {qi2 : Int} {i3 : Int32} {qi3 : Int} {t0 : Int32} {qt0 : Int} (hS : Sh L xs P S) (hM : qM P S = M) (ei1 : i1.toInt = qi1) (ei2 : i2.toInt = qi2) (ei3 : i3.toInt = qi3) (et0 : t0.toInt = qt0) : qs (zf_X18_row_J28 20000 2156 i1 i2 i3 t0 S) (qf_X18_row_J28 20000 qi1 qi2 qi3 qt0 M) (tO (rr L xs P vi)) := by
  unfold zf_X18_row_J28 qf_X18_row_J28
  refine qs_gi hS hM pl_2156 ts_2156 (z := 1) rfl rfl (fun v7155 h7155 => ?_)
  refine qs_ite (c_eq h7155 k_0) ?_ ?_
  · exact (qz_X18_row_J63 hS hM ei1 ei2 ei3 et0)
  · refine qs_ite (c_eq et0 k_0) ?_ ?_
    · exact (qz_X18_row_J59 hS hM ei1 ei2 ei3 et0)
    · refine qs_gr hS pl_2156 ts_2156 rfl ?_
      refine qs_gr hS pl_2235 ts_2235 rfl ?_
      refine qs_gd (fun g7159 => ?_)
      refine qs_xi hM (pa_p hS pl_2236 ts_2236) ei1 g7159 (fun v7158 h7158 => ?_)
      refine qs_ite (c_eq h7158 k_15) ?_ ?_
      · exact (qz_X18_row_J59 hS hM ei1 ei2 ei3 et0)
      · exact (qz_X18_row_J63 hS hM ei1 ei2 ei3 et0)
set_option maxRecDepth 20000 in
theorem qz_X18_row_J27 {P : Nat → Nat} {S : zm_S} {M : qm} {i1 : Int32} {qi1 : Int} {i2 : Int32} {qi2 : Int} {i3 : Int32} {qi3 : Int} (hS : Sh L xs P S) (hM : qM P S = M) (ei1 : i1.toInt = qi1) (ei2 : i2.toInt = qi2) (ei3 : i3.toInt = qi3) : qs (zf_X18_row_J27 20000 2156 i1 i2 i3 S) (qf_X18_row_J27 20000 qi1 qi2 qi3 M) (tO (rr L xs P vi)) := by
  unfold zf_X18_row_J27 qf_X18_row_J27
  exact (qz_X18_row_J28 hS hM ei1 ei2 ei3 k_0)
set_option maxRecDepth 20000 in
theorem qz_X18_row {P : Nat → Nat} {S : zm_S} {M : qm} {i1 : Int32} {qi1 : Int} {i2 : Int32} {qi2 : Int} {i3 : Int32} {qi3 : Int} (hS : Sh L xs P S) (hM : qM P S = M) (ei1 : i1.toInt = qi1) (ei2 : i2.toInt = qi2) (ei3 : i3.toInt = qi3) : qs (zf_X18_row 20000 2156 i1 i2 i3 S) (qf_X18_row 20000 qi1 qi2 qi3 M) (tO (rr L xs P vi)) := by
  unfold zf_X18_row qf_X18_row
  refine qs_gr hS pl_2156 ts_2156 rfl ?_
  refine qs_gi hS hM pl_2235 ts_2235 (z := 0) rfl rfl (fun v7161 h7161 => ?_)
  refine qs_bp (qz_X18_isIn hS hM ei1 h7161) (fun v7162 S7162 w7162 h7162 hS7162 hM7162 => ?_)
  refine qs_ite (c_eq h7162 k_0) ?_ ?_
  · exact (qz_X18_row_J27 hS7162 hM7162 ei1 ei2 ei3)
  · refine qs_bp (qz_X18_isIn hS7162 hM7162 ei2 k_8) (fun v7163 S7163 w7163 h7163 hS7163 hM7163 => ?_)
    refine qs_ite (c_eq h7163 k_0) ?_ ?_
    · exact (qz_X18_row_J27 hS7163 hM7163 ei1 ei2 ei3)
    · exact (qz_X18_row_J28 hS7163 hM7163 ei1 ei2 ei3 k_1)
set_option maxRecDepth 20000 in
theorem qz_X11_safe {P : Nat → Nat} {S : zm_S} {M : qm} {i1 : Int32} {qi1 : Int} {i2 : Int32} {qi2 : Int} (hS : Sh L xs P S) (hM : qM P S = M) (ei1 : i1.toInt = qi1) (ei2 : i2.toInt = qi2) : qs (zf_X11_safe 20000 6 i1 i2 S) (qf_X11_safe 20000 qi1 qi2 M) (tO (rr L xs P (vs vi ve))) := by
  unfold zf_X11_safe qf_X11_safe
  refine qs_zi hS pl_6 ts_6 ?_
  refine qs_bp (qz_X11_isBlock hS hM ei1) (fun v7165 S7165 w7165 h7165 hS7165 hM7165 => ?_)
  refine qs_xp (qz_X11_needArgument hS7165 hM7165 h7165) ?_ ?_
  · intro v7167 S7167 w7167 h7167 hS7167 hM7167
    dsimp only
    refine qs_gi hS7167 hM7167 pl_6 ts_6 (z := 11) rfl rfl (fun v7168 h7168 => ?_)
    refine qs_xp (qz_X11_needState hS7167 hM7167 h7168) ?_ ?_
    · intro v7170 S7170 w7170 h7170 hS7170 hM7170
      dsimp only
      refine qs_gr hS7170 pl_6 ts_6 rfl ?_
      refine qs_gr hS7170 pl_1003 ts_1003 rfl ?_
      refine qs_gd (fun g7174 => ?_)
      refine qs_xi hM7170 (pa_p hS7170 pl_1007 ts_1007) ei1 g7174 (fun v7173 h7173 => ?_)
      refine qs_gr hS7170 pl_6 ts_6 rfl ?_
      refine qs_gr hS7170 pl_1003 ts_1003 rfl ?_
      refine qs_gd (fun g7178 => ?_)
      refine qs_si hS7170 hM7170 (pa_p hS7170 pl_1007 ts_1007) ei1 g7178 ei2 (fun S7177 M7177 hS7177 hM7177 => ?_)
      exact qs_tr (show (vs vi ve) _ _ from h7173) hS7177 hM7177
    · intro v7170 S7170 hS7170 hM7170
      dsimp only
      exact qs_tr (show (vs vi ve) _ _ from rfl) hS7170 hM7170
  · intro v7167 S7167 hS7167 hM7167
    dsimp only
    exact qs_tr (show (vs vi ve) _ _ from rfl) hS7167 hM7167
set_option maxRecDepth 20000 in
theorem qz_L_safe {P : Nat → Nat} {S : zm_S} {M : qm} {i1 : Int32} {qi1 : Int} {i2 : Int32} {qi2 : Int} (hS : Sh L xs P S) (hM : qM P S = M) (ei1 : i1.toInt = qi1) (ei2 : i2.toInt = qi2) : qs (zf_L_safe 20000 6 i1 i2 2332 S) (qf_L_safe 20000 qi1 qi2 M) (tO (rr L xs P vi)) := by
  unfold zf_L_safe qf_L_safe
  refine qs_zi hS pl_6 ts_6 ?_
  refine qs_xr (qz_X11_safe hS hM ei1 ei2) ?_ ?_
  · intro v7181 S7181 w7181 M7181 h7181 hS7181 hM7181
    dsimp only
    refine qs_sl hS7181 hM7181 (pa_p hS7181 pl_2332 ts_2332) k_0 (by decide) (p_64 h7181) (fun S7182 M7182 hS7182 hM7182 => ?_)
    exact qs_tr (show vi _ _ from k_0) hS7182 hM7182
  · intro v7181 S7181 M7181 hS7181 hM7181
    dsimp only
    refine qs_ite Iff.rfl ?_ ?_
    · exact qs_tr (show vi _ _ from k_1) hS7181 hM7181
    · refine qs_ite Iff.rfl ?_ ?_
      · exact qs_tr (show vi _ _ from k_2) hS7181 hM7181
      · exact qs_none
set_option maxRecDepth 20000 in
theorem qz_X18_safe {P : Nat → Nat} {S : zm_S} {M : qm} {i1 : Int32} {qi1 : Int} {i2 : Int32} {qi2 : Int} (hS : Sh L xs P S) (hM : qM P S = M) (ei1 : i1.toInt = qi1) (ei2 : i2.toInt = qi2) : qs (zf_X18_safe 20000 2156 i1 i2 S) (qf_X18_safe 20000 qi1 qi2 M) (tO (rr L xs P vi)) := by
  unfold zf_X18_safe qf_X18_safe
  refine qs_gr hS pl_2156 ts_2156 rfl ?_
  refine qs_gi hS hM pl_2235 ts_2235 (z := 0) rfl rfl (fun v7184 h7184 => ?_)
  refine qs_bp (qz_X18_isIn hS hM ei1 h7184) (fun v7185 S7185 w7185 h7185 hS7185 hM7185 => ?_)
  refine qs_gi hS7185 hM7185 pl_2156 ts_2156 (z := 1) rfl rfl (fun v7186 h7186 => ?_)
  refine qs_zi hS7185 pl_2156 ts_2156 ?_
  refine qs_b (qz_X18_goes hS7185 hM7185 h7185 h7186) (fun v7188 S7188 w7188 M7188 h7188 hS7188 hM7188 => ?_)
  refine qs_ite (c_eq h7188 k_0) ?_ ?_
  · exact qs_tr (show vi _ _ from k_0) hS7188 hM7188
  · refine qs_gr hS7188 pl_2156 ts_2156 rfl ?_
    refine qs_gr hS7188 pl_2235 ts_2235 rfl ?_
    refine qs_gd (fun g7192 => ?_)
    refine qs_xi hM7188 (pa_p hS7188 pl_2239 ts_2239) ei1 g7192 (fun v7191 h7191 => ?_)
    refine qs_gr hS7188 pl_2156 ts_2156 rfl ?_
    refine qs_gr hS7188 pl_2235 ts_2235 rfl ?_
    refine qs_gd (fun g7196 => ?_)
    refine qs_si hS7188 hM7188 (pa_p hS7188 pl_2239 ts_2239) ei1 g7196 ei2 (fun S7195 M7195 hS7195 hM7195 => ?_)
    exact qs_tr (show vi _ _ from h7191) hS7195 hM7195
set_option maxRecDepth 20000 in
theorem qz_X18_hand {P : Nat → Nat} {S : zm_S} {M : qm} {i1 : Int32} {qi1 : Int} {i2 : Int32} {qi2 : Int} {i3 : Int32} {qi3 : Int} (hS : Sh L xs P S) (hM : qM P S = M) (ei1 : i1.toInt = qi1) (ei2 : i2.toInt = qi2) (ei3 : i3.toInt = qi3) : qs (zf_X18_hand 20000 2156 i1 i2 i3 S) (qf_X18_hand 20000 qi1 qi2 qi3 M) (tO (rr L xs P vi)) := by
  unfold zf_X18_hand qf_X18_hand
  refine qs_gr hS pl_2156 ts_2156 rfl ?_
  refine qs_gi hS hM pl_2235 ts_2235 (z := 0) rfl rfl (fun v7198 h7198 => ?_)
  refine qs_bp (qz_X18_isIn hS hM ei1 h7198) (fun v7199 S7199 w7199 h7199 hS7199 hM7199 => ?_)
  refine qs_gi hS7199 hM7199 pl_2156 ts_2156 (z := 1) rfl rfl (fun v7200 h7200 => ?_)
  refine qs_zi hS7199 pl_2156 ts_2156 ?_
  refine qs_b (qz_X18_goes hS7199 hM7199 h7199 h7200) (fun v7202 S7202 w7202 M7202 h7202 hS7202 hM7202 => ?_)
  refine qs_ite (c_eq h7202 k_0) ?_ ?_
  · exact qs_tr (show vi _ _ from k_0) hS7202 hM7202
  · refine qs_gr hS7202 pl_2156 ts_2156 rfl ?_
    refine qs_gr hS7202 pl_2235 ts_2235 rfl ?_
    refine qs_gd (fun g7206 => ?_)
    refine qs_xi hM7202 (pa_p hS7202 pl_2245 ts_2245) ei1 g7206 (fun v7205 h7205 => ?_)
    refine qs_gr hS7202 pl_2156 ts_2156 rfl ?_
    refine qs_gr hS7202 pl_2235 ts_2235 rfl ?_
    refine qs_gd (fun g7210 => ?_)
    refine qs_sz hS7202 hM7202 (pa_p hS7202 pl_2245 ts_2245) ei1 g7210.1 ei2 g7210.2 (fun S7209 M7209 hS7209 hM7209 => ?_)
    refine qs_gr hS7209 pl_2156 ts_2156 rfl ?_
    refine qs_gr hS7209 pl_2235 ts_2235 rfl ?_
    refine qs_gd (fun g7214 => ?_)
    refine qs_si hS7209 hM7209 (pa_p hS7209 pl_2246 ts_2246) ei1 g7214 ei3 (fun S7213 M7213 hS7213 hM7213 => ?_)
    refine qs_ite (or_congr (c_eq h7205 k_0) (c_eq h7205 k_1)) ?_ ?_
    · exact qs_tr (show vi _ _ from h7205) hS7213 hM7213
    · exact qs_none
set_option maxRecDepth 20000 in
theorem qz_X11_hand {P : Nat → Nat} {S : zm_S} {M : qm} {i1 : Int32} {qi1 : Int} {i2 : Int32} {qi2 : Int} {i3 : Int32} {qi3 : Int} (hS : Sh L xs P S) (hM : qM P S = M) (ei1 : i1.toInt = qi1) (ei2 : i2.toInt = qi2) (ei3 : i3.toInt = qi3) : qs (zf_X11_hand 20000 6 i1 i2 i3 S) (qf_X11_hand 20000 qi1 qi2 qi3 M) (tO (rr L xs P (vs vi ve))) := by
  unfold zf_X11_hand qf_X11_hand
  refine qs_zi hS pl_6 ts_6 ?_
  refine qs_bp (qz_X11_isBlock hS hM ei1) (fun v7216 S7216 w7216 h7216 hS7216 hM7216 => ?_)
  refine qs_xp (qz_X11_needArgument hS7216 hM7216 h7216) ?_ ?_
  · intro v7218 S7218 w7218 h7218 hS7218 hM7218
    dsimp only
    refine qs_gi hS7218 hM7218 pl_6 ts_6 (z := 11) rfl rfl (fun v7219 h7219 => ?_)
    refine qs_xp (qz_X11_needState hS7218 hM7218 h7219) ?_ ?_
    · intro v7221 S7221 w7221 h7221 hS7221 hM7221
      dsimp only
      refine qs_gr hS7221 pl_6 ts_6 rfl ?_
      refine qs_gr hS7221 pl_1003 ts_1003 rfl ?_
      refine qs_gd (fun g7225 => ?_)
      refine qs_xi hM7221 (pa_p hS7221 pl_1132 ts_1132) ei1 g7225 (fun v7224 h7224 => ?_)
      refine qs_gr hS7221 pl_6 ts_6 rfl ?_
      refine qs_gr hS7221 pl_1003 ts_1003 rfl ?_
      refine qs_gd (fun g7229 => ?_)
      refine qs_sz hS7221 hM7221 (pa_p hS7221 pl_1132 ts_1132) ei1 g7229.1 ei2 g7229.2 (fun S7228 M7228 hS7228 hM7228 => ?_)
      refine qs_gr hS7228 pl_6 ts_6 rfl ?_
      refine qs_gr hS7228 pl_1003 ts_1003 rfl ?_
      refine qs_gd (fun g7233 => ?_)
      refine qs_si hS7228 hM7228 (pa_p hS7228 pl_1133 ts_1133) ei1 g7233 ei3 (fun S7232 M7232 hS7232 hM7232 => ?_)
      refine qs_ite (or_congr (c_eq h7224 k_0) (c_eq h7224 k_1)) ?_ ?_
      · exact qs_tr (show (vs vi ve) _ _ from h7224) hS7232 hM7232
      · exact qs_none
    · intro v7221 S7221 hS7221 hM7221
      dsimp only
      exact qs_tr (show (vs vi ve) _ _ from rfl) hS7221 hM7221
  · intro v7218 S7218 hS7218 hM7218
    dsimp only
    exact qs_tr (show (vs vi ve) _ _ from rfl) hS7218 hM7218
set_option maxRecDepth 20000 in
theorem qz_L_hand_J18 {P : Nat → Nat} {S : zm_S} {M : qm} {t1 : Int32} {qt1 : Int} {t2 : Int64} {qt2 : Int} (hS : Sh L xs P S) (hM : qM P S = M) (et1 : t1.toInt = qt1) (et2 : t2.toInt = qt2) : qs (zf_L_hand_J18 20000 2332 t1 t2 S) (qf_L_hand_J18 20000 qt1 qt2 M) (tO (rr L xs P vi)) := by
  unfold zf_L_hand_J18 qf_L_hand_J18
  refine qs_gd (fun g7235 => ?_)
  refine qs_sl hS hM (pa_p hS pl_2332 ts_2332) et1 g7235 et2 (fun S7234 M7234 hS7234 hM7234 => ?_)
  exact qs_tr (show vi _ _ from k_0) hS7234 hM7234
set_option maxRecDepth 20000 in
theorem qz_L_hand {P : Nat → Nat} {S : zm_S} {M : qm} {i1 : Int32} {qi1 : Int} {i2 : Int32} {qi2 : Int} {i3 : Int32} {qi3 : Int} (hS : Sh L xs P S) (hM : qM P S = M) (ei1 : i1.toInt = qi1) (ei2 : i2.toInt = qi2) (ei3 : i3.toInt = qi3) : qs (zf_L_hand 20000 6 i1 i2 i3 2332 S) (qf_L_hand 20000 qi1 qi2 qi3 M) (tO (rr L xs P vi)) := by
  unfold zf_L_hand qf_L_hand
  refine qs_zi hS pl_6 ts_6 ?_
  refine qs_xr (qz_X11_hand hS hM ei1 ei2 ei3) ?_ ?_
  · intro v7238 S7238 w7238 M7238 h7238 hS7238 hM7238
    dsimp only
    refine qs_ite (c_eq h7238 k_0) ?_ ?_
    · exact (qz_L_hand_J18 hS7238 hM7238 k_0 kl_0)
    · exact (qz_L_hand_J18 hS7238 hM7238 k_0 kl_1)
  · intro v7238 S7238 M7238 hS7238 hM7238
    dsimp only
    refine qs_ite Iff.rfl ?_ ?_
    · exact qs_tr (show vi _ _ from k_1) hS7238 hM7238
    · refine qs_ite Iff.rfl ?_ ?_
      · exact qs_tr (show vi _ _ from k_2) hS7238 hM7238
      · exact qs_none
set_option maxRecDepth 20000 in
theorem qz_X11_bind_J23 {P : Nat → Nat} {S : zm_S} {M : qm} {i1 : Int32} {qi1 : Int} {i2 : Int32} {qi2 : Int} {t0 : Int32} {qt0 : Int} (hS : Sh L xs P S) (hM : qM P S = M) (ei1 : i1.toInt = qi1) (ei2 : i2.toInt = qi2) (et0 : t0.toInt = qt0) : qs (zf_X11_bind_J23 20000 6 i1 i2 t0 S) (qf_X11_bind_J23 20000 qi1 qi2 qt0 M) (tO (rr L xs P (vs vi ve))) := by
  unfold zf_X11_bind_J23 qf_X11_bind_J23
  refine qs_xp (qz_X11_needArgument hS hM et0) ?_ ?_
  · intro v7240 S7240 w7240 h7240 hS7240 hM7240
    dsimp only
    refine qs_gi hS7240 hM7240 pl_6 ts_6 (z := 11) rfl rfl (fun v7241 h7241 => ?_)
    refine qs_xp (qz_X11_needState hS7240 hM7240 h7241) ?_ ?_
    · intro v7243 S7243 w7243 h7243 hS7243 hM7243
      dsimp only
      refine qs_gr hS7243 pl_6 ts_6 rfl ?_
      refine qs_gr hS7243 pl_1003 ts_1003 rfl ?_
      refine qs_gd (fun g7247 => ?_)
      refine qs_xi hM7243 (pa_p hS7243 pl_1134 ts_1134) ei1 g7247 (fun v7246 h7246 => ?_)
      refine qs_gr hS7243 pl_6 ts_6 rfl ?_
      refine qs_gr hS7243 pl_1003 ts_1003 rfl ?_
      refine qs_gd (fun g7251 => ?_)
      refine qs_si hS7243 hM7243 (pa_p hS7243 pl_1134 ts_1134) ei1 g7251 ei2 (fun S7250 M7250 hS7250 hM7250 => ?_)
      exact qs_tr (show (vs vi ve) _ _ from h7246) hS7250 hM7250
    · intro v7243 S7243 hS7243 hM7243
      dsimp only
      exact qs_tr (show (vs vi ve) _ _ from rfl) hS7243 hM7243
  · intro v7240 S7240 hS7240 hM7240
    dsimp only
    exact qs_tr (show (vs vi ve) _ _ from rfl) hS7240 hM7240
set_option maxRecDepth 20000 in
theorem qz_X11_bind_J22 {P : Nat → Nat} {S : zm_S} {M : qm} {i1 : Int32} {qi1 : Int} {i2 : Int32} {qi2 : Int} (hS : Sh L xs P S) (hM : qM P S = M) (ei1 : i1.toInt = qi1) (ei2 : i2.toInt = qi2) : qs (zf_X11_bind_J22 20000 6 i1 i2 S) (qf_X11_bind_J22 20000 qi1 qi2 M) (tO (rr L xs P (vs vi ve))) := by
  unfold zf_X11_bind_J22 qf_X11_bind_J22
  exact (qz_X11_bind_J23 hS hM ei1 ei2 k_0)
set_option maxRecDepth 20000 in
theorem qz_X11_bind {P : Nat → Nat} {S : zm_S} {M : qm} {i1 : Int32} {qi1 : Int} {i2 : Int32} {qi2 : Int} (hS : Sh L xs P S) (hM : qM P S = M) (ei1 : i1.toInt = qi1) (ei2 : i2.toInt = qi2) : qs (zf_X11_bind 20000 6 i1 i2 S) (qf_X11_bind 20000 qi1 qi2 M) (tO (rr L xs P (vs vi ve))) := by
  unfold zf_X11_bind qf_X11_bind
  refine qs_zi hS pl_6 ts_6 ?_
  refine qs_bp (qz_X11_isBlock hS hM ei1) (fun v7253 S7253 w7253 h7253 hS7253 hM7253 => ?_)
  refine qs_ite (c_eq h7253 k_0) ?_ ?_
  · exact (qz_X11_bind_J22 hS7253 hM7253 ei1 ei2)
  · refine qs_bp (qz_X11_isWithin hS7253 hM7253 ei2 k_m1 k_9) (fun v7254 S7254 w7254 h7254 hS7254 hM7254 => ?_)
    refine qs_ite (c_eq h7254 k_0) ?_ ?_
    · exact (qz_X11_bind_J22 hS7254 hM7254 ei1 ei2)
    · exact (qz_X11_bind_J23 hS7254 hM7254 ei1 ei2 k_1)
set_option maxRecDepth 20000 in
theorem qz_L_bind {P : Nat → Nat} {S : zm_S} {M : qm} {i1 : Int32} {qi1 : Int} {i2 : Int32} {qi2 : Int} (hS : Sh L xs P S) (hM : qM P S = M) (ei1 : i1.toInt = qi1) (ei2 : i2.toInt = qi2) : qs (zf_L_bind 20000 6 i1 i2 2332 S) (qf_L_bind 20000 qi1 qi2 M) (tO (rr L xs P vi)) := by
  unfold zf_L_bind qf_L_bind
  refine qs_zi hS pl_6 ts_6 ?_
  refine qs_xr (qz_X11_bind hS hM ei1 ei2) ?_ ?_
  · intro v7257 S7257 w7257 M7257 h7257 hS7257 hM7257
    dsimp only
    refine qs_sl hS7257 hM7257 (pa_p hS7257 pl_2332 ts_2332) k_0 (by decide) (p_64 h7257) (fun S7258 M7258 hS7258 hM7258 => ?_)
    exact qs_tr (show vi _ _ from k_0) hS7258 hM7258
  · intro v7257 S7257 M7257 hS7257 hM7257
    dsimp only
    refine qs_ite Iff.rfl ?_ ?_
    · exact qs_tr (show vi _ _ from k_1) hS7257 hM7257
    · refine qs_ite Iff.rfl ?_ ?_
      · exact qs_tr (show vi _ _ from k_2) hS7257 hM7257
      · exact qs_none
set_option maxRecDepth 20000 in
theorem qz_X18_bind_J31 {P : Nat → Nat} {S : zm_S} {M : qm} {i1 : Int32} {qi1 : Int} {i2 : Int32} {qi2 : Int} {t1 : Int32} {qt1 : Int} (hS : Sh L xs P S) (hM : qM P S = M) (ei1 : i1.toInt = qi1) (ei2 : i2.toInt = qi2) (et1 : t1.toInt = qt1) : qs (zf_X18_bind_J31 20000 2156 i1 i2 2156 t1 S) (qf_X18_bind_J31 20000 qi1 qi2 qt1 M) (tO (rr L xs P vi)) := by
  unfold zf_X18_bind_J31 qf_X18_bind_J31
  refine qs_gi hS hM pl_2156 ts_2156 (z := 1) rfl rfl (fun v7259 h7259 => ?_)
  refine qs_zi hS pl_2156 ts_2156 ?_
  refine qs_b (qz_X18_goes hS hM et1 h7259) (fun v7261 S7261 w7261 M7261 h7261 hS7261 hM7261 => ?_)
  refine qs_ite (c_eq h7261 k_0) ?_ ?_
  · exact qs_tr (show vi _ _ from k_0) hS7261 hM7261
  · refine qs_gr hS7261 pl_2156 ts_2156 rfl ?_
    refine qs_gr hS7261 pl_2235 ts_2235 rfl ?_
    refine qs_gd (fun g7265 => ?_)
    refine qs_xi hM7261 (pa_p hS7261 pl_2248 ts_2248) ei1 g7265 (fun v7264 h7264 => ?_)
    refine qs_gr hS7261 pl_2156 ts_2156 rfl ?_
    refine qs_gr hS7261 pl_2235 ts_2235 rfl ?_
    refine qs_gd (fun g7269 => ?_)
    refine qs_si hS7261 hM7261 (pa_p hS7261 pl_2248 ts_2248) ei1 g7269 (p_add ei2 k_1) (fun S7268 M7268 hS7268 hM7268 => ?_)
    exact qs_tr (show vi _ _ from (p_sub h7264 k_1)) hS7268 hM7268
set_option maxRecDepth 20000 in
theorem qz_X18_bind_J30 {P : Nat → Nat} {S : zm_S} {M : qm} {i1 : Int32} {qi1 : Int} {i2 : Int32} {qi2 : Int} (hS : Sh L xs P S) (hM : qM P S = M) (ei1 : i1.toInt = qi1) (ei2 : i2.toInt = qi2) : qs (zf_X18_bind_J30 20000 2156 i1 i2 2156 S) (qf_X18_bind_J30 20000 qi1 qi2 M) (tO (rr L xs P vi)) := by
  unfold zf_X18_bind_J30 qf_X18_bind_J30
  exact (qz_X18_bind_J31 hS hM ei1 ei2 k_0)
set_option maxRecDepth 20000 in
theorem qz_X18_bind {P : Nat → Nat} {S : zm_S} {M : qm} {i1 : Int32} {qi1 : Int} {i2 : Int32} {qi2 : Int} (hS : Sh L xs P S) (hM : qM P S = M) (ei1 : i1.toInt = qi1) (ei2 : i2.toInt = qi2) : qs (zf_X18_bind 20000 2156 i1 i2 S) (qf_X18_bind 20000 qi1 qi2 M) (tO (rr L xs P vi)) := by
  unfold zf_X18_bind qf_X18_bind
  refine qs_gr hS pl_2156 ts_2156 rfl ?_
  refine qs_gi hS hM pl_2235 ts_2235 (z := 0) rfl rfl (fun v7271 h7271 => ?_)
  refine qs_bp (qz_X18_isIn hS hM ei1 h7271) (fun v7272 S7272 w7272 h7272 hS7272 hM7272 => ?_)
  refine qs_ite (c_eq h7272 k_0) ?_ ?_
  · exact (qz_X18_bind_J30 hS7272 hM7272 ei1 ei2)
  · refine qs_ite (c_lt ei2 k_m1) ?_ ?_
    · exact (qz_X18_bind_J30 hS7272 hM7272 ei1 ei2)
    · refine qs_ite (c_le k_10 ei2) ?_ ?_
      · exact (qz_X18_bind_J30 hS7272 hM7272 ei1 ei2)
      · exact (qz_X18_bind_J31 hS7272 hM7272 ei1 ei2 k_1)
set_option maxRecDepth 20000 in
theorem qz_X11_point {P : Nat → Nat} {S : zm_S} {M : qm} {i1 : Int32} {qi1 : Int} {i2 : Int32} {qi2 : Int} (hS : Sh L xs P S) (hM : qM P S = M) (ei1 : i1.toInt = qi1) (ei2 : i2.toInt = qi2) : qs (zf_X11_point 20000 6 i1 i2 S) (qf_X11_point 20000 qi1 qi2 M) (tO (rr L xs P (vs vi ve))) := by
  unfold zf_X11_point qf_X11_point
  refine qs_bp (qz_X11_isWithin hS hM ei1 k_4 k_9) (fun v7273 S7273 w7273 h7273 hS7273 hM7273 => ?_)
  refine qs_xp (qz_X11_needArgument hS7273 hM7273 h7273) ?_ ?_
  · intro v7275 S7275 w7275 h7275 hS7275 hM7275
    dsimp only
    refine qs_gi hS7275 hM7275 pl_6 ts_6 (z := 11) rfl rfl (fun v7276 h7276 => ?_)
    refine qs_xp (qz_X11_needState hS7275 hM7275 h7276) ?_ ?_
    · intro v7278 S7278 w7278 h7278 hS7278 hM7278
      dsimp only
      refine qs_gr hS7278 pl_6 ts_6 rfl ?_
      refine qs_gr hS7278 pl_1003 ts_1003 rfl ?_
      refine qs_gd (fun g7282 => ?_)
      refine qs_xi hM7278 (pa_p hS7278 pl_1135 ts_1135) ei1 g7282 (fun v7281 h7281 => ?_)
      refine qs_gr hS7278 pl_6 ts_6 rfl ?_
      refine qs_gr hS7278 pl_1003 ts_1003 rfl ?_
      refine qs_gd (fun g7286 => ?_)
      refine qs_si hS7278 hM7278 (pa_p hS7278 pl_1135 ts_1135) ei1 g7286 ei2 (fun S7285 M7285 hS7285 hM7285 => ?_)
      exact qs_tr (show (vs vi ve) _ _ from h7281) hS7285 hM7285
    · intro v7278 S7278 hS7278 hM7278
      dsimp only
      exact qs_tr (show (vs vi ve) _ _ from rfl) hS7278 hM7278
  · intro v7275 S7275 hS7275 hM7275
    dsimp only
    exact qs_tr (show (vs vi ve) _ _ from rfl) hS7275 hM7275
set_option maxRecDepth 20000 in
theorem qz_L_point {P : Nat → Nat} {S : zm_S} {M : qm} {i1 : Int32} {qi1 : Int} {i2 : Int32} {qi2 : Int} (hS : Sh L xs P S) (hM : qM P S = M) (ei1 : i1.toInt = qi1) (ei2 : i2.toInt = qi2) : qs (zf_L_point 20000 6 i1 i2 2332 S) (qf_L_point 20000 qi1 qi2 M) (tO (rr L xs P vi)) := by
  unfold zf_L_point qf_L_point
  refine qs_zi hS pl_6 ts_6 ?_
  refine qs_xr (qz_X11_point hS hM ei1 ei2) ?_ ?_
  · intro v7289 S7289 w7289 M7289 h7289 hS7289 hM7289
    dsimp only
    refine qs_sl hS7289 hM7289 (pa_p hS7289 pl_2332 ts_2332) k_0 (by decide) (p_64 h7289) (fun S7290 M7290 hS7290 hM7290 => ?_)
    exact qs_tr (show vi _ _ from k_0) hS7290 hM7290
  · intro v7289 S7289 M7289 hS7289 hM7289
    dsimp only
    refine qs_ite Iff.rfl ?_ ?_
    · exact qs_tr (show vi _ _ from k_1) hS7289 hM7289
    · refine qs_ite Iff.rfl ?_ ?_
      · exact qs_tr (show vi _ _ from k_2) hS7289 hM7289
      · exact qs_none
set_option maxRecDepth 20000 in
theorem qz_X18_point_J17 {P : Nat → Nat} {S : zm_S} {M : qm} {i1 : Int32} {qi1 : Int} {i2 : Int32} {qi2 : Int} {t1 : Int32} {qt1 : Int} (hS : Sh L xs P S) (hM : qM P S = M) (ei1 : i1.toInt = qi1) (ei2 : i2.toInt = qi2) (et1 : t1.toInt = qt1) : qs (zf_X18_point_J17 20000 2156 i1 i2 2156 t1 S) (qf_X18_point_J17 20000 qi1 qi2 qt1 M) (tO (rr L xs P vi)) := by
  unfold zf_X18_point_J17 qf_X18_point_J17
  refine qs_gi hS hM pl_2156 ts_2156 (z := 1) rfl rfl (fun v7291 h7291 => ?_)
  refine qs_zi hS pl_2156 ts_2156 ?_
  refine qs_b (qz_X18_goes hS hM et1 h7291) (fun v7293 S7293 w7293 M7293 h7293 hS7293 hM7293 => ?_)
  refine qs_ite (c_eq h7293 k_0) ?_ ?_
  · exact qs_tr (show vi _ _ from k_0) hS7293 hM7293
  · refine qs_gr hS7293 pl_2156 ts_2156 rfl ?_
    refine qs_gr hS7293 pl_2235 ts_2235 rfl ?_
    refine qs_gd (fun g7297 => ?_)
    refine qs_xi hM7293 (pa_p hS7293 pl_2247 ts_2247) ei1 g7297 (fun v7296 h7296 => ?_)
    refine qs_gr hS7293 pl_2156 ts_2156 rfl ?_
    refine qs_gr hS7293 pl_2235 ts_2235 rfl ?_
    refine qs_gd (fun g7301 => ?_)
    refine qs_si hS7293 hM7293 (pa_p hS7293 pl_2247 ts_2247) ei1 g7301 ei2 (fun S7300 M7300 hS7300 hM7300 => ?_)
    exact qs_tr (show vi _ _ from h7296) hS7300 hM7300
set_option maxRecDepth 20000 in
theorem qz_X18_point_J16 {P : Nat → Nat} {S : zm_S} {M : qm} {i1 : Int32} {qi1 : Int} {i2 : Int32} {qi2 : Int} (hS : Sh L xs P S) (hM : qM P S = M) (ei1 : i1.toInt = qi1) (ei2 : i2.toInt = qi2) : qs (zf_X18_point_J16 20000 2156 i1 i2 2156 S) (qf_X18_point_J16 20000 qi1 qi2 M) (tO (rr L xs P vi)) := by
  unfold zf_X18_point_J16 qf_X18_point_J16
  exact (qz_X18_point_J17 hS hM ei1 ei2 k_0)
set_option maxRecDepth 20000 in
theorem qz_X18_point {P : Nat → Nat} {S : zm_S} {M : qm} {i1 : Int32} {qi1 : Int} {i2 : Int32} {qi2 : Int} (hS : Sh L xs P S) (hM : qM P S = M) (ei1 : i1.toInt = qi1) (ei2 : i2.toInt = qi2) : qs (zf_X18_point 20000 2156 i1 i2 S) (qf_X18_point 20000 qi1 qi2 M) (tO (rr L xs P vi)) := by
  unfold zf_X18_point qf_X18_point
  refine qs_ite (c_lt ei1 k_4) ?_ ?_
  · exact (qz_X18_point_J16 hS hM ei1 ei2)
  · refine qs_ite (c_le k_10 ei1) ?_ ?_
    · exact (qz_X18_point_J16 hS hM ei1 ei2)
    · exact (qz_X18_point_J17 hS hM ei1 ei2 k_1)
set_option maxRecDepth 20000 in
theorem qz_X11_pointAt {P : Nat → Nat} {S : zm_S} {M : qm} {i1 : Int32} {qi1 : Int} (hS : Sh L xs P S) (hM : qM P S = M) (ei1 : i1.toInt = qi1) : qs (zf_X11_pointAt 20000 6 i1 S) (qf_X11_pointAt 20000 qi1 M) (tO (rp L xs P M (vs vi ve))) := by
  unfold zf_X11_pointAt qf_X11_pointAt
  refine qs_bp (qz_X11_isWithin hS hM ei1 k_0 k_9) (fun v7302 S7302 w7302 h7302 hS7302 hM7302 => ?_)
  refine qs_xp (qz_X11_needArgument hS7302 hM7302 h7302) ?_ ?_
  · intro v7304 S7304 w7304 h7304 hS7304 hM7304
    dsimp only
    refine qs_gi hS7304 hM7304 pl_6 ts_6 (z := 11) rfl rfl (fun v7305 h7305 => ?_)
    refine qs_xp (qz_X11_needState hS7304 hM7304 h7305) ?_ ?_
    · intro v7307 S7307 w7307 h7307 hS7307 hM7307
      dsimp only
      refine qs_gr hS7307 pl_6 ts_6 rfl ?_
      refine qs_gr hS7307 pl_1003 ts_1003 rfl ?_
      refine qs_gd (fun g7311 => ?_)
      refine qs_xi hM7307 (pa_p hS7307 pl_1135 ts_1135) ei1 g7311 (fun v7310 h7310 => ?_)
      exact qs_tp (show (vs vi ve) _ _ from h7310) hS7307 hM7307
    · intro v7307 S7307 hS7307 hM7307
      dsimp only
      exact qs_tp (show (vs vi ve) _ _ from rfl) hS7307 hM7307
  · intro v7304 S7304 hS7304 hM7304
    dsimp only
    exact qs_tp (show (vs vi ve) _ _ from rfl) hS7304 hM7304
set_option maxRecDepth 20000 in
theorem qz_L_pointAt {P : Nat → Nat} {S : zm_S} {M : qm} {i1 : Int32} {qi1 : Int} (hS : Sh L xs P S) (hM : qM P S = M) (ei1 : i1.toInt = qi1) : qs (zf_L_pointAt 20000 6 i1 2332 S) (qf_L_pointAt 20000 qi1 M) (tO (rr L xs P vi)) := by
  unfold zf_L_pointAt qf_L_pointAt
  refine qs_zi hS pl_6 ts_6 ?_
  refine qs_xp (qz_X11_pointAt hS hM ei1) ?_ ?_
  · intro v7314 S7314 w7314 h7314 hS7314 hM7314
    dsimp only
    refine qs_sl hS7314 hM7314 (pa_p hS7314 pl_2332 ts_2332) k_0 (by decide) (p_64 h7314) (fun S7315 M7315 hS7315 hM7315 => ?_)
    exact qs_tr (show vi _ _ from k_0) hS7315 hM7315
  · intro v7314 S7314 hS7314 hM7314
    dsimp only
    refine qs_ite Iff.rfl ?_ ?_
    · exact qs_tr (show vi _ _ from k_1) hS7314 hM7314
    · refine qs_ite Iff.rfl ?_ ?_
      · exact qs_tr (show vi _ _ from k_2) hS7314 hM7314
      · exact qs_none
set_option maxRecDepth 20000 in
theorem qz_X18_pointAt {P : Nat → Nat} {S : zm_S} {M : qm} {i1 : Int32} {qi1 : Int} (hS : Sh L xs P S) (hM : qM P S = M) (ei1 : i1.toInt = qi1) : qs (zf_X18_pointAt 20000 2156 i1 S) (qf_X18_pointAt 20000 qi1 M) (tO (rr L xs P vi)) := by
  unfold zf_X18_pointAt qf_X18_pointAt
  refine qs_bp (qz_X18_isIn hS hM ei1 k_10) (fun v7316 S7316 w7316 h7316 hS7316 hM7316 => ?_)
  refine qs_gi hS7316 hM7316 pl_2156 ts_2156 (z := 1) rfl rfl (fun v7317 h7317 => ?_)
  refine qs_zi hS7316 pl_2156 ts_2156 ?_
  refine qs_b (qz_X18_goes hS7316 hM7316 h7316 h7317) (fun v7319 S7319 w7319 M7319 h7319 hS7319 hM7319 => ?_)
  refine qs_ite (c_eq h7319 k_0) ?_ ?_
  · exact qs_tr (show vi _ _ from k_0) hS7319 hM7319
  · refine qs_gr hS7319 pl_2156 ts_2156 rfl ?_
    refine qs_gr hS7319 pl_2235 ts_2235 rfl ?_
    refine qs_gd (fun g7323 => ?_)
    refine qs_xi hM7319 (pa_p hS7319 pl_2247 ts_2247) ei1 g7323 (fun v7322 h7322 => ?_)
    exact qs_tr (show vi _ _ from h7322) hS7319 hM7319
set_option maxRecDepth 20000 in
theorem qz_X9_mayCome_L15_b (n : Nat) {P : Nat → Nat} {S : zm_S} {M : qm} {i1 : Int32} {qi1 : Int} {i2 : Int32} {qi2 : Int} (hS : Sh L xs P S) (hM : qM P S = M) (ei1 : i1.toInt = qi1) (ei2 : i2.toInt = qi2) : qs (zf_X9_mayCome_L15 20000 (n + 1) 1003 i1 i2 S) (qf_X9_mayCome_L15_b 20000 qi1 qi2 M) (tk (vs (rp L xs P M vi) (rp L xs P M vu)) (qc_X9_mayCome_L15 L xs P M (zf_X9_mayCome_L15 20000 n))) := by
  refine qs_eq (zf_X9_mayCome_L15.eq_2 ..) ?_
  unfold qf_X9_mayCome_L15_b
  refine qs_gr hS pl_1003 ts_1003 rfl ?_
  refine qs_gd (fun g7326 => ?_)
  refine qs_xi hM (pa_p hS pl_1004 ts_1004) ei1 g7326 (fun v7325 h7325 => ?_)
  refine qs_gd (fun g7328 => ?_)
  refine qs_c5 hS h7325 g7328 (fun v7327 h7327 => ?_)
  refine qs_ite (c_le h7327 ei2) ?_ ?_
  · exact qs_tp2 (show vu _ _ from trivial) hS hM
  · refine qs_gr hS pl_1003 ts_1003 rfl ?_
    refine qs_gd (fun g7331 => ?_)
    refine qs_xt hS pl_1008 ts_1008 (Or.inl rfl) ei1 g7331 (fun b7330 r7330 => ?_)
    refine qs_gd (fun g7333 => ?_)
    refine qs_yi hS hM qt_1008 tq_1008 r7330 ei2 g7333 (fun v7332 h7332 => ?_)
    refine qs_ite (c_eq h7332 k_m1) ?_ ?_
    · exact qs_tk ⟨_, _, _, rfl, ei1, (p_add ei2 k_1), hS, hM⟩
    · refine qs_gr hS pl_1003 ts_1003 rfl ?_
      refine qs_gd (fun g7336 => ?_)
      refine qs_xi hM (pa_p hS pl_1137 ts_1137) h7332 g7336 (fun v7335 h7335 => ?_)
      refine qs_ite (c_eq h7335 k_m1) ?_ ?_
      · exact qs_tp1 (show vi _ _ from k_0) hS hM
      · exact qs_tk ⟨_, _, _, rfl, ei1, (p_add ei2 k_1), hS, hM⟩
theorem qz_X9_mayCome_L15 (n : Nat) : ∀ {P : Nat → Nat} {S : zm_S} {M : qm} {i1 : Int32} {qi1 : Int} {i2 : Int32} {qi2 : Int} (hS : Sh L xs P S) (hM : qM P S = M) (ei1 : i1.toInt = qi1) (ei2 : i2.toInt = qi2), qs (zf_X9_mayCome_L15 20000 n 1003 i1 i2 S) (qf_X9_mayCome_L15 20000 n qi1 qi2 M) (tO (vs (rp L xs P M vi) (rp L xs P M vu))) := by
  induction n with
  | zero =>
    intros
    exact qs_none
  | succ n ih =>
    intro P S M i1 qi1 i2 qi2 hS hM ei1 ei2
    unfold qf_X9_mayCome_L15
    refine qs_loop (C := (qc_X9_mayCome_L15 L xs P M (zf_X9_mayCome_L15 20000 n))) (qz_X9_mayCome_L15_b n hS hM ei1 ei2) ?_
    rintro x s ⟨_, _, _, rfl, u0, u1, hS2, hM2⟩
    exact ih hS2 hM2 u0 u1
set_option maxRecDepth 20000 in
theorem qz_X9_mayCome {P : Nat → Nat} {S : zm_S} {M : qm} {i1 : Int32} {qi1 : Int} (hS : Sh L xs P S) (hM : qM P S = M) (ei1 : i1.toInt = qi1) : qs (zf_X9_mayCome 20000 1003 i1 S) (qf_X9_mayCome 20000 qi1 M) (tO (rp L xs P M vi)) := by
  unfold zf_X9_mayCome qf_X9_mayCome
  refine qs_gr hS pl_1003 ts_1003 rfl ?_
  refine qs_gd (fun g7339 => ?_)
  refine qs_xi hM (pa_p hS pl_1004 ts_1004) ei1 g7339 (fun v7338 h7338 => ?_)
  refine qs_ite (c_eq h7338 k_16) ?_ ?_
  · exact qs_tp (show vi _ _ from k_1) hS hM
  · refine qs_lp (qz_X9_mayCome_L15 20000 hS hM ei1 k_0) ?_ ?_
    · intro v7341 S7341 w7341 h7341 hS7341 hM7341
      dsimp only
      exact qs_tp h7341 hS7341 hM7341
    · intro v7341 S7341 w7341 h7341 hS7341 hM7341
      dsimp only
      exact qs_tp (show vi _ _ from k_1) hS7341 hM7341
set_option maxRecDepth 20000 in
theorem qz_X9_leastThatMayCome_L2_b (n : Nat) {P : Nat → Nat} {S : zm_S} {M : qm} {i1 : Int32} {qi1 : Int} (hS : Sh L xs P S) (hM : qM P S = M) (ei1 : i1.toInt = qi1) : qs (zf_X9_leastThatMayCome_L2 20000 (n + 1) 1003 i1 S) (qf_X9_leastThatMayCome_L2_b 20000 qi1 M) (tk (vs (rp L xs P M vi) (rp L xs P M vu)) (qc_X9_leastThatMayCome_L2 L xs P M (zf_X9_leastThatMayCome_L2 20000 n))) := by
  refine qs_eq (zf_X9_leastThatMayCome_L2.eq_2 ..) ?_
  unfold qf_X9_leastThatMayCome_L2_b
  refine qs_gi hS hM pl_1003 ts_1003 (z := 0) rfl rfl (fun v7342 h7342 => ?_)
  refine qs_ite (c_le h7342 ei1) ?_ ?_
  · exact qs_tp2 (show vu _ _ from trivial) hS hM
  · refine qs_gr hS pl_1003 ts_1003 rfl ?_
    refine qs_gd (fun g7345 => ?_)
    refine qs_xi hM (pa_p hS pl_1137 ts_1137) ei1 g7345 (fun v7344 h7344 => ?_)
    refine qs_ite (c_eq h7344 k_m1) ?_ ?_
    · refine qs_zi hS pl_1003 ts_1003 ?_
      refine qs_bp (qz_X9_mayCome hS hM ei1) (fun v7347 S7347 w7347 h7347 hS7347 hM7347 => ?_)
      refine qs_ite (c_eq h7347 k_0) ?_ ?_
      · exact qs_tk ⟨_, _, rfl, (p_add ei1 k_1), hS7347, hM7347⟩
      · exact qs_tp1 (show vi _ _ from ei1) hS7347 hM7347
    · exact qs_tk ⟨_, _, rfl, (p_add ei1 k_1), hS, hM⟩
theorem qz_X9_leastThatMayCome_L2 (n : Nat) : ∀ {P : Nat → Nat} {S : zm_S} {M : qm} {i1 : Int32} {qi1 : Int} (hS : Sh L xs P S) (hM : qM P S = M) (ei1 : i1.toInt = qi1), qs (zf_X9_leastThatMayCome_L2 20000 n 1003 i1 S) (qf_X9_leastThatMayCome_L2 20000 n qi1 M) (tO (vs (rp L xs P M vi) (rp L xs P M vu))) := by
  induction n with
  | zero =>
    intros
    exact qs_none
  | succ n ih =>
    intro P S M i1 qi1 hS hM ei1
    unfold qf_X9_leastThatMayCome_L2
    refine qs_loop (C := (qc_X9_leastThatMayCome_L2 L xs P M (zf_X9_leastThatMayCome_L2 20000 n))) (qz_X9_leastThatMayCome_L2_b n hS hM ei1) ?_
    rintro x s ⟨_, _, rfl, u0, hS2, hM2⟩
    exact ih hS2 hM2 u0
set_option maxRecDepth 20000 in
theorem qz_X9_leastThatMayCome {P : Nat → Nat} {S : zm_S} {M : qm}  (hS : Sh L xs P S) (hM : qM P S = M)  : qs (zf_X9_leastThatMayCome 20000 1003 S) (qf_X9_leastThatMayCome 20000 M) (tO (rp L xs P M vi)) := by
  unfold zf_X9_leastThatMayCome qf_X9_leastThatMayCome
  refine qs_lp (qz_X9_leastThatMayCome_L2 20000 hS hM k_0) ?_ ?_
  · intro v7349 S7349 w7349 h7349 hS7349 hM7349
    dsimp only
    exact qs_tp h7349 hS7349 hM7349
  · intro v7349 S7349 w7349 h7349 hS7349 hM7349
    dsimp only
    exact qs_tp (show vi _ _ from k_m1) hS7349 hM7349
set_option maxRecDepth 20000 in
theorem qz_X9_place {P : Nat → Nat} {S : zm_S} {M : qm} {i1 : Int32} {qi1 : Int} {i2 : Int32} {qi2 : Int} (hS : Sh L xs P S) (hM : qM P S = M) (ei1 : i1.toInt = qi1) (ei2 : i2.toInt = qi2) : qs (zf_X9_place 20000 1003 i1 i2 S) (qf_X9_place 20000 qi1 qi2 M) (tO (rr L xs P vu)) := by
  unfold zf_X9_place qf_X9_place
  refine qs_gr hS pl_1003 ts_1003 rfl ?_
  refine qs_gd (fun g7352 => ?_)
  refine qs_si hS hM (pa_p hS pl_1137 ts_1137) ei1 g7352 ei2 (fun S7351 M7351 hS7351 hM7351 => ?_)
  refine qs_gr hS7351 pl_1003 ts_1003 rfl ?_
  refine qs_gd (fun g7355 => ?_)
  refine qs_si hS7351 hM7351 (pa_p hS7351 pl_1136 ts_1136) ei2 g7355 ei1 (fun S7354 M7354 hS7354 hM7354 => ?_)
  exact qs_tr (show vu _ _ from trivial) hS7354 hM7354
set_option maxRecDepth 20000 in
theorem qz_X9_sortBlocks_L23_b (n : Nat) {P : Nat → Nat} {S : zm_S} {M : qm} {i1 : Int32} {qi1 : Int} (hS : Sh L xs P S) (hM : qM P S = M) (ei1 : i1.toInt = qi1) : qs (zf_X9_sortBlocks_L23 20000 (n + 1) 1003 i1 S) (qf_X9_sortBlocks_L23_b 20000 qi1 M) (tk (vs (rr L xs P vu) (rr L xs P vu)) (qc_X9_sortBlocks_L23 L xs P (zf_X9_sortBlocks_L23 20000 n))) := by
  refine qs_eq (zf_X9_sortBlocks_L23.eq_2 ..) ?_
  unfold qf_X9_sortBlocks_L23_b
  refine qs_gi hS hM pl_1003 ts_1003 (z := 0) rfl rfl (fun v7356 h7356 => ?_)
  refine qs_ite (c_le h7356 ei1) ?_ ?_
  · exact qs_tr2 (show vu _ _ from trivial) hS hM
  · refine qs_zi hS pl_1003 ts_1003 ?_
    refine qs_bp (qz_X9_leastThatMayCome hS hM ) (fun v7358 S7358 w7358 h7358 hS7358 hM7358 => ?_)
    refine qs_ite (c_eq h7358 k_m1) ?_ ?_
    · exact qs_tk ⟨_, _, rfl, (p_add ei1 k_1), hS7358, hM7358⟩
    · refine qs_gi hS7358 hM7358 pl_1003 ts_1003 (z := 14) rfl rfl (fun v7359 h7359 => ?_)
      refine qs_zi hS7358 pl_1003 ts_1003 ?_
      refine qs_b (qz_X9_place hS7358 hM7358 h7358 h7359) (fun v7361 S7361 w7361 M7361 h7361 hS7361 hM7361 => ?_)
      refine qs_gi hS7361 hM7361 pl_1003 ts_1003 (z := 14) rfl rfl (fun v7362 h7362 => ?_)
      refine qs_pi hS7361 hM7361 pl_1003 ts_1003 (z := 14) rfl rfl (p_add h7362 k_1) (fun S7363 M7363 hS7363 hM7363 => ?_)
      exact qs_tk ⟨_, _, rfl, (p_add ei1 k_1), hS7363, hM7363⟩
theorem qz_X9_sortBlocks_L23 (n : Nat) : ∀ {P : Nat → Nat} {S : zm_S} {M : qm} {i1 : Int32} {qi1 : Int} (hS : Sh L xs P S) (hM : qM P S = M) (ei1 : i1.toInt = qi1), qs (zf_X9_sortBlocks_L23 20000 n 1003 i1 S) (qf_X9_sortBlocks_L23 20000 n qi1 M) (tO (vs (rr L xs P vu) (rr L xs P vu))) := by
  induction n with
  | zero =>
    intros
    exact qs_none
  | succ n ih =>
    intro P S M i1 qi1 hS hM ei1
    unfold qf_X9_sortBlocks_L23
    refine qs_loop (C := (qc_X9_sortBlocks_L23 L xs P (zf_X9_sortBlocks_L23 20000 n))) (qz_X9_sortBlocks_L23_b n hS hM ei1) ?_
    rintro x s ⟨_, _, rfl, u0, hS2, hM2⟩
    exact ih hS2 hM2 u0
set_option maxRecDepth 20000 in
theorem qz_X9_sortBlocks_L73_b (n : Nat) {P : Nat → Nat} {S : zm_S} {M : qm} {i1 : Int32} {qi1 : Int} {i2 : Int32} {qi2 : Int} (hS : Sh L xs P S) (hM : qM P S = M) (ei1 : i1.toInt = qi1) (ei2 : i2.toInt = qi2) : qs (zf_X9_sortBlocks_L73 20000 (n + 1) 1003 i1 i2 S) (qf_X9_sortBlocks_L73_b 20000 qi1 qi2 M) (tk (vs (rr L xs P vu) (rr L xs P vu)) (qc_X9_sortBlocks_L73 L xs P (zf_X9_sortBlocks_L73 20000 n))) := by
  refine qs_eq (zf_X9_sortBlocks_L73.eq_2 ..) ?_
  unfold qf_X9_sortBlocks_L73_b
  refine qs_gi hS hM pl_1003 ts_1003 (z := 0) rfl rfl (fun v7364 h7364 => ?_)
  refine qs_ite (c_le h7364 ei2) ?_ ?_
  · exact qs_tr2 (show vu _ _ from trivial) hS hM
  · refine qs_gr hS pl_1003 ts_1003 rfl ?_
    refine qs_gd (fun g7367 => ?_)
    refine qs_xi hM (pa_p hS pl_1137 ts_1137) ei2 g7367 (fun v7366 h7366 => ?_)
    refine qs_ite (c_eq h7366 k_m1) ?_ ?_
    · refine qs_zi hS pl_1003 ts_1003 ?_
      refine qs_b (qz_X9_place hS hM ei2 ei1) (fun v7369 S7369 w7369 M7369 h7369 hS7369 hM7369 => ?_)
      exact qs_tk ⟨_, _, _, rfl, (p_add ei1 k_1), (p_add ei2 k_1), hS7369, hM7369⟩
    · exact qs_tk ⟨_, _, _, rfl, ei1, (p_add ei2 k_1), hS, hM⟩
theorem qz_X9_sortBlocks_L73 (n : Nat) : ∀ {P : Nat → Nat} {S : zm_S} {M : qm} {i1 : Int32} {qi1 : Int} {i2 : Int32} {qi2 : Int} (hS : Sh L xs P S) (hM : qM P S = M) (ei1 : i1.toInt = qi1) (ei2 : i2.toInt = qi2), qs (zf_X9_sortBlocks_L73 20000 n 1003 i1 i2 S) (qf_X9_sortBlocks_L73 20000 n qi1 qi2 M) (tO (vs (rr L xs P vu) (rr L xs P vu))) := by
  induction n with
  | zero =>
    intros
    exact qs_none
  | succ n ih =>
    intro P S M i1 qi1 i2 qi2 hS hM ei1 ei2
    unfold qf_X9_sortBlocks_L73
    refine qs_loop (C := (qc_X9_sortBlocks_L73 L xs P (zf_X9_sortBlocks_L73 20000 n))) (qz_X9_sortBlocks_L73_b n hS hM ei1 ei2) ?_
    rintro x s ⟨_, _, _, rfl, u0, u1, hS2, hM2⟩
    exact ih hS2 hM2 u0 u1
set_option maxRecDepth 20000 in
theorem qz_X9_sortBlocks {P : Nat → Nat} {S : zm_S} {M : qm}  (hS : Sh L xs P S) (hM : qM P S = M)  : qs (zf_X9_sortBlocks 20000 1003 S) (qf_X9_sortBlocks 20000 M) (tO (rr L xs P vu)) := by
  unfold zf_X9_sortBlocks qf_X9_sortBlocks
  refine qs_gi hS hM pl_1003 ts_1003 (z := 13) rfl rfl (fun v7370 h7370 => ?_)
  refine qs_ite (c_eq h7370 k_0) ?_ ?_
  · refine qs_gr hS pl_1003 ts_1003 rfl ?_
    refine qs_fii hS hM (fun _ h => (pa_p h pl_1137 ts_1137)) (by decide) k_m1 (fun S7372 M7372 hS7372 hM7372 => ?_)
    refine qs_pi hS7372 hM7372 pl_1003 ts_1003 (z := 14) rfl rfl k_0 (fun S7373 M7373 hS7373 hM7373 => ?_)
    refine qs_lr (qz_X9_sortBlocks_L23 20000 hS7373 hM7373 k_0) ?_ ?_
    · intro v7375 S7375 w7375 M7375 h7375 hS7375 hM7375
      dsimp only
      exact qs_tr h7375 hS7375 hM7375
    · intro v7375 S7375 w7375 M7375 h7375 hS7375 hM7375
      dsimp only
      refine qs_gi hS7375 hM7375 pl_1003 ts_1003 (z := 14) rfl rfl (fun v7376 h7376 => ?_)
      refine qs_lr (qz_X9_sortBlocks_L73 20000 hS7375 hM7375 h7376 k_0) ?_ ?_
      · intro v7378 S7378 w7378 M7378 h7378 hS7378 hM7378
        dsimp only
        exact qs_tr h7378 hS7378 hM7378
      · intro v7378 S7378 w7378 M7378 h7378 hS7378 hM7378
        dsimp only
        refine qs_pi hS7378 hM7378 pl_1003 ts_1003 (z := 13) rfl rfl k_1 (fun S7379 M7379 hS7379 hM7379 => ?_)
        exact qs_tr (show vu _ _ from trivial) hS7379 hM7379
  · exact qs_tr (show vu _ _ from trivial) hS hM
set_option maxRecDepth 20000 in
theorem qz_X11_order {P : Nat → Nat} {S : zm_S} {M : qm}  (hS : Sh L xs P S) (hM : qM P S = M)  : qs (zf_X11_order 20000 6 S) (qf_X11_order 20000 M) (tO (rr L xs P (vs vi ve))) := by
  unfold zf_X11_order qf_X11_order
  refine qs_gi hS hM pl_6 ts_6 (z := 11) rfl rfl (fun v7380 h7380 => ?_)
  refine qs_xp (qz_X11_needState hS hM h7380) ?_ ?_
  · intro v7382 S7382 w7382 h7382 hS7382 hM7382
    dsimp only
    refine qs_gr hS7382 pl_6 ts_6 rfl ?_
    refine qs_zi hS7382 pl_1003 ts_1003 ?_
    refine qs_b (qz_X9_sortBlocks hS7382 hM7382 ) (fun v7385 S7385 w7385 M7385 h7385 hS7385 hM7385 => ?_)
    refine qs_gr hS7385 pl_6 ts_6 rfl ?_
    refine qs_gi hS7385 hM7385 pl_1003 ts_1003 (z := 14) rfl rfl (fun v7387 h7387 => ?_)
    exact qs_tr (show (vs vi ve) _ _ from h7387) hS7385 hM7385
  · intro v7382 S7382 hS7382 hM7382
    dsimp only
    exact qs_tr (show (vs vi ve) _ _ from rfl) hS7382 hM7382
set_option maxRecDepth 20000 in
theorem qz_L_order {P : Nat → Nat} {S : zm_S} {M : qm}  (hS : Sh L xs P S) (hM : qM P S = M)  : qs (zf_L_order 20000 6 2332 S) (qf_L_order 20000 M) (tO (rr L xs P vi)) := by
  unfold zf_L_order qf_L_order
  refine qs_zi hS pl_6 ts_6 ?_
  refine qs_xr (qz_X11_order hS hM ) ?_ ?_
  · intro v7390 S7390 w7390 M7390 h7390 hS7390 hM7390
    dsimp only
    refine qs_sl hS7390 hM7390 (pa_p hS7390 pl_2332 ts_2332) k_0 (by decide) (p_64 h7390) (fun S7391 M7391 hS7391 hM7391 => ?_)
    exact qs_tr (show vi _ _ from k_0) hS7391 hM7391
  · intro v7390 S7390 M7390 hS7390 hM7390
    dsimp only
    refine qs_ite Iff.rfl ?_ ?_
    · exact qs_tr (show vi _ _ from k_1) hS7390 hM7390
    · exact qs_none
set_option maxRecDepth 20000 in
theorem qz_X17_sort_L2_b (n : Nat) {P : Nat → Nat} {S : zm_S} {M : qm} {i1 : Int32} {qi1 : Int} (hS : Sh L xs P S) (hM : qM P S = M) (ei1 : i1.toInt = qi1) : qs (zf_X17_sort_L2 20000 (n + 1) 2235 i1 S) (qf_X17_sort_L2_b 20000 qi1 M) (tk (vs (rr L xs P vi) (rr L xs P vu)) (qc_X17_sort_L2 L xs P (zf_X17_sort_L2 20000 n))) := by
  refine qs_eq (zf_X17_sort_L2.eq_2 ..) ?_
  unfold qf_X17_sort_L2_b
  refine qs_gi hS hM pl_2235 ts_2235 (z := 0) rfl rfl (fun v7392 h7392 => ?_)
  refine qs_ite (c_le h7392 ei1) ?_ ?_
  · exact qs_tr2 (show vu _ _ from trivial) hS hM
  · refine qs_gr hS pl_2235 ts_2235 rfl ?_
    refine qs_gd (fun g7395 => ?_)
    refine qs_sz hS hM (pa_p hS pl_2250 ts_2250) ei1 g7395 k_0 (by decide) (fun S7394 M7394 hS7394 hM7394 => ?_)
    exact qs_tk ⟨_, _, rfl, (p_add ei1 k_1), hS7394, hM7394⟩
theorem qz_X17_sort_L2 (n : Nat) : ∀ {P : Nat → Nat} {S : zm_S} {M : qm} {i1 : Int32} {qi1 : Int} (hS : Sh L xs P S) (hM : qM P S = M) (ei1 : i1.toInt = qi1), qs (zf_X17_sort_L2 20000 n 2235 i1 S) (qf_X17_sort_L2 20000 n qi1 M) (tO (vs (rr L xs P vi) (rr L xs P vu))) := by
  induction n with
  | zero =>
    intros
    exact qs_none
  | succ n ih =>
    intro P S M i1 qi1 hS hM ei1
    unfold qf_X17_sort_L2
    refine qs_loop (C := (qc_X17_sort_L2 L xs P (zf_X17_sort_L2 20000 n))) (qz_X17_sort_L2_b n hS hM ei1) ?_
    rintro x s ⟨_, _, rfl, u0, hS2, hM2⟩
    exact ih hS2 hM2 u0
set_option maxRecDepth 20000 in
theorem qz_X17_inputs {P : Nat → Nat} {S : zm_S} {M : qm} {i0 : Int32} {qi0 : Int} (hS : Sh L xs P S) (hM : qM P S = M) (ei0 : i0.toInt = qi0) : qs (zf_X17_inputs 20000 i0 S) (qf_X17_inputs 20000 qi0 M) (tO (rp L xs P M vi)) := by
  unfold zf_X17_inputs qf_X17_inputs
  refine qs_ite (c_lt ei0 k_2) ?_ ?_
  · exact qs_tp (show vi _ _ from k_0) hS hM
  · refine qs_ite (c_eq ei0 k_20) ?_ ?_
    · exact qs_tp (show vi _ _ from k_0) hS hM
    · refine qs_ite (c_eq ei0 k_14) ?_ ?_
      · exact qs_tp (show vi _ _ from k_3) hS hM
      · refine qs_ite (c_lt ei0 k_13) ?_ ?_
        · exact qs_tp (show vi _ _ from k_2) hS hM
        · refine qs_ite (c_eq ei0 k_18) ?_ ?_
          · exact qs_tp (show vi _ _ from k_2) hS hM
          · refine qs_ite (c_eq ei0 k_19) ?_ ?_
            · exact qs_tp (show vi _ _ from k_2) hS hM
            · refine qs_ite (c_eq ei0 k_23) ?_ ?_
              · exact qs_tp (show vi _ _ from k_2) hS hM
              · refine qs_ite (c_eq ei0 k_24) ?_ ?_
                · exact qs_tp (show vi _ _ from k_2) hS hM
                · exact qs_tp (show vi _ _ from k_1) hS hM
set_option maxRecDepth 20000 in
theorem qz_X17_mayCome_J63 {P : Nat → Nat} {S : zm_S} {M : qm} {i1 : Int32} {qi1 : Int} {i3 : Int32} {qi3 : Int} (hS : Sh L xs P S) (hM : qM P S = M) (ei1 : i1.toInt = qi1) (ei3 : i3.toInt = qi3) {k : Nat → Int32 → Int32 → Int32 → zm_S → Option ((Int32 × zm_S) ⊕ ((Int32) × zm_S))} : qs (zf_X17_mayCome_J63 20000 k 2235 i1 i3 S) (qf_X17_mayCome_J63 20000 qi1 qi3 M) (tk (vs (rp L xs P M vi) (rp L xs P M vi)) (qc_X17_mayCome_L4 L xs P M k)) := by
  unfold zf_X17_mayCome_J63 qf_X17_mayCome_J63
  exact qs_tk ⟨_, _, _, _, rfl, ei1, k_0, (p_add ei3 k_1), hS, hM⟩
set_option maxRecDepth 20000 in
theorem qz_X17_mayCome_J59 {P : Nat → Nat} {S : zm_S} {M : qm} {i1 : Int32} {qi1 : Int} {i3 : Int32} {qi3 : Int} (hS : Sh L xs P S) (hM : qM P S = M) (ei1 : i1.toInt = qi1) (ei3 : i3.toInt = qi3) {k : Nat → Int32 → Int32 → Int32 → zm_S → Option ((Int32 × zm_S) ⊕ ((Int32) × zm_S))} : qs (zf_X17_mayCome_J59 20000 k 2235 i1 i3 S) (qf_X17_mayCome_J59 20000 qi1 qi3 M) (tk (vs (rp L xs P M vi) (rp L xs P M vi)) (qc_X17_mayCome_L4 L xs P M k)) := by
  unfold zf_X17_mayCome_J59 qf_X17_mayCome_J59
  exact qs_tk ⟨_, _, _, _, rfl, ei1, k_1, (p_add ei3 k_1), hS, hM⟩
set_option maxRecDepth 20000 in
theorem qz_X17_mayCome_L4_b (n : Nat) {P : Nat → Nat} {S : zm_S} {M : qm} {i1 : Int32} {qi1 : Int} {i2 : Int32} {qi2 : Int} {i3 : Int32} {qi3 : Int} (hS : Sh L xs P S) (hM : qM P S = M) (ei1 : i1.toInt = qi1) (ei2 : i2.toInt = qi2) (ei3 : i3.toInt = qi3) : qs (zf_X17_mayCome_L4 20000 (n + 1) 2235 i1 i2 i3 S) (qf_X17_mayCome_L4_b 20000 qi1 qi2 qi3 M) (tk (vs (rp L xs P M vi) (rp L xs P M vi)) (qc_X17_mayCome_L4 L xs P M (zf_X17_mayCome_L4 20000 n))) := by
  refine qs_eq (zf_X17_mayCome_L4.eq_2 ..) ?_
  unfold qf_X17_mayCome_L4_b
  refine qs_gr hS pl_2235 ts_2235 rfl ?_
  refine qs_gd (fun g7398 => ?_)
  refine qs_xi hM (pa_p hS pl_2236 ts_2236) ei1 g7398 (fun v7397 h7397 => ?_)
  refine qs_bp (qz_X17_inputs hS hM h7397) (fun v7399 S7399 w7399 h7399 hS7399 hM7399 => ?_)
  refine qs_ite (c_le h7399 ei3) ?_ ?_
  · exact qs_tp2 (show vi _ _ from ei2) hS7399 hM7399
  · refine qs_gr hS7399 pl_2235 ts_2235 rfl ?_
    refine qs_gd (fun g7402 => ?_)
    refine qs_xi hM7399 (pa_p hS7399 pl_2236 ts_2236) ei1 g7402 (fun v7401 h7401 => ?_)
    refine qs_ite (c_eq h7401 k_16) ?_ ?_
    · exact qs_tp2 (show vi _ _ from ei2) hS7399 hM7399
    · refine qs_gr hS7399 pl_2235 ts_2235 rfl ?_
      refine qs_gd (fun g7405 => ?_)
      refine qs_xi hM7399 (pa_p hS7399 pl_2240 ts_2240) (p_add (p_mul k_3 ei1) ei3) g7405 (fun v7404 h7404 => ?_)
      refine qs_ite (c_eq ei2 k_0) ?_ ?_
      · exact (qz_X17_mayCome_J63 hS7399 hM7399 ei1 ei3)
      · refine qs_ite (c_lt h7404 k_0) ?_ ?_
        · exact (qz_X17_mayCome_J59 hS7399 hM7399 ei1 ei3)
        · refine qs_gr hS7399 pl_2235 ts_2235 rfl ?_
          refine qs_gd (fun g7408 => ?_)
          refine qs_xi hM7399 (pa_p hS7399 pl_2250 ts_2250) h7404 g7408 (fun v7407 h7407 => ?_)
          refine qs_ite (c_eq h7407 k_0) ?_ ?_
          · exact (qz_X17_mayCome_J63 hS7399 hM7399 ei1 ei3)
          · exact (qz_X17_mayCome_J59 hS7399 hM7399 ei1 ei3)
theorem qz_X17_mayCome_L4 (n : Nat) : ∀ {P : Nat → Nat} {S : zm_S} {M : qm} {i1 : Int32} {qi1 : Int} {i2 : Int32} {qi2 : Int} {i3 : Int32} {qi3 : Int} (hS : Sh L xs P S) (hM : qM P S = M) (ei1 : i1.toInt = qi1) (ei2 : i2.toInt = qi2) (ei3 : i3.toInt = qi3), qs (zf_X17_mayCome_L4 20000 n 2235 i1 i2 i3 S) (qf_X17_mayCome_L4 20000 n qi1 qi2 qi3 M) (tO (vs (rp L xs P M vi) (rp L xs P M vi))) := by
  induction n with
  | zero =>
    intros
    exact qs_none
  | succ n ih =>
    intro P S M i1 qi1 i2 qi2 i3 qi3 hS hM ei1 ei2 ei3
    unfold qf_X17_mayCome_L4
    refine qs_loop (C := (qc_X17_mayCome_L4 L xs P M (zf_X17_mayCome_L4 20000 n))) (qz_X17_mayCome_L4_b n hS hM ei1 ei2 ei3) ?_
    rintro x s ⟨_, _, _, _, rfl, u0, u1, u2, hS2, hM2⟩
    exact ih hS2 hM2 u0 u1 u2
set_option maxRecDepth 20000 in
theorem qz_X17_mayCome {P : Nat → Nat} {S : zm_S} {M : qm} {i1 : Int32} {qi1 : Int} (hS : Sh L xs P S) (hM : qM P S = M) (ei1 : i1.toInt = qi1) : qs (zf_X17_mayCome 20000 2235 i1 S) (qf_X17_mayCome 20000 qi1 M) (tO (rp L xs P M vi)) := by
  unfold zf_X17_mayCome qf_X17_mayCome
  refine qs_lp (qz_X17_mayCome_L4 20000 hS hM ei1 k_1 k_0) ?_ ?_
  · intro v7410 S7410 w7410 h7410 hS7410 hM7410
    dsimp only
    exact qs_tp h7410 hS7410 hM7410
  · intro v7410 S7410 w7410 h7410 hS7410 hM7410
    dsimp only
    refine qs_ite (or_congr (c_eq h7410 k_0) (c_eq h7410 k_1)) ?_ ?_
    · exact qs_tp (show vi _ _ from h7410) hS7410 hM7410
    · exact qs_none
set_option maxRecDepth 20000 in
theorem qz_X17_sort_J70 {P : Nat → Nat} {S : zm_S} {M : qm} {i1 : Int32} {qi1 : Int} {i3 : Int32} {qi3 : Int} {i4 : Int32} {qi4 : Int} (hS : Sh L xs P S) (hM : qM P S = M) (ei1 : i1.toInt = qi1) (ei3 : i3.toInt = qi3) (ei4 : i4.toInt = qi4) {k : Nat → Int32 → Int32 → Int32 → zm_S → Option ((Int32 × zm_S) ⊕ ((Int32) × zm_S))} : qs (zf_X17_sort_J70 20000 k 2235 i1 i3 i4 S) (qf_X17_sort_J70 20000 qi1 qi3 qi4 M) (tk (vs (rp L xs P M vi) (rp L xs P M vi)) (qc_X17_sort_L41 L xs P M k)) := by
  unfold zf_X17_sort_J70 qf_X17_sort_J70
  exact qs_tk ⟨_, _, _, _, rfl, ei1, ei3, (p_addm ei4 k_m1), hS, hM⟩
set_option maxRecDepth 20000 in
theorem qz_X17_sort_L41_b (n : Nat) {P : Nat → Nat} {S : zm_S} {M : qm} {i1 : Int32} {qi1 : Int} {i3 : Int32} {qi3 : Int} {i4 : Int32} {qi4 : Int} (hS : Sh L xs P S) (hM : qM P S = M) (ei1 : i1.toInt = qi1) (ei3 : i3.toInt = qi3) (ei4 : i4.toInt = qi4) : qs (zf_X17_sort_L41 20000 (n + 1) 2235 i1 i3 i4 S) (qf_X17_sort_L41_b 20000 qi1 qi3 qi4 M) (tk (vs (rp L xs P M vi) (rp L xs P M vi)) (qc_X17_sort_L41 L xs P M (zf_X17_sort_L41 20000 n))) := by
  refine qs_eq (zf_X17_sort_L41.eq_2 ..) ?_
  unfold qf_X17_sort_L41_b
  refine qs_ite (c_lt ei4 k_0) ?_ ?_
  · exact qs_tp2 (show vi _ _ from ei3) hS hM
  · refine qs_gr hS pl_2235 ts_2235 rfl ?_
    refine qs_gd (fun g7413 => ?_)
    refine qs_xi hM (pa_p hS pl_2250 ts_2250) ei4 g7413 (fun v7412 h7412 => ?_)
    refine qs_ite (c_eq h7412 k_0) ?_ ?_
    · refine qs_zi hS pl_2235 ts_2235 ?_
      refine qs_bp (qz_X17_mayCome hS hM ei4) (fun v7415 S7415 w7415 h7415 hS7415 hM7415 => ?_)
      refine qs_ite (c_eq h7415 k_0) ?_ ?_
      · exact (qz_X17_sort_J70 hS7415 hM7415 ei1 ei3 ei4)
      · exact qs_tk ⟨_, _, _, _, rfl, ei1, ei4, (p_addm ei4 k_m1), hS7415, hM7415⟩
    · exact (qz_X17_sort_J70 hS hM ei1 ei3 ei4)
theorem qz_X17_sort_L41 (n : Nat) : ∀ {P : Nat → Nat} {S : zm_S} {M : qm} {i1 : Int32} {qi1 : Int} {i3 : Int32} {qi3 : Int} {i4 : Int32} {qi4 : Int} (hS : Sh L xs P S) (hM : qM P S = M) (ei1 : i1.toInt = qi1) (ei3 : i3.toInt = qi3) (ei4 : i4.toInt = qi4), qs (zf_X17_sort_L41 20000 n 2235 i1 i3 i4 S) (qf_X17_sort_L41 20000 n qi1 qi3 qi4 M) (tO (vs (rp L xs P M vi) (rp L xs P M vi))) := by
  induction n with
  | zero =>
    intros
    exact qs_none
  | succ n ih =>
    intro P S M i1 qi1 i3 qi3 i4 qi4 hS hM ei1 ei3 ei4
    unfold qf_X17_sort_L41
    refine qs_loop (C := (qc_X17_sort_L41 L xs P M (zf_X17_sort_L41 20000 n))) (qz_X17_sort_L41_b n hS hM ei1 ei3 ei4) ?_
    rintro x s ⟨_, _, _, _, rfl, u0, u1, u2, hS2, hM2⟩
    exact ih hS2 hM2 u0 u1 u2
set_option maxRecDepth 20000 in
theorem qz_X17_sort_J87 {P : Nat → Nat} {S : zm_S} {M : qm} {i1 : Int32} {qi1 : Int} {i3 : Int32} {qi3 : Int} {t0 : Int32} {qt0 : Int} (hS : Sh L xs P S) (hM : qM P S = M) (ei1 : i1.toInt = qi1) (ei3 : i3.toInt = qi3) (et0 : t0.toInt = qt0) {k : Nat → Int32 → Int32 → zm_S → Option ((Int32 × zm_S) ⊕ ((Int32) × zm_S))} : qs (zf_X17_sort_J87 20000 k 2235 i1 i3 t0 S) (qf_X17_sort_J87 20000 qi1 qi3 qt0 M) (tk (vs (rr L xs P vi) (rr L xs P vi)) (qc_X17_sort_L27 L xs P k)) := by
  unfold zf_X17_sort_J87 qf_X17_sort_J87
  refine qs_ite (c_eq et0 k_0) ?_ ?_
  · exact qs_tk ⟨_, _, _, rfl, ei1, et0, hS, hM⟩
  · refine qs_gr hS pl_2235 ts_2235 rfl ?_
    refine qs_gd (fun g7418 => ?_)
    refine qs_sz hS hM (pa_p hS pl_2250 ts_2250) ei3 g7418 k_1 (by decide) (fun S7417 M7417 hS7417 hM7417 => ?_)
    refine qs_gr hS7417 pl_2235 ts_2235 rfl ?_
    refine qs_gd (fun g7421 => ?_)
    refine qs_si hS7417 hM7417 (pa_p hS7417 pl_2249 ts_2249) ei1 g7421 ei3 (fun S7420 M7420 hS7420 hM7420 => ?_)
    exact qs_tk ⟨_, _, _, rfl, (p_add ei1 k_1), et0, hS7420, hM7420⟩
set_option maxRecDepth 20000 in
theorem qz_X17_sort_L27_b (n : Nat) {P : Nat → Nat} {S : zm_S} {M : qm} {i1 : Int32} {qi1 : Int} {i2 : Int32} {qi2 : Int} (hS : Sh L xs P S) (hM : qM P S = M) (ei1 : i1.toInt = qi1) (ei2 : i2.toInt = qi2) : qs (zf_X17_sort_L27 20000 (n + 1) 2235 i1 i2 S) (qf_X17_sort_L27_b 20000 qi1 qi2 M) (tk (vs (rr L xs P vi) (rr L xs P vi)) (qc_X17_sort_L27 L xs P (zf_X17_sort_L27 20000 n))) := by
  refine qs_eq (zf_X17_sort_L27.eq_2 ..) ?_
  unfold qf_X17_sort_L27_b
  refine qs_ite (c_eq ei2 k_0) ?_ ?_
  · exact qs_tr2 (show vi _ _ from ei1) hS hM
  · refine qs_gi hS hM pl_2235 ts_2235 (z := 0) rfl rfl (fun v7422 h7422 => ?_)
    refine qs_lp (qz_X17_sort_L41 20000 hS hM ei1 k_m1 (p_sub h7422 k_1)) ?_ ?_
    · intro v7424 S7424 w7424 h7424 hS7424 hM7424
      dsimp only
      exact qs_tr1 h7424 hS7424 hM7424
    · intro v7424 S7424 w7424 h7424 hS7424 hM7424
      dsimp only
      refine qs_ite (c_lt h7424 k_0) ?_ ?_
      · exact (qz_X17_sort_J87 hS7424 hM7424 ei1 h7424 k_0)
      · exact (qz_X17_sort_J87 hS7424 hM7424 ei1 h7424 k_1)
theorem qz_X17_sort_L27 (n : Nat) : ∀ {P : Nat → Nat} {S : zm_S} {M : qm} {i1 : Int32} {qi1 : Int} {i2 : Int32} {qi2 : Int} (hS : Sh L xs P S) (hM : qM P S = M) (ei1 : i1.toInt = qi1) (ei2 : i2.toInt = qi2), qs (zf_X17_sort_L27 20000 n 2235 i1 i2 S) (qf_X17_sort_L27 20000 n qi1 qi2 M) (tO (vs (rr L xs P vi) (rr L xs P vi))) := by
  induction n with
  | zero =>
    intros
    exact qs_none
  | succ n ih =>
    intro P S M i1 qi1 i2 qi2 hS hM ei1 ei2
    unfold qf_X17_sort_L27
    refine qs_loop (C := (qc_X17_sort_L27 L xs P (zf_X17_sort_L27 20000 n))) (qz_X17_sort_L27_b n hS hM ei1 ei2) ?_
    rintro x s ⟨_, _, _, rfl, u0, u1, hS2, hM2⟩
    exact ih hS2 hM2 u0 u1
set_option maxRecDepth 20000 in
theorem qz_X17_sort_L117_b (n : Nat) {P : Nat → Nat} {S : zm_S} {M : qm} {i1 : Int32} {qi1 : Int} {i3 : Int32} {qi3 : Int} {i4 : Int32} {qi4 : Int} (hS : Sh L xs P S) (hM : qM P S = M) (ei1 : i1.toInt = qi1) (ei3 : i3.toInt = qi3) (ei4 : i4.toInt = qi4) : qs (zf_X17_sort_L117 20000 (n + 1) 2235 i1 i3 i4 S) (qf_X17_sort_L117_b 20000 qi1 qi3 qi4 M) (tk (vs (rr L xs P vi) (rr L xs P vu)) (qc_X17_sort_L117 L xs P (zf_X17_sort_L117 20000 n))) := by
  refine qs_eq (zf_X17_sort_L117.eq_2 ..) ?_
  unfold qf_X17_sort_L117_b
  refine qs_gi hS hM pl_2235 ts_2235 (z := 0) rfl rfl (fun v7425 h7425 => ?_)
  refine qs_ite (c_le h7425 ei4) ?_ ?_
  · exact qs_tr2 (show vu _ _ from trivial) hS hM
  · refine qs_gr hS pl_2235 ts_2235 rfl ?_
    refine qs_gd (fun g7428 => ?_)
    refine qs_xi hM (pa_p hS pl_2250 ts_2250) ei4 g7428 (fun v7427 h7427 => ?_)
    refine qs_ite (c_eq h7427 k_0) ?_ ?_
    · refine qs_gr hS pl_2235 ts_2235 rfl ?_
      refine qs_gd (fun g7431 => ?_)
      refine qs_si hS hM (pa_p hS pl_2249 ts_2249) ei3 g7431 ei4 (fun S7430 M7430 hS7430 hM7430 => ?_)
      exact qs_tk ⟨_, _, _, _, rfl, ei1, (p_add ei3 k_1), (p_add ei4 k_1), hS7430, hM7430⟩
    · exact qs_tk ⟨_, _, _, _, rfl, ei1, ei3, (p_add ei4 k_1), hS, hM⟩
theorem qz_X17_sort_L117 (n : Nat) : ∀ {P : Nat → Nat} {S : zm_S} {M : qm} {i1 : Int32} {qi1 : Int} {i3 : Int32} {qi3 : Int} {i4 : Int32} {qi4 : Int} (hS : Sh L xs P S) (hM : qM P S = M) (ei1 : i1.toInt = qi1) (ei3 : i3.toInt = qi3) (ei4 : i4.toInt = qi4), qs (zf_X17_sort_L117 20000 n 2235 i1 i3 i4 S) (qf_X17_sort_L117 20000 n qi1 qi3 qi4 M) (tO (vs (rr L xs P vi) (rr L xs P vu))) := by
  induction n with
  | zero =>
    intros
    exact qs_none
  | succ n ih =>
    intro P S M i1 qi1 i3 qi3 i4 qi4 hS hM ei1 ei3 ei4
    unfold qf_X17_sort_L117
    refine qs_loop (C := (qc_X17_sort_L117 L xs P (zf_X17_sort_L117 20000 n))) (qz_X17_sort_L117_b n hS hM ei1 ei3 ei4) ?_
    rintro x s ⟨_, _, _, _, rfl, u0, u1, u2, hS2, hM2⟩
    exact ih hS2 hM2 u0 u1 u2
set_option maxRecDepth 20000 in
theorem qz_X17_sort {P : Nat → Nat} {S : zm_S} {M : qm}  (hS : Sh L xs P S) (hM : qM P S = M)  : qs (zf_X17_sort 20000 2235 S) (qf_X17_sort 20000 M) (tO (rr L xs P vi)) := by
  unfold zf_X17_sort qf_X17_sort
  refine qs_lr (qz_X17_sort_L2 20000 hS hM k_0) ?_ ?_
  · intro v7433 S7433 w7433 M7433 h7433 hS7433 hM7433
    dsimp only
    exact qs_tr h7433 hS7433 hM7433
  · intro v7433 S7433 w7433 M7433 h7433 hS7433 hM7433
    dsimp only
    refine qs_lr (qz_X17_sort_L27 20000 hS7433 hM7433 k_0 k_1) ?_ ?_
    · intro v7435 S7435 w7435 M7435 h7435 hS7435 hM7435
      dsimp only
      exact qs_tr h7435 hS7435 hM7435
    · intro v7435 S7435 w7435 M7435 h7435 hS7435 hM7435
      dsimp only
      refine qs_lr (qz_X17_sort_L117 20000 hS7435 hM7435 h7435 h7435 k_0) ?_ ?_
      · intro v7437 S7437 w7437 M7437 h7437 hS7437 hM7437
        dsimp only
        exact qs_tr h7437 hS7437 hM7437
      · intro v7437 S7437 w7437 M7437 h7437 hS7437 hM7437
        dsimp only
        exact qs_tr (show vi _ _ from h7435) hS7437 hM7437
set_option maxRecDepth 20000 in
theorem qz_X18_order {P : Nat → Nat} {S : zm_S} {M : qm}  (hS : Sh L xs P S) (hM : qM P S = M)  : qs (zf_X18_order 20000 2156 S) (qf_X18_order 20000 M) (tO (rr L xs P vi)) := by
  unfold zf_X18_order qf_X18_order
  refine qs_gi hS hM pl_2156 ts_2156 (z := 1) rfl rfl (fun v7438 h7438 => ?_)
  refine qs_zi hS pl_2156 ts_2156 ?_
  refine qs_b (qz_X18_stays hS hM h7438) (fun v7440 S7440 w7440 M7440 h7440 hS7440 hM7440 => ?_)
  refine qs_ite (c_eq h7440 k_0) ?_ ?_
  · exact qs_tr (show vi _ _ from k_0) hS7440 hM7440
  · refine qs_gr hS7440 pl_2156 ts_2156 rfl ?_
    refine qs_zi hS7440 pl_2235 ts_2235 ?_
    refine qs_b (qz_X17_sort hS7440 hM7440 ) (fun v7443 S7443 w7443 M7443 h7443 hS7443 hM7443 => ?_)
    exact qs_tr (show vi _ _ from h7443) hS7443 hM7443
set_option maxRecDepth 20000 in
theorem qz_X9_blockFact {P : Nat → Nat} {S : zm_S} {M : qm} {i1 : Int32} {qi1 : Int} {i2 : Int32} {qi2 : Int} (hS : Sh L xs P S) (hM : qM P S = M) (ei1 : i1.toInt = qi1) (ei2 : i2.toInt = qi2) : qs (zf_X9_blockFact 20000 1003 i1 i2 S) (qf_X9_blockFact 20000 qi1 qi2 M) (tO (rr L xs P vi)) := by
  unfold zf_X9_blockFact qf_X9_blockFact
  refine qs_ite (z_eq ei2) ?_ ?_
  · refine qs_gr hS pl_1003 ts_1003 rfl ?_
    refine qs_gd (fun g7446 => ?_)
    refine qs_xi hM (pa_p hS pl_1049 ts_1049) ei1 g7446 (fun v7445 h7445 => ?_)
    exact qs_tr (show vi _ _ from h7445) hS hM
  · refine qs_ite (z_eq ei2) ?_ ?_
    · refine qs_gr hS pl_1003 ts_1003 rfl ?_
      refine qs_gd (fun g7449 => ?_)
      refine qs_xt hS pl_1050 ts_1050 (Or.inl rfl) ei1 g7449 (fun b7448 r7448 => ?_)
      refine qs_yi (j := 0) hS hM qt_1050 tq_1050 r7448 k_0 (by decide) (fun v7450 h7450 => ?_)
      exact qs_tr (show vi _ _ from h7450) hS hM
    · refine qs_ite (z_eq ei2) ?_ ?_
      · refine qs_gr hS pl_1003 ts_1003 rfl ?_
        refine qs_gd (fun g7453 => ?_)
        refine qs_xt hS pl_1050 ts_1050 (Or.inl rfl) ei1 g7453 (fun b7452 r7452 => ?_)
        refine qs_yi (j := 1) hS hM qt_1050 tq_1050 r7452 k_1 (by decide) (fun v7454 h7454 => ?_)
        exact qs_tr (show vi _ _ from h7454) hS hM
      · refine qs_zi hS pl_1003 ts_1003 ?_
        refine qs_b (qz_X9_sortBlocks hS hM ) (fun v7456 S7456 w7456 M7456 h7456 hS7456 hM7456 => ?_)
        refine qs_gr hS7456 pl_1003 ts_1003 rfl ?_
        refine qs_gd (fun g7459 => ?_)
        refine qs_xi hM7456 (pa_p hS7456 pl_1137 ts_1137) ei1 g7459 (fun v7458 h7458 => ?_)
        exact qs_tr (show vi _ _ from h7458) hS7456 hM7456
set_option maxRecDepth 20000 in
theorem qz_X11_out_J22 {P : Nat → Nat} {S : zm_S} {M : qm} {i1 : Int32} {qi1 : Int} {i2 : Int32} {qi2 : Int} {t0 : Int32} {qt0 : Int} (hS : Sh L xs P S) (hM : qM P S = M) (ei1 : i1.toInt = qi1) (ei2 : i2.toInt = qi2) (et0 : t0.toInt = qt0) : qs (zf_X11_out_J22 20000 6 i1 i2 t0 S) (qf_X11_out_J22 20000 qi1 qi2 qt0 M) (tO (rr L xs P (vs vi ve))) := by
  unfold zf_X11_out_J22 qf_X11_out_J22
  refine qs_xp (qz_X11_needArgument hS hM et0) ?_ ?_
  · intro v7461 S7461 w7461 h7461 hS7461 hM7461
    dsimp only
    refine qs_gi hS7461 hM7461 pl_6 ts_6 (z := 11) rfl rfl (fun v7462 h7462 => ?_)
    refine qs_xp (qz_X11_needState hS7461 hM7461 h7462) ?_ ?_
    · intro v7464 S7464 w7464 h7464 hS7464 hM7464
      dsimp only
      refine qs_gr hS7464 pl_6 ts_6 rfl ?_
      refine qs_zi hS7464 pl_1003 ts_1003 ?_
      refine qs_b (qz_X9_blockFact hS7464 hM7464 ei1 ei2) (fun v7467 S7467 w7467 M7467 h7467 hS7467 hM7467 => ?_)
      exact qs_tr (show (vs vi ve) _ _ from h7467) hS7467 hM7467
    · intro v7464 S7464 hS7464 hM7464
      dsimp only
      exact qs_tr (show (vs vi ve) _ _ from rfl) hS7464 hM7464
  · intro v7461 S7461 hS7461 hM7461
    dsimp only
    exact qs_tr (show (vs vi ve) _ _ from rfl) hS7461 hM7461
set_option maxRecDepth 20000 in
theorem qz_X11_out_J21 {P : Nat → Nat} {S : zm_S} {M : qm} {i1 : Int32} {qi1 : Int} {i2 : Int32} {qi2 : Int} (hS : Sh L xs P S) (hM : qM P S = M) (ei1 : i1.toInt = qi1) (ei2 : i2.toInt = qi2) : qs (zf_X11_out_J21 20000 6 i1 i2 S) (qf_X11_out_J21 20000 qi1 qi2 M) (tO (rr L xs P (vs vi ve))) := by
  unfold zf_X11_out_J21 qf_X11_out_J21
  exact (qz_X11_out_J22 hS hM ei1 ei2 k_0)
set_option maxRecDepth 20000 in
theorem qz_X11_out {P : Nat → Nat} {S : zm_S} {M : qm} {i1 : Int32} {qi1 : Int} {i2 : Int32} {qi2 : Int} (hS : Sh L xs P S) (hM : qM P S = M) (ei1 : i1.toInt = qi1) (ei2 : i2.toInt = qi2) : qs (zf_X11_out 20000 6 i1 i2 S) (qf_X11_out 20000 qi1 qi2 M) (tO (rr L xs P (vs vi ve))) := by
  unfold zf_X11_out qf_X11_out
  refine qs_zi hS pl_6 ts_6 ?_
  refine qs_bp (qz_X11_isBlock hS hM ei1) (fun v7469 S7469 w7469 h7469 hS7469 hM7469 => ?_)
  refine qs_ite (c_eq h7469 k_0) ?_ ?_
  · exact (qz_X11_out_J21 hS7469 hM7469 ei1 ei2)
  · refine qs_bp (qz_X11_isWithin hS7469 hM7469 ei2 k_0 k_3) (fun v7470 S7470 w7470 h7470 hS7470 hM7470 => ?_)
    refine qs_ite (c_eq h7470 k_0) ?_ ?_
    · exact (qz_X11_out_J21 hS7470 hM7470 ei1 ei2)
    · exact (qz_X11_out_J22 hS7470 hM7470 ei1 ei2 k_1)
set_option maxRecDepth 20000 in
theorem qz_L_out {P : Nat → Nat} {S : zm_S} {M : qm} {i1 : Int32} {qi1 : Int} {i2 : Int32} {qi2 : Int} (hS : Sh L xs P S) (hM : qM P S = M) (ei1 : i1.toInt = qi1) (ei2 : i2.toInt = qi2) : qs (zf_L_out 20000 6 i1 i2 2332 S) (qf_L_out 20000 qi1 qi2 M) (tO (rr L xs P vi)) := by
  unfold zf_L_out qf_L_out
  refine qs_zi hS pl_6 ts_6 ?_
  refine qs_xr (qz_X11_out hS hM ei1 ei2) ?_ ?_
  · intro v7473 S7473 w7473 M7473 h7473 hS7473 hM7473
    dsimp only
    refine qs_sl hS7473 hM7473 (pa_p hS7473 pl_2332 ts_2332) k_0 (by decide) (p_64 h7473) (fun S7474 M7474 hS7474 hM7474 => ?_)
    exact qs_tr (show vi _ _ from k_0) hS7474 hM7474
  · intro v7473 S7473 M7473 hS7473 hM7473
    dsimp only
    refine qs_ite Iff.rfl ?_ ?_
    · exact qs_tr (show vi _ _ from k_1) hS7473 hM7473
    · refine qs_ite Iff.rfl ?_ ?_
      · exact qs_tr (show vi _ _ from k_2) hS7473 hM7473
      · exact qs_none
set_option maxRecDepth 20000 in
theorem qz_X17_place_L7_b (n : Nat) {P : Nat → Nat} {S : zm_S} {M : qm} {i1 : Int32} {qi1 : Int} {i3 : Int32} {qi3 : Int} (hS : Sh L xs P S) (hM : qM P S = M) (ei1 : i1.toInt = qi1) (ei3 : i3.toInt = qi3) : qs (zf_X17_place_L7 20000 (n + 1) 2235 i1 i3 S) (qf_X17_place_L7_b 20000 qi1 qi3 M) (tk (vs (rp L xs P M vi) (rp L xs P M vi)) (qc_X17_place_L7 L xs P M (zf_X17_place_L7 20000 n))) := by
  refine qs_eq (zf_X17_place_L7.eq_2 ..) ?_
  unfold qf_X17_place_L7_b
  refine qs_gr hS pl_2235 ts_2235 rfl ?_
  refine qs_gd (fun g7477 => ?_)
  refine qs_xi hM (pa_p hS pl_2249 ts_2249) ei3 g7477 (fun v7476 h7476 => ?_)
  refine qs_ite (c_eq h7476 ei1) ?_ ?_
  · exact qs_tp2 (show vi _ _ from ei3) hS hM
  · exact qs_tk ⟨_, _, _, rfl, ei1, (p_add ei3 k_1), hS, hM⟩
theorem qz_X17_place_L7 (n : Nat) : ∀ {P : Nat → Nat} {S : zm_S} {M : qm} {i1 : Int32} {qi1 : Int} {i3 : Int32} {qi3 : Int} (hS : Sh L xs P S) (hM : qM P S = M) (ei1 : i1.toInt = qi1) (ei3 : i3.toInt = qi3), qs (zf_X17_place_L7 20000 n 2235 i1 i3 S) (qf_X17_place_L7 20000 n qi1 qi3 M) (tO (vs (rp L xs P M vi) (rp L xs P M vi))) := by
  induction n with
  | zero =>
    intros
    exact qs_none
  | succ n ih =>
    intro P S M i1 qi1 i3 qi3 hS hM ei1 ei3
    unfold qf_X17_place_L7
    refine qs_loop (C := (qc_X17_place_L7 L xs P M (zf_X17_place_L7 20000 n))) (qz_X17_place_L7_b n hS hM ei1 ei3) ?_
    rintro x s ⟨_, _, _, rfl, u0, u1, hS2, hM2⟩
    exact ih hS2 hM2 u0 u1
set_option maxRecDepth 20000 in
theorem qz_X17_place {P : Nat → Nat} {S : zm_S} {M : qm} {i1 : Int32} {qi1 : Int} (hS : Sh L xs P S) (hM : qM P S = M) (ei1 : i1.toInt = qi1) : qs (zf_X17_place 20000 2235 i1 S) (qf_X17_place 20000 qi1 M) (tO (rr L xs P vi)) := by
  unfold zf_X17_place qf_X17_place
  refine qs_zi hS pl_2235 ts_2235 ?_
  refine qs_b (qz_X17_sort hS hM ) (fun v7479 S7479 w7479 M7479 h7479 hS7479 hM7479 => ?_)
  refine qs_lp (qz_X17_place_L7 20000 hS7479 hM7479 ei1 k_0) ?_ ?_
  · intro v7481 S7481 w7481 h7481 hS7481 hM7481
    dsimp only
    exact qs_tr h7481 hS7481 hM7481
  · intro v7481 S7481 w7481 h7481 hS7481 hM7481
    dsimp only
    exact qs_tr (show vi _ _ from h7481) hS7481 hM7481
set_option maxRecDepth 20000 in
theorem qz_X18_out_J28 {P : Nat → Nat} {S : zm_S} {M : qm} {i1 : Int32} {qi1 : Int} {i2 : Int32} {qi2 : Int} {t1 : Int32} {qt1 : Int} (hS : Sh L xs P S) (hM : qM P S = M) (ei1 : i1.toInt = qi1) (ei2 : i2.toInt = qi2) (et1 : t1.toInt = qt1) : qs (zf_X18_out_J28 20000 2156 i1 i2 2156 t1 S) (qf_X18_out_J28 20000 qi1 qi2 qt1 M) (tO (rr L xs P vi)) := by
  unfold zf_X18_out_J28 qf_X18_out_J28
  refine qs_gi hS hM pl_2156 ts_2156 (z := 1) rfl rfl (fun v7482 h7482 => ?_)
  refine qs_zi hS pl_2156 ts_2156 ?_
  refine qs_b (qz_X18_goes hS hM et1 h7482) (fun v7484 S7484 w7484 M7484 h7484 hS7484 hM7484 => ?_)
  refine qs_ite (c_eq h7484 k_0) ?_ ?_
  · exact qs_tr (show vi _ _ from k_0) hS7484 hM7484
  · refine qs_ite (c_eq ei2 k_0) ?_ ?_
    · refine qs_gr hS7484 pl_2156 ts_2156 rfl ?_
      refine qs_gr hS7484 pl_2235 ts_2235 rfl ?_
      refine qs_gd (fun g7488 => ?_)
      refine qs_xi hM7484 (pa_p hS7484 pl_2242 ts_2242) ei1 g7488 (fun v7487 h7487 => ?_)
      exact qs_tr (show vi _ _ from h7487) hS7484 hM7484
    · refine qs_ite (c_eq ei2 k_1) ?_ ?_
      · refine qs_gr hS7484 pl_2156 ts_2156 rfl ?_
        refine qs_gr hS7484 pl_2235 ts_2235 rfl ?_
        refine qs_gd (fun g7492 => ?_)
        refine qs_xi hM7484 (pa_p hS7484 pl_2243 ts_2243) ei1 g7492 (fun v7491 h7491 => ?_)
        exact qs_tr (show vi _ _ from h7491) hS7484 hM7484
      · refine qs_ite (c_eq ei2 k_2) ?_ ?_
        · refine qs_gr hS7484 pl_2156 ts_2156 rfl ?_
          refine qs_gr hS7484 pl_2235 ts_2235 rfl ?_
          refine qs_gd (fun g7496 => ?_)
          refine qs_xi hM7484 (pa_p hS7484 pl_2244 ts_2244) ei1 g7496 (fun v7495 h7495 => ?_)
          exact qs_tr (show vi _ _ from h7495) hS7484 hM7484
        · refine qs_gr hS7484 pl_2156 ts_2156 rfl ?_
          refine qs_zi hS7484 pl_2235 ts_2235 ?_
          refine qs_b (qz_X17_place hS7484 hM7484 ei1) (fun v7499 S7499 w7499 M7499 h7499 hS7499 hM7499 => ?_)
          exact qs_tr (show vi _ _ from h7499) hS7499 hM7499
set_option maxRecDepth 20000 in
theorem qz_X18_out_J27 {P : Nat → Nat} {S : zm_S} {M : qm} {i1 : Int32} {qi1 : Int} {i2 : Int32} {qi2 : Int} (hS : Sh L xs P S) (hM : qM P S = M) (ei1 : i1.toInt = qi1) (ei2 : i2.toInt = qi2) : qs (zf_X18_out_J27 20000 2156 i1 i2 2156 S) (qf_X18_out_J27 20000 qi1 qi2 M) (tO (rr L xs P vi)) := by
  unfold zf_X18_out_J27 qf_X18_out_J27
  exact (qz_X18_out_J28 hS hM ei1 ei2 k_0)
set_option maxRecDepth 20000 in
theorem qz_X18_out {P : Nat → Nat} {S : zm_S} {M : qm} {i1 : Int32} {qi1 : Int} {i2 : Int32} {qi2 : Int} (hS : Sh L xs P S) (hM : qM P S = M) (ei1 : i1.toInt = qi1) (ei2 : i2.toInt = qi2) : qs (zf_X18_out 20000 2156 i1 i2 S) (qf_X18_out 20000 qi1 qi2 M) (tO (rr L xs P vi)) := by
  unfold zf_X18_out qf_X18_out
  refine qs_gr hS pl_2156 ts_2156 rfl ?_
  refine qs_gi hS hM pl_2235 ts_2235 (z := 0) rfl rfl (fun v7501 h7501 => ?_)
  refine qs_bp (qz_X18_isIn hS hM ei1 h7501) (fun v7502 S7502 w7502 h7502 hS7502 hM7502 => ?_)
  refine qs_ite (c_eq h7502 k_0) ?_ ?_
  · exact (qz_X18_out_J27 hS7502 hM7502 ei1 ei2)
  · refine qs_bp (qz_X18_isIn hS7502 hM7502 ei2 k_4) (fun v7503 S7503 w7503 h7503 hS7503 hM7503 => ?_)
    refine qs_ite (c_eq h7503 k_0) ?_ ?_
    · exact (qz_X18_out_J27 hS7503 hM7503 ei1 ei2)
    · exact (qz_X18_out_J28 hS7503 hM7503 ei1 ei2 k_1)
set_option maxRecDepth 20000 in
theorem qz_X11_failed {P : Nat → Nat} {S : zm_S} {M : qm} {i1 : Int32} {qi1 : Int} (hS : Sh L xs P S) (hM : qM P S = M) (ei1 : i1.toInt = qi1) : qs (zf_X11_failed 20000 6 i1 S) (qf_X11_failed 20000 qi1 M) (tO (rp L xs P M (vs vi ve))) := by
  unfold zf_X11_failed qf_X11_failed
  refine qs_bp (qz_X11_isWithin hS hM ei1 k_0 k_3) (fun v7504 S7504 w7504 h7504 hS7504 hM7504 => ?_)
  refine qs_xp (qz_X11_needArgument hS7504 hM7504 h7504) ?_ ?_
  · intro v7506 S7506 w7506 h7506 hS7506 hM7506
    dsimp only
    refine qs_gi hS7506 hM7506 pl_6 ts_6 (z := 11) rfl rfl (fun v7507 h7507 => ?_)
    refine qs_xp (qz_X11_needState hS7506 hM7506 h7507) ?_ ?_
    · intro v7509 S7509 w7509 h7509 hS7509 hM7509
      dsimp only
      refine qs_gr hS7509 pl_6 ts_6 rfl ?_
      refine qs_gr hS7509 pl_1003 ts_1003 rfl ?_
      refine qs_gd (fun g7513 => ?_)
      refine qs_xi hM7509 (pa_p hS7509 pl_1138 ts_1138) ei1 g7513 (fun v7512 h7512 => ?_)
      exact qs_tp (show (vs vi ve) _ _ from h7512) hS7509 hM7509
    · intro v7509 S7509 hS7509 hM7509
      dsimp only
      exact qs_tp (show (vs vi ve) _ _ from rfl) hS7509 hM7509
  · intro v7506 S7506 hS7506 hM7506
    dsimp only
    exact qs_tp (show (vs vi ve) _ _ from rfl) hS7506 hM7506
set_option maxRecDepth 20000 in
theorem qz_L_failed {P : Nat → Nat} {S : zm_S} {M : qm} {i1 : Int32} {qi1 : Int} (hS : Sh L xs P S) (hM : qM P S = M) (ei1 : i1.toInt = qi1) : qs (zf_L_failed 20000 6 i1 2332 S) (qf_L_failed 20000 qi1 M) (tO (rr L xs P vi)) := by
  unfold zf_L_failed qf_L_failed
  refine qs_zi hS pl_6 ts_6 ?_
  refine qs_xp (qz_X11_failed hS hM ei1) ?_ ?_
  · intro v7516 S7516 w7516 h7516 hS7516 hM7516
    dsimp only
    refine qs_sl hS7516 hM7516 (pa_p hS7516 pl_2332 ts_2332) k_0 (by decide) (p_64 h7516) (fun S7517 M7517 hS7517 hM7517 => ?_)
    exact qs_tr (show vi _ _ from k_0) hS7517 hM7517
  · intro v7516 S7516 hS7516 hM7516
    dsimp only
    refine qs_ite Iff.rfl ?_ ?_
    · exact qs_tr (show vi _ _ from k_1) hS7516 hM7516
    · refine qs_ite Iff.rfl ?_ ?_
      · exact qs_tr (show vi _ _ from k_2) hS7516 hM7516
      · exact qs_none
set_option maxRecDepth 20000 in
theorem qz_X18_failed {P : Nat → Nat} {S : zm_S} {M : qm} {i1 : Int32} {qi1 : Int} (hS : Sh L xs P S) (hM : qM P S = M) (ei1 : i1.toInt = qi1) : qs (zf_X18_failed 20000 2156 i1 S) (qf_X18_failed 20000 qi1 M) (tO (rr L xs P vi)) := by
  unfold zf_X18_failed qf_X18_failed
  refine qs_bp (qz_X18_isIn hS hM ei1 k_4) (fun v7518 S7518 w7518 h7518 hS7518 hM7518 => ?_)
  refine qs_gi hS7518 hM7518 pl_2156 ts_2156 (z := 1) rfl rfl (fun v7519 h7519 => ?_)
  refine qs_zi hS7518 pl_2156 ts_2156 ?_
  refine qs_b (qz_X18_goes hS7518 hM7518 h7518 h7519) (fun v7521 S7521 w7521 M7521 h7521 hS7521 hM7521 => ?_)
  refine qs_ite (c_eq h7521 k_0) ?_ ?_
  · exact qs_tr (show vi _ _ from k_0) hS7521 hM7521
  · refine qs_gr hS7521 pl_2156 ts_2156 rfl ?_
    refine qs_gr hS7521 pl_2235 ts_2235 rfl ?_
    refine qs_gd (fun g7525 => ?_)
    refine qs_xi hM7521 (pa_p hS7521 pl_2251 ts_2251) ei1 g7525 (fun v7524 h7524 => ?_)
    exact qs_tr (show vi _ _ from h7524) hS7521 hM7521
set_option maxRecDepth 20000 in
theorem qz_X11_isStation {P : Nat → Nat} {S : zm_S} {M : qm} {i0 : Int32} {qi0 : Int} (hS : Sh L xs P S) (hM : qM P S = M) (ei0 : i0.toInt = qi0) : qs (zf_X11_isStation 20000 i0 S) (qf_X11_isStation 20000 qi0 M) (tO (rp L xs P M vi)) := by
  unfold zf_X11_isStation qf_X11_isStation
  refine qs_bp (qz_X11_isWithin hS hM ei0 k_0 k_7) (fun v7526 S7526 w7526 h7526 hS7526 hM7526 => ?_)
  refine qs_ite (or_congr (c_eq h7526 k_0) (c_eq h7526 k_1)) ?_ ?_
  · exact qs_tp (show vi _ _ from h7526) hS7526 hM7526
  · exact qs_none
set_option maxRecDepth 20000 in
theorem qz_X1_setAddress {P : Nat → Nat} {S : zm_S} {M : qm} {i1 : Int32} {qi1 : Int} {i2 : Int32} {qi2 : Int} (hS : Sh L xs P S) (hM : qM P S = M) (ei1 : i1.toInt = qi1) (ei2 : i2.toInt = qi2) : qs (zf_X1_setAddress 20000 1139 i1 i2 S) (qf_X1_setAddress 20000 qi1 qi2 M) (tO (rr L xs P vi)) := by
  unfold zf_X1_setAddress qf_X1_setAddress
  refine qs_gr hS pl_1139 ts_1139 rfl ?_
  refine qs_gd (fun g7529 => ?_)
  refine qs_xt hS pl_1140 ts_1140 (Or.inl rfl) ei1 g7529 (fun b7528 r7528 => ?_)
  refine qs_yi (j := 6) hS hM qt_1140 tq_1140 r7528 k_6 (by decide) (fun v7530 h7530 => ?_)
  refine qs_gr hS pl_1139 ts_1139 rfl ?_
  refine qs_gd (fun g7533 => ?_)
  refine qs_xt hS pl_1140 ts_1140 (Or.inl rfl) ei1 g7533 (fun b7532 r7532 => ?_)
  refine qs_ysi hS hM qt_1140 tq_1140 r7532 k_6 (by decide) ei2 (fun S7534 M7534 hS7534 hM7534 => ?_)
  exact qs_tr (show vi _ _ from h7530) hS7534 hM7534
set_option maxRecDepth 20000 in
theorem qz_X11_address_J23 {P : Nat → Nat} {S : zm_S} {M : qm} {i1 : Int32} {qi1 : Int} {i2 : Int32} {qi2 : Int} {t0 : Int32} {qt0 : Int} (hS : Sh L xs P S) (hM : qM P S = M) (ei1 : i1.toInt = qi1) (ei2 : i2.toInt = qi2) (et0 : t0.toInt = qt0) : qs (zf_X11_address_J23 20000 6 i1 i2 t0 S) (qf_X11_address_J23 20000 qi1 qi2 qt0 M) (tO (rr L xs P (vs vi ve))) := by
  unfold zf_X11_address_J23 qf_X11_address_J23
  refine qs_xp (qz_X11_needArgument hS hM et0) ?_ ?_
  · intro v7536 S7536 w7536 h7536 hS7536 hM7536
    dsimp only
    refine qs_gi hS7536 hM7536 pl_6 ts_6 (z := 11) rfl rfl (fun v7537 h7537 => ?_)
    refine qs_xp (qz_X11_needState hS7536 hM7536 h7537) ?_ ?_
    · intro v7539 S7539 w7539 h7539 hS7539 hM7539
      dsimp only
      refine qs_gr hS7539 pl_6 ts_6 rfl ?_
      refine qs_zi hS7539 pl_1139 ts_1139 ?_
      refine qs_b (qz_X1_setAddress hS7539 hM7539 ei1 ei2) (fun v7542 S7542 w7542 M7542 h7542 hS7542 hM7542 => ?_)
      exact qs_tr (show (vs vi ve) _ _ from h7542) hS7542 hM7542
    · intro v7539 S7539 hS7539 hM7539
      dsimp only
      exact qs_tr (show (vs vi ve) _ _ from rfl) hS7539 hM7539
  · intro v7536 S7536 hS7536 hM7536
    dsimp only
    exact qs_tr (show (vs vi ve) _ _ from rfl) hS7536 hM7536
set_option maxRecDepth 20000 in
theorem qz_X11_address_J22 {P : Nat → Nat} {S : zm_S} {M : qm} {i1 : Int32} {qi1 : Int} {i2 : Int32} {qi2 : Int} (hS : Sh L xs P S) (hM : qM P S = M) (ei1 : i1.toInt = qi1) (ei2 : i2.toInt = qi2) : qs (zf_X11_address_J22 20000 6 i1 i2 S) (qf_X11_address_J22 20000 qi1 qi2 M) (tO (rr L xs P (vs vi ve))) := by
  unfold zf_X11_address_J22 qf_X11_address_J22
  exact (qz_X11_address_J23 hS hM ei1 ei2 k_0)
set_option maxRecDepth 20000 in
theorem qz_X11_address {P : Nat → Nat} {S : zm_S} {M : qm} {i1 : Int32} {qi1 : Int} {i2 : Int32} {qi2 : Int} (hS : Sh L xs P S) (hM : qM P S = M) (ei1 : i1.toInt = qi1) (ei2 : i2.toInt = qi2) : qs (zf_X11_address 20000 6 i1 i2 S) (qf_X11_address 20000 qi1 qi2 M) (tO (rr L xs P (vs vi ve))) := by
  unfold zf_X11_address qf_X11_address
  refine qs_bp (qz_X11_isStation hS hM ei1) (fun v7543 S7543 w7543 h7543 hS7543 hM7543 => ?_)
  refine qs_ite (c_eq h7543 k_0) ?_ ?_
  · exact (qz_X11_address_J22 hS7543 hM7543 ei1 ei2)
  · refine qs_bp (qz_X11_isWithin hS7543 hM7543 ei2 k_0 k_65535) (fun v7544 S7544 w7544 h7544 hS7544 hM7544 => ?_)
    refine qs_ite (c_eq h7544 k_0) ?_ ?_
    · exact (qz_X11_address_J22 hS7544 hM7544 ei1 ei2)
    · exact (qz_X11_address_J23 hS7544 hM7544 ei1 ei2 k_1)
set_option maxRecDepth 20000 in
theorem qz_L_address {P : Nat → Nat} {S : zm_S} {M : qm} {i1 : Int32} {qi1 : Int} {i2 : Int32} {qi2 : Int} (hS : Sh L xs P S) (hM : qM P S = M) (ei1 : i1.toInt = qi1) (ei2 : i2.toInt = qi2) : qs (zf_L_address 20000 6 i1 i2 2332 S) (qf_L_address 20000 qi1 qi2 M) (tO (rr L xs P vi)) := by
  unfold zf_L_address qf_L_address
  refine qs_zi hS pl_6 ts_6 ?_
  refine qs_xr (qz_X11_address hS hM ei1 ei2) ?_ ?_
  · intro v7547 S7547 w7547 M7547 h7547 hS7547 hM7547
    dsimp only
    refine qs_sl hS7547 hM7547 (pa_p hS7547 pl_2332 ts_2332) k_0 (by decide) (p_64 h7547) (fun S7548 M7548 hS7548 hM7548 => ?_)
    exact qs_tr (show vi _ _ from k_0) hS7548 hM7548
  · intro v7547 S7547 M7547 hS7547 hM7547
    dsimp only
    refine qs_ite Iff.rfl ?_ ?_
    · exact qs_tr (show vi _ _ from k_1) hS7547 hM7547
    · refine qs_ite Iff.rfl ?_ ?_
      · exact qs_tr (show vi _ _ from k_2) hS7547 hM7547
      · exact qs_none
set_option maxRecDepth 20000 in
theorem qz_X18_address_J25 {P : Nat → Nat} {S : zm_S} {M : qm} {i1 : Int32} {qi1 : Int} {i2 : Int32} {qi2 : Int} {t1 : Int32} {qt1 : Int} (hS : Sh L xs P S) (hM : qM P S = M) (ei1 : i1.toInt = qi1) (ei2 : i2.toInt = qi2) (et1 : t1.toInt = qt1) : qs (zf_X18_address_J25 20000 2156 i1 i2 2156 t1 S) (qf_X18_address_J25 20000 qi1 qi2 qt1 M) (tO (rr L xs P vi)) := by
  unfold zf_X18_address_J25 qf_X18_address_J25
  refine qs_gi hS hM pl_2156 ts_2156 (z := 1) rfl rfl (fun v7549 h7549 => ?_)
  refine qs_zi hS pl_2156 ts_2156 ?_
  refine qs_b (qz_X18_goes hS hM et1 h7549) (fun v7551 S7551 w7551 M7551 h7551 hS7551 hM7551 => ?_)
  refine qs_ite (c_eq h7551 k_0) ?_ ?_
  · exact qs_tr (show vi _ _ from k_0) hS7551 hM7551
  · refine qs_gr hS7551 pl_2156 ts_2156 rfl ?_
    refine qs_gr hS7551 pl_2252 ts_2252 rfl ?_
    refine qs_gd (fun g7555 => ?_)
    refine qs_xi hM7551 (pa_p hS7551 pl_2255 ts_2255) ei1 g7555 (fun v7554 h7554 => ?_)
    refine qs_gr hS7551 pl_2156 ts_2156 rfl ?_
    refine qs_gr hS7551 pl_2252 ts_2252 rfl ?_
    refine qs_gd (fun g7559 => ?_)
    refine qs_si hS7551 hM7551 (pa_p hS7551 pl_2255 ts_2255) ei1 g7559 ei2 (fun S7558 M7558 hS7558 hM7558 => ?_)
    exact qs_tr (show vi _ _ from h7554) hS7558 hM7558
set_option maxRecDepth 20000 in
theorem qz_X18_address_J24 {P : Nat → Nat} {S : zm_S} {M : qm} {i1 : Int32} {qi1 : Int} {i2 : Int32} {qi2 : Int} (hS : Sh L xs P S) (hM : qM P S = M) (ei1 : i1.toInt = qi1) (ei2 : i2.toInt = qi2) : qs (zf_X18_address_J24 20000 2156 i1 i2 2156 S) (qf_X18_address_J24 20000 qi1 qi2 M) (tO (rr L xs P vi)) := by
  unfold zf_X18_address_J24 qf_X18_address_J24
  exact (qz_X18_address_J25 hS hM ei1 ei2 k_0)
set_option maxRecDepth 20000 in
theorem qz_X18_address {P : Nat → Nat} {S : zm_S} {M : qm} {i1 : Int32} {qi1 : Int} {i2 : Int32} {qi2 : Int} (hS : Sh L xs P S) (hM : qM P S = M) (ei1 : i1.toInt = qi1) (ei2 : i2.toInt = qi2) : qs (zf_X18_address 20000 2156 i1 i2 S) (qf_X18_address 20000 qi1 qi2 M) (tO (rr L xs P vi)) := by
  unfold zf_X18_address qf_X18_address
  refine qs_bp (qz_X18_isIn hS hM ei1 k_8) (fun v7560 S7560 w7560 h7560 hS7560 hM7560 => ?_)
  refine qs_ite (c_eq h7560 k_0) ?_ ?_
  · exact (qz_X18_address_J24 hS7560 hM7560 ei1 ei2)
  · refine qs_bp (qz_X18_isIn hS7560 hM7560 ei2 k_65536) (fun v7561 S7561 w7561 h7561 hS7561 hM7561 => ?_)
    refine qs_ite (c_eq h7561 k_0) ?_ ?_
    · exact (qz_X18_address_J24 hS7561 hM7561 ei1 ei2)
    · exact (qz_X18_address_J25 hS7561 hM7561 ei1 ei2 k_1)
set_option maxRecDepth 20000 in
theorem qz_X18_listen_J25 {P : Nat → Nat} {S : zm_S} {M : qm} {i1 : Int32} {qi1 : Int} {i2 : Int32} {qi2 : Int} {i3 : Int32} {qi3 : Int} {t1 : Int32} {qt1 : Int} (hS : Sh L xs P S) (hM : qM P S = M) (ei1 : i1.toInt = qi1) (ei2 : i2.toInt = qi2) (ei3 : i3.toInt = qi3) (et1 : t1.toInt = qt1) : qs (zf_X18_listen_J25 20000 2156 i1 i2 i3 2156 t1 S) (qf_X18_listen_J25 20000 qi1 qi2 qi3 qt1 M) (tO (rr L xs P vi)) := by
  unfold zf_X18_listen_J25 qf_X18_listen_J25
  refine qs_gi hS hM pl_2156 ts_2156 (z := 1) rfl rfl (fun v7562 h7562 => ?_)
  refine qs_zi hS pl_2156 ts_2156 ?_
  refine qs_b (qz_X18_goes hS hM et1 h7562) (fun v7564 S7564 w7564 M7564 h7564 hS7564 hM7564 => ?_)
  refine qs_ite (c_eq h7564 k_0) ?_ ?_
  · exact qs_tr (show vi _ _ from k_0) hS7564 hM7564
  · refine qs_gr hS7564 pl_2156 ts_2156 rfl ?_
    refine qs_gr hS7564 pl_2252 ts_2252 rfl ?_
    refine qs_gd (fun g7568 => ?_)
    refine qs_xi hM7564 (pa_p hS7564 pl_2256 ts_2256) (p_add (p_mul k_256 ei1) ei2) g7568 (fun v7567 h7567 => ?_)
    refine qs_gr hS7564 pl_2156 ts_2156 rfl ?_
    refine qs_gr hS7564 pl_2252 ts_2252 rfl ?_
    refine qs_gd (fun g7572 => ?_)
    refine qs_sz hS7564 hM7564 (pa_p hS7564 pl_2256 ts_2256) (p_add (p_mul k_256 ei1) ei2) g7572.1 ei3 g7572.2 (fun S7571 M7571 hS7571 hM7571 => ?_)
    refine qs_ite (or_congr (c_eq h7567 k_0) (c_eq h7567 k_1)) ?_ ?_
    · exact qs_tr (show vi _ _ from h7567) hS7571 hM7571
    · exact qs_none
set_option maxRecDepth 20000 in
theorem qz_X18_listen_J24 {P : Nat → Nat} {S : zm_S} {M : qm} {i1 : Int32} {qi1 : Int} {i2 : Int32} {qi2 : Int} {i3 : Int32} {qi3 : Int} (hS : Sh L xs P S) (hM : qM P S = M) (ei1 : i1.toInt = qi1) (ei2 : i2.toInt = qi2) (ei3 : i3.toInt = qi3) : qs (zf_X18_listen_J24 20000 2156 i1 i2 i3 2156 S) (qf_X18_listen_J24 20000 qi1 qi2 qi3 M) (tO (rr L xs P vi)) := by
  unfold zf_X18_listen_J24 qf_X18_listen_J24
  exact (qz_X18_listen_J25 hS hM ei1 ei2 ei3 k_0)
set_option maxRecDepth 20000 in
theorem qz_X18_listen {P : Nat → Nat} {S : zm_S} {M : qm} {i1 : Int32} {qi1 : Int} {i2 : Int32} {qi2 : Int} {i3 : Int32} {qi3 : Int} (hS : Sh L xs P S) (hM : qM P S = M) (ei1 : i1.toInt = qi1) (ei2 : i2.toInt = qi2) (ei3 : i3.toInt = qi3) : qs (zf_X18_listen 20000 2156 i1 i2 i3 S) (qf_X18_listen 20000 qi1 qi2 qi3 M) (tO (rr L xs P vi)) := by
  unfold zf_X18_listen qf_X18_listen
  refine qs_bp (qz_X18_isIn hS hM ei1 k_8) (fun v7573 S7573 w7573 h7573 hS7573 hM7573 => ?_)
  refine qs_ite (c_eq h7573 k_0) ?_ ?_
  · exact (qz_X18_listen_J24 hS7573 hM7573 ei1 ei2 ei3)
  · refine qs_bp (qz_X18_isIn hS7573 hM7573 ei2 k_256) (fun v7574 S7574 w7574 h7574 hS7574 hM7574 => ?_)
    refine qs_ite (c_eq h7574 k_0) ?_ ?_
    · exact (qz_X18_listen_J24 hS7574 hM7574 ei1 ei2 ei3)
    · exact (qz_X18_listen_J25 hS7574 hM7574 ei1 ei2 ei3 k_1)
set_option maxRecDepth 20000 in
theorem qz_X1_setListening {P : Nat → Nat} {S : zm_S} {M : qm} {i1 : Int32} {qi1 : Int} {i2 : Int32} {qi2 : Int} {i3 : Int32} {qi3 : Int} (hS : Sh L xs P S) (hM : qM P S = M) (ei1 : i1.toInt = qi1) (ei2 : i2.toInt = qi2) (ei3 : i3.toInt = qi3) : qs (zf_X1_setListening 20000 1139 i1 i2 i3 S) (qf_X1_setListening 20000 qi1 qi2 qi3 M) (tO (rr L xs P vi)) := by
  unfold zf_X1_setListening qf_X1_setListening
  refine qs_gr hS pl_1139 ts_1139 rfl ?_
  refine qs_gd (fun g7577 => ?_)
  refine qs_xi hM (pa_p hS pl_1167 ts_1167) (p_add (p_mul ei1 k_256) ei2) g7577 (fun v7576 h7576 => ?_)
  refine qs_gr hS pl_1139 ts_1139 rfl ?_
  refine qs_gd (fun g7580 => ?_)
  refine qs_sz hS hM (pa_p hS pl_1167 ts_1167) (p_add (p_mul ei1 k_256) ei2) g7580.1 ei3 g7580.2 (fun S7579 M7579 hS7579 hM7579 => ?_)
  refine qs_ite (or_congr (c_eq h7576 k_0) (c_eq h7576 k_1)) ?_ ?_
  · exact qs_tr (show vi _ _ from h7576) hS7579 hM7579
  · exact qs_none
set_option maxRecDepth 20000 in
theorem qz_X11_listen_J23 {P : Nat → Nat} {S : zm_S} {M : qm} {i1 : Int32} {qi1 : Int} {i2 : Int32} {qi2 : Int} {i3 : Int32} {qi3 : Int} {t0 : Int32} {qt0 : Int} (hS : Sh L xs P S) (hM : qM P S = M) (ei1 : i1.toInt = qi1) (ei2 : i2.toInt = qi2) (ei3 : i3.toInt = qi3) (et0 : t0.toInt = qt0) : qs (zf_X11_listen_J23 20000 6 i1 i2 i3 t0 S) (qf_X11_listen_J23 20000 qi1 qi2 qi3 qt0 M) (tO (rr L xs P (vs vi ve))) := by
  unfold zf_X11_listen_J23 qf_X11_listen_J23
  refine qs_xp (qz_X11_needArgument hS hM et0) ?_ ?_
  · intro v7582 S7582 w7582 h7582 hS7582 hM7582
    dsimp only
    refine qs_gi hS7582 hM7582 pl_6 ts_6 (z := 11) rfl rfl (fun v7583 h7583 => ?_)
    refine qs_xp (qz_X11_needState hS7582 hM7582 h7583) ?_ ?_
    · intro v7585 S7585 w7585 h7585 hS7585 hM7585
      dsimp only
      refine qs_gr hS7585 pl_6 ts_6 rfl ?_
      refine qs_zi hS7585 pl_1139 ts_1139 ?_
      refine qs_b (qz_X1_setListening hS7585 hM7585 ei1 ei2 ei3) (fun v7588 S7588 w7588 M7588 h7588 hS7588 hM7588 => ?_)
      refine qs_ite (or_congr (c_eq h7588 k_0) (c_eq h7588 k_1)) ?_ ?_
      · exact qs_tr (show (vs vi ve) _ _ from h7588) hS7588 hM7588
      · exact qs_none
    · intro v7585 S7585 hS7585 hM7585
      dsimp only
      exact qs_tr (show (vs vi ve) _ _ from rfl) hS7585 hM7585
  · intro v7582 S7582 hS7582 hM7582
    dsimp only
    exact qs_tr (show (vs vi ve) _ _ from rfl) hS7582 hM7582
set_option maxRecDepth 20000 in
theorem qz_X11_listen_J22 {P : Nat → Nat} {S : zm_S} {M : qm} {i1 : Int32} {qi1 : Int} {i2 : Int32} {qi2 : Int} {i3 : Int32} {qi3 : Int} (hS : Sh L xs P S) (hM : qM P S = M) (ei1 : i1.toInt = qi1) (ei2 : i2.toInt = qi2) (ei3 : i3.toInt = qi3) : qs (zf_X11_listen_J22 20000 6 i1 i2 i3 S) (qf_X11_listen_J22 20000 qi1 qi2 qi3 M) (tO (rr L xs P (vs vi ve))) := by
  unfold zf_X11_listen_J22 qf_X11_listen_J22
  exact (qz_X11_listen_J23 hS hM ei1 ei2 ei3 k_0)
set_option maxRecDepth 20000 in
theorem qz_X11_listen {P : Nat → Nat} {S : zm_S} {M : qm} {i1 : Int32} {qi1 : Int} {i2 : Int32} {qi2 : Int} {i3 : Int32} {qi3 : Int} (hS : Sh L xs P S) (hM : qM P S = M) (ei1 : i1.toInt = qi1) (ei2 : i2.toInt = qi2) (ei3 : i3.toInt = qi3) : qs (zf_X11_listen 20000 6 i1 i2 i3 S) (qf_X11_listen 20000 qi1 qi2 qi3 M) (tO (rr L xs P (vs vi ve))) := by
  unfold zf_X11_listen qf_X11_listen
  refine qs_bp (qz_X11_isStation hS hM ei1) (fun v7589 S7589 w7589 h7589 hS7589 hM7589 => ?_)
  refine qs_ite (c_eq h7589 k_0) ?_ ?_
  · exact (qz_X11_listen_J22 hS7589 hM7589 ei1 ei2 ei3)
  · refine qs_bp (qz_X11_isWithin hS7589 hM7589 ei2 k_0 k_255) (fun v7590 S7590 w7590 h7590 hS7590 hM7590 => ?_)
    refine qs_ite (c_eq h7590 k_0) ?_ ?_
    · exact (qz_X11_listen_J22 hS7590 hM7590 ei1 ei2 ei3)
    · exact (qz_X11_listen_J23 hS7590 hM7590 ei1 ei2 ei3 k_1)
set_option maxRecDepth 20000 in
theorem qz_L_listen_J18 {P : Nat → Nat} {S : zm_S} {M : qm} {t1 : Int32} {qt1 : Int} {t2 : Int64} {qt2 : Int} (hS : Sh L xs P S) (hM : qM P S = M) (et1 : t1.toInt = qt1) (et2 : t2.toInt = qt2) : qs (zf_L_listen_J18 20000 2332 t1 t2 S) (qf_L_listen_J18 20000 qt1 qt2 M) (tO (rr L xs P vi)) := by
  unfold zf_L_listen_J18 qf_L_listen_J18
  refine qs_gd (fun g7592 => ?_)
  refine qs_sl hS hM (pa_p hS pl_2332 ts_2332) et1 g7592 et2 (fun S7591 M7591 hS7591 hM7591 => ?_)
  exact qs_tr (show vi _ _ from k_0) hS7591 hM7591
set_option maxRecDepth 20000 in
theorem qz_L_listen {P : Nat → Nat} {S : zm_S} {M : qm} {i1 : Int32} {qi1 : Int} {i2 : Int32} {qi2 : Int} {i3 : Int32} {qi3 : Int} (hS : Sh L xs P S) (hM : qM P S = M) (ei1 : i1.toInt = qi1) (ei2 : i2.toInt = qi2) (ei3 : i3.toInt = qi3) : qs (zf_L_listen 20000 6 i1 i2 i3 2332 S) (qf_L_listen 20000 qi1 qi2 qi3 M) (tO (rr L xs P vi)) := by
  unfold zf_L_listen qf_L_listen
  refine qs_zi hS pl_6 ts_6 ?_
  refine qs_xr (qz_X11_listen hS hM ei1 ei2 ei3) ?_ ?_
  · intro v7595 S7595 w7595 M7595 h7595 hS7595 hM7595
    dsimp only
    refine qs_ite (c_eq h7595 k_0) ?_ ?_
    · exact (qz_L_listen_J18 hS7595 hM7595 k_0 kl_0)
    · exact (qz_L_listen_J18 hS7595 hM7595 k_0 kl_1)
  · intro v7595 S7595 M7595 hS7595 hM7595
    dsimp only
    refine qs_ite Iff.rfl ?_ ?_
    · exact qs_tr (show vi _ _ from k_1) hS7595 hM7595
    · refine qs_ite Iff.rfl ?_ ?_
      · exact qs_tr (show vi _ _ from k_2) hS7595 hM7595
      · exact qs_none
set_option maxRecDepth 20000 in
theorem qz_X18_busy {P : Nat → Nat} {S : zm_S} {M : qm} {i1 : Int32} {qi1 : Int} {i2 : Int32} {qi2 : Int} (hS : Sh L xs P S) (hM : qM P S = M) (ei1 : i1.toInt = qi1) (ei2 : i2.toInt = qi2) : qs (zf_X18_busy 20000 2156 i1 i2 S) (qf_X18_busy 20000 qi1 qi2 M) (tO (rr L xs P vi)) := by
  unfold zf_X18_busy qf_X18_busy
  refine qs_bp (qz_X18_isIn hS hM ei1 k_8) (fun v7596 S7596 w7596 h7596 hS7596 hM7596 => ?_)
  refine qs_gi hS7596 hM7596 pl_2156 ts_2156 (z := 1) rfl rfl (fun v7597 h7597 => ?_)
  refine qs_zi hS7596 pl_2156 ts_2156 ?_
  refine qs_b (qz_X18_goes hS7596 hM7596 h7596 h7597) (fun v7599 S7599 w7599 M7599 h7599 hS7599 hM7599 => ?_)
  refine qs_ite (c_eq h7599 k_0) ?_ ?_
  · exact qs_tr (show vi _ _ from k_0) hS7599 hM7599
  · refine qs_gr hS7599 pl_2156 ts_2156 rfl ?_
    refine qs_gr hS7599 pl_2252 ts_2252 rfl ?_
    refine qs_gd (fun g7603 => ?_)
    refine qs_xi hM7599 (pa_p hS7599 pl_2257 ts_2257) ei1 g7603 (fun v7602 h7602 => ?_)
    refine qs_gr hS7599 pl_2156 ts_2156 rfl ?_
    refine qs_gr hS7599 pl_2252 ts_2252 rfl ?_
    refine qs_gd (fun g7607 => ?_)
    refine qs_sz hS7599 hM7599 (pa_p hS7599 pl_2257 ts_2257) ei1 g7607.1 ei2 g7607.2 (fun S7606 M7606 hS7606 hM7606 => ?_)
    refine qs_ite (or_congr (c_eq h7602 k_0) (c_eq h7602 k_1)) ?_ ?_
    · exact qs_tr (show vi _ _ from h7602) hS7606 hM7606
    · exact qs_none
set_option maxRecDepth 20000 in
theorem qz_X1_setBusy_J17 {P : Nat → Nat} {S : zm_S} {M : qm} {i1 : Int32} {qi1 : Int} {i2 : Int32} {qi2 : Int} {t0 : Int32} {qt0 : Int} (hS : Sh L xs P S) (hM : qM P S = M) (ei1 : i1.toInt = qi1) (ei2 : i2.toInt = qi2) (et0 : t0.toInt = qt0) : qs (zf_X1_setBusy_J17 20000 1139 i1 i2 t0 S) (qf_X1_setBusy_J17 20000 qi1 qi2 qt0 M) (tO (rr L xs P vi)) := by
  unfold zf_X1_setBusy_J17 qf_X1_setBusy_J17
  refine qs_gr hS pl_1139 ts_1139 rfl ?_
  refine qs_gd (fun g7610 => ?_)
  refine qs_xt hS pl_1140 ts_1140 (Or.inl rfl) ei1 g7610 (fun b7609 r7609 => ?_)
  refine qs_ite (c_eq ei2 k_0) ?_ ?_
  · refine qs_ysi hS hM qt_1140 tq_1140 r7609 k_7 (by decide) k_0 (fun S7611 M7611 hS7611 hM7611 => ?_)
    refine qs_ite (or_congr (c_eq et0 k_0) (c_eq et0 k_1)) ?_ ?_
    · exact qs_tr (show vi _ _ from et0) hS7611 hM7611
    · exact qs_none
  · refine qs_ysi hS hM qt_1140 tq_1140 r7609 k_7 (by decide) k_1 (fun S7612 M7612 hS7612 hM7612 => ?_)
    refine qs_ite (or_congr (c_eq et0 k_0) (c_eq et0 k_1)) ?_ ?_
    · exact qs_tr (show vi _ _ from et0) hS7612 hM7612
    · exact qs_none
set_option maxRecDepth 20000 in
theorem qz_X1_setBusy {P : Nat → Nat} {S : zm_S} {M : qm} {i1 : Int32} {qi1 : Int} {i2 : Int32} {qi2 : Int} (hS : Sh L xs P S) (hM : qM P S = M) (ei1 : i1.toInt = qi1) (ei2 : i2.toInt = qi2) : qs (zf_X1_setBusy 20000 1139 i1 i2 S) (qf_X1_setBusy 20000 qi1 qi2 M) (tO (rr L xs P vi)) := by
  unfold zf_X1_setBusy qf_X1_setBusy
  refine qs_gr hS pl_1139 ts_1139 rfl ?_
  refine qs_gd (fun g7615 => ?_)
  refine qs_xt hS pl_1140 ts_1140 (Or.inl rfl) ei1 g7615 (fun b7614 r7614 => ?_)
  refine qs_yi (j := 7) hS hM qt_1140 tq_1140 r7614 k_7 (by decide) (fun v7616 h7616 => ?_)
  refine qs_ite (c_eq h7616 k_0) ?_ ?_
  · exact (qz_X1_setBusy_J17 hS hM ei1 ei2 k_0)
  · exact (qz_X1_setBusy_J17 hS hM ei1 ei2 k_1)
set_option maxRecDepth 20000 in
theorem qz_X11_busy {P : Nat → Nat} {S : zm_S} {M : qm} {i1 : Int32} {qi1 : Int} {i2 : Int32} {qi2 : Int} (hS : Sh L xs P S) (hM : qM P S = M) (ei1 : i1.toInt = qi1) (ei2 : i2.toInt = qi2) : qs (zf_X11_busy 20000 6 i1 i2 S) (qf_X11_busy 20000 qi1 qi2 M) (tO (rr L xs P (vs vi ve))) := by
  unfold zf_X11_busy qf_X11_busy
  refine qs_bp (qz_X11_isStation hS hM ei1) (fun v7617 S7617 w7617 h7617 hS7617 hM7617 => ?_)
  refine qs_xp (qz_X11_needArgument hS7617 hM7617 h7617) ?_ ?_
  · intro v7619 S7619 w7619 h7619 hS7619 hM7619
    dsimp only
    refine qs_gi hS7619 hM7619 pl_6 ts_6 (z := 11) rfl rfl (fun v7620 h7620 => ?_)
    refine qs_xp (qz_X11_needState hS7619 hM7619 h7620) ?_ ?_
    · intro v7622 S7622 w7622 h7622 hS7622 hM7622
      dsimp only
      refine qs_gr hS7622 pl_6 ts_6 rfl ?_
      refine qs_zi hS7622 pl_1139 ts_1139 ?_
      refine qs_b (qz_X1_setBusy hS7622 hM7622 ei1 ei2) (fun v7625 S7625 w7625 M7625 h7625 hS7625 hM7625 => ?_)
      refine qs_ite (or_congr (c_eq h7625 k_0) (c_eq h7625 k_1)) ?_ ?_
      · exact qs_tr (show (vs vi ve) _ _ from h7625) hS7625 hM7625
      · exact qs_none
    · intro v7622 S7622 hS7622 hM7622
      dsimp only
      exact qs_tr (show (vs vi ve) _ _ from rfl) hS7622 hM7622
  · intro v7619 S7619 hS7619 hM7619
    dsimp only
    exact qs_tr (show (vs vi ve) _ _ from rfl) hS7619 hM7619
set_option maxRecDepth 20000 in
theorem qz_L_busy_J16 {P : Nat → Nat} {S : zm_S} {M : qm} {t1 : Int32} {qt1 : Int} {t2 : Int64} {qt2 : Int} (hS : Sh L xs P S) (hM : qM P S = M) (et1 : t1.toInt = qt1) (et2 : t2.toInt = qt2) : qs (zf_L_busy_J16 20000 2332 t1 t2 S) (qf_L_busy_J16 20000 qt1 qt2 M) (tO (rr L xs P vi)) := by
  unfold zf_L_busy_J16 qf_L_busy_J16
  refine qs_gd (fun g7627 => ?_)
  refine qs_sl hS hM (pa_p hS pl_2332 ts_2332) et1 g7627 et2 (fun S7626 M7626 hS7626 hM7626 => ?_)
  exact qs_tr (show vi _ _ from k_0) hS7626 hM7626
set_option maxRecDepth 20000 in
theorem qz_L_busy {P : Nat → Nat} {S : zm_S} {M : qm} {i1 : Int32} {qi1 : Int} {i2 : Int32} {qi2 : Int} (hS : Sh L xs P S) (hM : qM P S = M) (ei1 : i1.toInt = qi1) (ei2 : i2.toInt = qi2) : qs (zf_L_busy 20000 6 i1 i2 2332 S) (qf_L_busy 20000 qi1 qi2 M) (tO (rr L xs P vi)) := by
  unfold zf_L_busy qf_L_busy
  refine qs_zi hS pl_6 ts_6 ?_
  refine qs_xr (qz_X11_busy hS hM ei1 ei2) ?_ ?_
  · intro v7630 S7630 w7630 M7630 h7630 hS7630 hM7630
    dsimp only
    refine qs_ite (c_eq h7630 k_0) ?_ ?_
    · exact (qz_L_busy_J16 hS7630 hM7630 k_0 kl_0)
    · exact (qz_L_busy_J16 hS7630 hM7630 k_0 kl_1)
  · intro v7630 S7630 M7630 hS7630 hM7630
    dsimp only
    refine qs_ite Iff.rfl ?_ ?_
    · exact qs_tr (show vi _ _ from k_1) hS7630 hM7630
    · refine qs_ite Iff.rfl ?_ ?_
      · exact qs_tr (show vi _ _ from k_2) hS7630 hM7630
      · exact qs_none
set_option maxRecDepth 20000 in
theorem qz_X18_send_J103 {P : Nat → Nat} {S : zm_S} {M : qm} {i1 : Int32} {qi1 : Int} {i2 : Int32} {qi2 : Int} {i3 : Int32} {qi3 : Int} {i4 : Int32} {qi4 : Int} {i5 : Int32} {qi5 : Int} {i6 : Int32} {qi6 : Int} {t1 : Int32} {qt1 : Int} {t2 : Int32} {qt2 : Int} (hS : Sh L xs P S) (hM : qM P S = M) (ei1 : i1.toInt = qi1) (ei2 : i2.toInt = qi2) (ei3 : i3.toInt = qi3) (ei4 : i4.toInt = qi4) (ei5 : i5.toInt = qi5) (ei6 : i6.toInt = qi6) (et1 : t1.toInt = qt1) (et2 : t2.toInt = qt2) : qs (zf_X18_send_J103 20000 2156 i1 i2 i3 i4 i5 i6 2156 t1 t2 S) (qf_X18_send_J103 20000 qi1 qi2 qi3 qi4 qi5 qi6 qt1 qt2 M) (tO (rr L xs P vi)) := by
  unfold zf_X18_send_J103 qf_X18_send_J103
  refine qs_zi hS pl_2156 ts_2156 ?_
  refine qs_b (qz_X18_goes hS hM et1 et2) (fun v7632 S7632 w7632 M7632 h7632 hS7632 hM7632 => ?_)
  refine qs_ite (c_eq h7632 k_0) ?_ ?_
  · exact qs_tr (show vi _ _ from k_0) hS7632 hM7632
  · refine qs_gr hS7632 pl_2156 ts_2156 rfl ?_
    refine qs_zi hS7632 pl_2252 ts_2252 ?_
    refine qs_b (qz_X12_send hS7632 hM7632 ei1 ei2 ei3 ei4 ei5 ei6) (fun v7635 S7635 w7635 M7635 h7635 hS7635 hM7635 => ?_)
    exact qs_tr (show vi _ _ from h7635) hS7635 hM7635
set_option maxRecDepth 20000 in
theorem qz_X18_send_J102 {P : Nat → Nat} {S : zm_S} {M : qm} {i1 : Int32} {qi1 : Int} {i2 : Int32} {qi2 : Int} {i3 : Int32} {qi3 : Int} {i4 : Int32} {qi4 : Int} {i5 : Int32} {qi5 : Int} {i6 : Int32} {qi6 : Int} {t1 : Int32} {qt1 : Int} (hS : Sh L xs P S) (hM : qM P S = M) (ei1 : i1.toInt = qi1) (ei2 : i2.toInt = qi2) (ei3 : i3.toInt = qi3) (ei4 : i4.toInt = qi4) (ei5 : i5.toInt = qi5) (ei6 : i6.toInt = qi6) (et1 : t1.toInt = qt1) : qs (zf_X18_send_J102 20000 2156 i1 i2 i3 i4 i5 i6 2156 t1 S) (qf_X18_send_J102 20000 qi1 qi2 qi3 qi4 qi5 qi6 qt1 M) (tO (rr L xs P vi)) := by
  unfold zf_X18_send_J102 qf_X18_send_J102
  exact (qz_X18_send_J103 hS hM ei1 ei2 ei3 ei4 ei5 ei6 et1 k_0)
set_option maxRecDepth 20000 in
theorem qz_X18_send_J98 {P : Nat → Nat} {S : zm_S} {M : qm} {i1 : Int32} {qi1 : Int} {i2 : Int32} {qi2 : Int} {i3 : Int32} {qi3 : Int} {i4 : Int32} {qi4 : Int} {i5 : Int32} {qi5 : Int} {i6 : Int32} {qi6 : Int} {t1 : Int32} {qt1 : Int} (hS : Sh L xs P S) (hM : qM P S = M) (ei1 : i1.toInt = qi1) (ei2 : i2.toInt = qi2) (ei3 : i3.toInt = qi3) (ei4 : i4.toInt = qi4) (ei5 : i5.toInt = qi5) (ei6 : i6.toInt = qi6) (et1 : t1.toInt = qt1) : qs (zf_X18_send_J98 20000 2156 i1 i2 i3 i4 i5 i6 2156 t1 S) (qf_X18_send_J98 20000 qi1 qi2 qi3 qi4 qi5 qi6 qt1 M) (tO (rr L xs P vi)) := by
  unfold zf_X18_send_J98 qf_X18_send_J98
  exact (qz_X18_send_J103 hS hM ei1 ei2 ei3 ei4 ei5 ei6 et1 k_1)
set_option maxRecDepth 20000 in
theorem qz_X18_send_J67 {P : Nat → Nat} {S : zm_S} {M : qm} {i1 : Int32} {qi1 : Int} {i2 : Int32} {qi2 : Int} {i3 : Int32} {qi3 : Int} {i4 : Int32} {qi4 : Int} {i5 : Int32} {qi5 : Int} {i6 : Int32} {qi6 : Int} {t0 : Int32} {qt0 : Int} (hS : Sh L xs P S) (hM : qM P S = M) (ei1 : i1.toInt = qi1) (ei2 : i2.toInt = qi2) (ei3 : i3.toInt = qi3) (ei4 : i4.toInt = qi4) (ei5 : i5.toInt = qi5) (ei6 : i6.toInt = qi6) (et0 : t0.toInt = qt0) : qs (zf_X18_send_J67 20000 2156 i1 i2 i3 i4 i5 i6 t0 S) (qf_X18_send_J67 20000 qi1 qi2 qi3 qi4 qi5 qi6 qt0 M) (tO (rr L xs P vi)) := by
  unfold zf_X18_send_J67 qf_X18_send_J67
  refine qs_gi hS hM pl_2156 ts_2156 (z := 1) rfl rfl (fun v7636 h7636 => ?_)
  refine qs_ite (c_eq h7636 k_0) ?_ ?_
  · exact (qz_X18_send_J102 hS hM ei1 ei2 ei3 ei4 ei5 ei6 et0)
  · refine qs_ite (c_eq et0 k_0) ?_ ?_
    · exact (qz_X18_send_J98 hS hM ei1 ei2 ei3 ei4 ei5 ei6 et0)
    · refine qs_gr hS pl_2156 ts_2156 rfl ?_
      refine qs_gr hS pl_2252 ts_2252 rfl ?_
      refine qs_gd (fun g7640 => ?_)
      refine qs_xi hM (pa_p hS pl_2258 ts_2258) ei1 g7640 (fun v7639 h7639 => ?_)
      refine qs_ite (c_le k_6 h7639) ?_ ?_
      · exact (qz_X18_send_J102 hS hM ei1 ei2 ei3 ei4 ei5 ei6 et0)
      · exact (qz_X18_send_J98 hS hM ei1 ei2 ei3 ei4 ei5 ei6 et0)
set_option maxRecDepth 20000 in
theorem qz_X18_send_J66 {P : Nat → Nat} {S : zm_S} {M : qm} {i1 : Int32} {qi1 : Int} {i2 : Int32} {qi2 : Int} {i3 : Int32} {qi3 : Int} {i4 : Int32} {qi4 : Int} {i5 : Int32} {qi5 : Int} {i6 : Int32} {qi6 : Int} (hS : Sh L xs P S) (hM : qM P S = M) (ei1 : i1.toInt = qi1) (ei2 : i2.toInt = qi2) (ei3 : i3.toInt = qi3) (ei4 : i4.toInt = qi4) (ei5 : i5.toInt = qi5) (ei6 : i6.toInt = qi6) : qs (zf_X18_send_J66 20000 2156 i1 i2 i3 i4 i5 i6 S) (qf_X18_send_J66 20000 qi1 qi2 qi3 qi4 qi5 qi6 M) (tO (rr L xs P vi)) := by
  unfold zf_X18_send_J66 qf_X18_send_J66
  exact (qz_X18_send_J67 hS hM ei1 ei2 ei3 ei4 ei5 ei6 k_0)
set_option maxRecDepth 20000 in
theorem qz_X18_send_J32 {P : Nat → Nat} {S : zm_S} {M : qm} {i1 : Int32} {qi1 : Int} {i2 : Int32} {qi2 : Int} {i3 : Int32} {qi3 : Int} {i4 : Int32} {qi4 : Int} {i5 : Int32} {qi5 : Int} {i6 : Int32} {qi6 : Int} {t0 : Int32} {qt0 : Int} {t1 : Int32} {qt1 : Int} (hS : Sh L xs P S) (hM : qM P S = M) (ei1 : i1.toInt = qi1) (ei2 : i2.toInt = qi2) (ei3 : i3.toInt = qi3) (ei4 : i4.toInt = qi4) (ei5 : i5.toInt = qi5) (ei6 : i6.toInt = qi6) (et0 : t0.toInt = qt0) (et1 : t1.toInt = qt1) : qs (zf_X18_send_J32 20000 2156 i1 i2 i3 i4 i5 i6 t0 t1 S) (qf_X18_send_J32 20000 qi1 qi2 qi3 qi4 qi5 qi6 qt0 qt1 M) (tO (rr L xs P vi)) := by
  unfold zf_X18_send_J32 qf_X18_send_J32
  refine qs_bp (qz_X18_isIn hS hM et0 et1) (fun v7641 S7641 w7641 h7641 hS7641 hM7641 => ?_)
  refine qs_ite (c_eq h7641 k_0) ?_ ?_
  · exact (qz_X18_send_J66 hS7641 hM7641 ei1 ei2 ei3 ei4 ei5 ei6)
  · refine qs_ite (c_lt ei5 k_1) ?_ ?_
    · exact (qz_X18_send_J66 hS7641 hM7641 ei1 ei2 ei3 ei4 ei5 ei6)
    · refine qs_ite (c_lt k_14 ei5) ?_ ?_
      · exact (qz_X18_send_J66 hS7641 hM7641 ei1 ei2 ei3 ei4 ei5 ei6)
      · refine qs_bp (qz_X18_isIn hS7641 hM7641 ei6 k_256) (fun v7642 S7642 w7642 h7642 hS7642 hM7642 => ?_)
        refine qs_ite (c_eq h7642 k_0) ?_ ?_
        · exact (qz_X18_send_J66 hS7642 hM7642 ei1 ei2 ei3 ei4 ei5 ei6)
        · exact (qz_X18_send_J67 hS7642 hM7642 ei1 ei2 ei3 ei4 ei5 ei6 k_1)
set_option maxRecDepth 20000 in
theorem qz_X18_send {P : Nat → Nat} {S : zm_S} {M : qm} {i1 : Int32} {qi1 : Int} {i2 : Int32} {qi2 : Int} {i3 : Int32} {qi3 : Int} {i4 : Int32} {qi4 : Int} {i5 : Int32} {qi5 : Int} {i6 : Int32} {qi6 : Int} (hS : Sh L xs P S) (hM : qM P S = M) (ei1 : i1.toInt = qi1) (ei2 : i2.toInt = qi2) (ei3 : i3.toInt = qi3) (ei4 : i4.toInt = qi4) (ei5 : i5.toInt = qi5) (ei6 : i6.toInt = qi6) : qs (zf_X18_send 20000 2156 i1 i2 i3 i4 i5 i6 S) (qf_X18_send 20000 qi1 qi2 qi3 qi4 qi5 qi6 M) (tO (rr L xs P vi)) := by
  unfold zf_X18_send qf_X18_send
  refine qs_bp (qz_X18_isIn hS hM ei1 k_8) (fun v7643 S7643 w7643 h7643 hS7643 hM7643 => ?_)
  refine qs_ite (c_eq h7643 k_0) ?_ ?_
  · exact (qz_X18_send_J66 hS7643 hM7643 ei1 ei2 ei3 ei4 ei5 ei6)
  · refine qs_bp (qz_X18_isIn hS7643 hM7643 ei2 k_4) (fun v7644 S7644 w7644 h7644 hS7644 hM7644 => ?_)
    refine qs_ite (c_eq h7644 k_0) ?_ ?_
    · exact (qz_X18_send_J66 hS7644 hM7644 ei1 ei2 ei3 ei4 ei5 ei6)
    · refine qs_ite (c_eq ei4 k_0) ?_ ?_
      · exact (qz_X18_send_J32 hS7644 hM7644 ei1 ei2 ei3 ei4 ei5 ei6 ei3 k_65536)
      · exact (qz_X18_send_J32 hS7644 hM7644 ei1 ei2 ei3 ei4 ei5 ei6 ei3 k_256)
set_option maxRecDepth 20000 in
theorem qz_X11_send_J100 {P : Nat → Nat} {S : zm_S} {M : qm} {i1 : Int32} {qi1 : Int} {i2 : Int32} {qi2 : Int} {i3 : Int32} {qi3 : Int} {i4 : Int32} {qi4 : Int} {i5 : Int32} {qi5 : Int} {i6 : Int32} {qi6 : Int} {t0 : Int32} {qt0 : Int} (hS : Sh L xs P S) (hM : qM P S = M) (ei1 : i1.toInt = qi1) (ei2 : i2.toInt = qi2) (ei3 : i3.toInt = qi3) (ei4 : i4.toInt = qi4) (ei5 : i5.toInt = qi5) (ei6 : i6.toInt = qi6) (et0 : t0.toInt = qt0) : qs (zf_X11_send_J100 20000 6 i1 i2 i3 i4 i5 i6 t0 S) (qf_X11_send_J100 20000 qi1 qi2 qi3 qi4 qi5 qi6 qt0 M) (tO (rr L xs P (vs vi ve))) := by
  unfold zf_X11_send_J100 qf_X11_send_J100
  refine qs_xp (qz_X11_needState hS hM et0) ?_ ?_
  · intro v7646 S7646 w7646 h7646 hS7646 hM7646
    dsimp only
    refine qs_gr hS7646 pl_6 ts_6 rfl ?_
    refine qs_zi hS7646 pl_1139 ts_1139 ?_
    refine qs_b (qz_X1_enqueue hS7646 hM7646 ei1 ei2 ei3 ei4 ei5 ei6) (fun v7649 S7649 w7649 M7649 h7649 hS7649 hM7649 => ?_)
    exact qs_tr (show (vs vi ve) _ _ from h7649) hS7649 hM7649
  · intro v7646 S7646 hS7646 hM7646
    dsimp only
    exact qs_tr (show (vs vi ve) _ _ from rfl) hS7646 hM7646
set_option maxRecDepth 20000 in
theorem qz_X11_send_J99 {P : Nat → Nat} {S : zm_S} {M : qm} {i1 : Int32} {qi1 : Int} {i2 : Int32} {qi2 : Int} {i3 : Int32} {qi3 : Int} {i4 : Int32} {qi4 : Int} {i5 : Int32} {qi5 : Int} {i6 : Int32} {qi6 : Int} (hS : Sh L xs P S) (hM : qM P S = M) (ei1 : i1.toInt = qi1) (ei2 : i2.toInt = qi2) (ei3 : i3.toInt = qi3) (ei4 : i4.toInt = qi4) (ei5 : i5.toInt = qi5) (ei6 : i6.toInt = qi6) : qs (zf_X11_send_J99 20000 6 i1 i2 i3 i4 i5 i6 S) (qf_X11_send_J99 20000 qi1 qi2 qi3 qi4 qi5 qi6 M) (tO (rr L xs P (vs vi ve))) := by
  unfold zf_X11_send_J99 qf_X11_send_J99
  exact (qz_X11_send_J100 hS hM ei1 ei2 ei3 ei4 ei5 ei6 k_0)
set_option maxRecDepth 20000 in
theorem qz_X11_send_J74 {P : Nat → Nat} {S : zm_S} {M : qm} {i1 : Int32} {qi1 : Int} {i2 : Int32} {qi2 : Int} {i3 : Int32} {qi3 : Int} {i4 : Int32} {qi4 : Int} {i5 : Int32} {qi5 : Int} {i6 : Int32} {qi6 : Int} {t0 : Int32} {qt0 : Int} (hS : Sh L xs P S) (hM : qM P S = M) (ei1 : i1.toInt = qi1) (ei2 : i2.toInt = qi2) (ei3 : i3.toInt = qi3) (ei4 : i4.toInt = qi4) (ei5 : i5.toInt = qi5) (ei6 : i6.toInt = qi6) (et0 : t0.toInt = qt0) : qs (zf_X11_send_J74 20000 6 i1 i2 i3 i4 i5 i6 t0 S) (qf_X11_send_J74 20000 qi1 qi2 qi3 qi4 qi5 qi6 qt0 M) (tO (rr L xs P (vs vi ve))) := by
  unfold zf_X11_send_J74 qf_X11_send_J74
  refine qs_xp (qz_X11_needArgument hS hM et0) ?_ ?_
  · intro v7651 S7651 w7651 h7651 hS7651 hM7651
    dsimp only
    refine qs_gi hS7651 hM7651 pl_6 ts_6 (z := 11) rfl rfl (fun v7652 h7652 => ?_)
    refine qs_ite (c_eq h7652 k_0) ?_ ?_
    · exact (qz_X11_send_J99 hS7651 hM7651 ei1 ei2 ei3 ei4 ei5 ei6)
    · refine qs_gr hS7651 pl_6 ts_6 rfl ?_
      refine qs_zi hS7651 pl_1139 ts_1139 ?_
      refine qs_bp (qz_X1_hasRoomInQueue hS7651 hM7651 ei1) (fun v7655 S7655 w7655 h7655 hS7655 hM7655 => ?_)
      refine qs_ite (c_eq h7655 k_0) ?_ ?_
      · exact (qz_X11_send_J99 hS7655 hM7655 ei1 ei2 ei3 ei4 ei5 ei6)
      · exact (qz_X11_send_J100 hS7655 hM7655 ei1 ei2 ei3 ei4 ei5 ei6 k_1)
  · intro v7651 S7651 hS7651 hM7651
    dsimp only
    exact qs_tr (show (vs vi ve) _ _ from rfl) hS7651 hM7651
set_option maxRecDepth 20000 in
theorem qz_X11_send_J73 {P : Nat → Nat} {S : zm_S} {M : qm} {i1 : Int32} {qi1 : Int} {i2 : Int32} {qi2 : Int} {i3 : Int32} {qi3 : Int} {i4 : Int32} {qi4 : Int} {i5 : Int32} {qi5 : Int} {i6 : Int32} {qi6 : Int} (hS : Sh L xs P S) (hM : qM P S = M) (ei1 : i1.toInt = qi1) (ei2 : i2.toInt = qi2) (ei3 : i3.toInt = qi3) (ei4 : i4.toInt = qi4) (ei5 : i5.toInt = qi5) (ei6 : i6.toInt = qi6) : qs (zf_X11_send_J73 20000 6 i1 i2 i3 i4 i5 i6 S) (qf_X11_send_J73 20000 qi1 qi2 qi3 qi4 qi5 qi6 M) (tO (rr L xs P (vs vi ve))) := by
  unfold zf_X11_send_J73 qf_X11_send_J73
  exact (qz_X11_send_J74 hS hM ei1 ei2 ei3 ei4 ei5 ei6 k_0)
set_option maxRecDepth 20000 in
theorem qz_X11_send_J43 {P : Nat → Nat} {S : zm_S} {M : qm} {i1 : Int32} {qi1 : Int} {i2 : Int32} {qi2 : Int} {i3 : Int32} {qi3 : Int} {i4 : Int32} {qi4 : Int} {i5 : Int32} {qi5 : Int} {i6 : Int32} {qi6 : Int} {t0 : Int32} {qt0 : Int} (hS : Sh L xs P S) (hM : qM P S = M) (ei1 : i1.toInt = qi1) (ei2 : i2.toInt = qi2) (ei3 : i3.toInt = qi3) (ei4 : i4.toInt = qi4) (ei5 : i5.toInt = qi5) (ei6 : i6.toInt = qi6) (et0 : t0.toInt = qt0) : qs (zf_X11_send_J43 20000 6 i1 i2 i3 i4 i5 i6 t0 S) (qf_X11_send_J43 20000 qi1 qi2 qi3 qi4 qi5 qi6 qt0 M) (tO (rr L xs P (vs vi ve))) := by
  unfold zf_X11_send_J43 qf_X11_send_J43
  refine qs_xp (qz_X11_needArgument hS hM et0) ?_ ?_
  · intro v7657 S7657 w7657 h7657 hS7657 hM7657
    dsimp only
    refine qs_bp (qz_X11_isWithin hS7657 hM7657 ei5 k_1 k_14) (fun v7658 S7658 w7658 h7658 hS7658 hM7658 => ?_)
    refine qs_ite (c_eq h7658 k_0) ?_ ?_
    · exact (qz_X11_send_J73 hS7658 hM7658 ei1 ei2 ei3 ei4 ei5 ei6)
    · refine qs_bp (qz_X11_isWithin hS7658 hM7658 ei6 k_0 k_255) (fun v7659 S7659 w7659 h7659 hS7659 hM7659 => ?_)
      refine qs_ite (c_eq h7659 k_0) ?_ ?_
      · exact (qz_X11_send_J73 hS7659 hM7659 ei1 ei2 ei3 ei4 ei5 ei6)
      · exact (qz_X11_send_J74 hS7659 hM7659 ei1 ei2 ei3 ei4 ei5 ei6 k_1)
  · intro v7657 S7657 hS7657 hM7657
    dsimp only
    exact qs_tr (show (vs vi ve) _ _ from rfl) hS7657 hM7657
set_option maxRecDepth 20000 in
theorem qz_X11_send_J42 {P : Nat → Nat} {S : zm_S} {M : qm} {i1 : Int32} {qi1 : Int} {i2 : Int32} {qi2 : Int} {i3 : Int32} {qi3 : Int} {i4 : Int32} {qi4 : Int} {i5 : Int32} {qi5 : Int} {i6 : Int32} {qi6 : Int} (hS : Sh L xs P S) (hM : qM P S = M) (ei1 : i1.toInt = qi1) (ei2 : i2.toInt = qi2) (ei3 : i3.toInt = qi3) (ei4 : i4.toInt = qi4) (ei5 : i5.toInt = qi5) (ei6 : i6.toInt = qi6) : qs (zf_X11_send_J42 20000 6 i1 i2 i3 i4 i5 i6 S) (qf_X11_send_J42 20000 qi1 qi2 qi3 qi4 qi5 qi6 M) (tO (rr L xs P (vs vi ve))) := by
  unfold zf_X11_send_J42 qf_X11_send_J42
  exact (qz_X11_send_J43 hS hM ei1 ei2 ei3 ei4 ei5 ei6 k_0)
set_option maxRecDepth 20000 in
theorem qz_X11_send_J32 {P : Nat → Nat} {S : zm_S} {M : qm} {i1 : Int32} {qi1 : Int} {i2 : Int32} {qi2 : Int} {i3 : Int32} {qi3 : Int} {i4 : Int32} {qi4 : Int} {i5 : Int32} {qi5 : Int} {i6 : Int32} {qi6 : Int} {t0 : Int32} {qt0 : Int} {t1 : Int32} {qt1 : Int} {t2 : Int32} {qt2 : Int} (hS : Sh L xs P S) (hM : qM P S = M) (ei1 : i1.toInt = qi1) (ei2 : i2.toInt = qi2) (ei3 : i3.toInt = qi3) (ei4 : i4.toInt = qi4) (ei5 : i5.toInt = qi5) (ei6 : i6.toInt = qi6) (et0 : t0.toInt = qt0) (et1 : t1.toInt = qt1) (et2 : t2.toInt = qt2) : qs (zf_X11_send_J32 20000 6 i1 i2 i3 i4 i5 i6 t0 t1 t2 S) (qf_X11_send_J32 20000 qi1 qi2 qi3 qi4 qi5 qi6 qt0 qt1 qt2 M) (tO (rr L xs P (vs vi ve))) := by
  unfold zf_X11_send_J32 qf_X11_send_J32
  refine qs_bp (qz_X11_isWithin hS hM et0 et1 et2) (fun v7660 S7660 w7660 h7660 hS7660 hM7660 => ?_)
  refine qs_ite (c_eq h7660 k_0) ?_ ?_
  · exact (qz_X11_send_J42 hS7660 hM7660 ei1 ei2 ei3 ei4 ei5 ei6)
  · exact (qz_X11_send_J43 hS7660 hM7660 ei1 ei2 ei3 ei4 ei5 ei6 k_1)
set_option maxRecDepth 20000 in
theorem qz_X11_send {P : Nat → Nat} {S : zm_S} {M : qm} {i1 : Int32} {qi1 : Int} {i2 : Int32} {qi2 : Int} {i3 : Int32} {qi3 : Int} {i4 : Int32} {qi4 : Int} {i5 : Int32} {qi5 : Int} {i6 : Int32} {qi6 : Int} (hS : Sh L xs P S) (hM : qM P S = M) (ei1 : i1.toInt = qi1) (ei2 : i2.toInt = qi2) (ei3 : i3.toInt = qi3) (ei4 : i4.toInt = qi4) (ei5 : i5.toInt = qi5) (ei6 : i6.toInt = qi6) : qs (zf_X11_send 20000 6 i1 i2 i3 i4 i5 i6 S) (qf_X11_send 20000 qi1 qi2 qi3 qi4 qi5 qi6 M) (tO (rr L xs P (vs vi ve))) := by
  unfold zf_X11_send qf_X11_send
  refine qs_bp (qz_X11_isStation hS hM ei1) (fun v7661 S7661 w7661 h7661 hS7661 hM7661 => ?_)
  refine qs_ite (c_eq h7661 k_0) ?_ ?_
  · exact (qz_X11_send_J42 hS7661 hM7661 ei1 ei2 ei3 ei4 ei5 ei6)
  · refine qs_bp (qz_X11_isWithin hS7661 hM7661 ei2 k_0 k_3) (fun v7662 S7662 w7662 h7662 hS7662 hM7662 => ?_)
    refine qs_ite (c_eq h7662 k_0) ?_ ?_
    · exact (qz_X11_send_J42 hS7662 hM7662 ei1 ei2 ei3 ei4 ei5 ei6)
    · refine qs_ite (c_eq ei4 k_0) ?_ ?_
      · exact (qz_X11_send_J32 hS7662 hM7662 ei1 ei2 ei3 ei4 ei5 ei6 ei3 k_0 k_65535)
      · exact (qz_X11_send_J32 hS7662 hM7662 ei1 ei2 ei3 ei4 ei5 ei6 ei3 k_0 k_255)
set_option maxRecDepth 20000 in
theorem qz_L_send {P : Nat → Nat} {S : zm_S} {M : qm} {i1 : Int32} {qi1 : Int} {i2 : Int32} {qi2 : Int} {i3 : Int32} {qi3 : Int} {i4 : Int32} {qi4 : Int} {i5 : Int32} {qi5 : Int} {i6 : Int32} {qi6 : Int} (hS : Sh L xs P S) (hM : qM P S = M) (ei1 : i1.toInt = qi1) (ei2 : i2.toInt = qi2) (ei3 : i3.toInt = qi3) (ei4 : i4.toInt = qi4) (ei5 : i5.toInt = qi5) (ei6 : i6.toInt = qi6) : qs (zf_L_send 20000 6 i1 i2 i3 i4 i5 i6 2332 S) (qf_L_send 20000 qi1 qi2 qi3 qi4 qi5 qi6 M) (tO (rr L xs P vi)) := by
  unfold zf_L_send qf_L_send
  refine qs_zi hS pl_6 ts_6 ?_
  refine qs_xr (qz_X11_send hS hM ei1 ei2 ei3 ei4 ei5 ei6) ?_ ?_
  · intro v7665 S7665 w7665 M7665 h7665 hS7665 hM7665
    dsimp only
    refine qs_sl hS7665 hM7665 (pa_p hS7665 pl_2332 ts_2332) k_0 (by decide) (p_64 h7665) (fun S7666 M7666 hS7666 hM7666 => ?_)
    exact qs_tr (show vi _ _ from k_0) hS7666 hM7666
  · intro v7665 S7665 M7665 hS7665 hM7665
    dsimp only
    refine qs_ite Iff.rfl ?_ ?_
    · exact qs_tr (show vi _ _ from k_1) hS7665 hM7665
    · refine qs_ite Iff.rfl ?_ ?_
      · exact qs_tr (show vi _ _ from k_2) hS7665 hM7665
      · exact qs_none
set_option maxRecDepth 20000 in
theorem qz_X1_addDisturbance {P : Nat → Nat} {S : zm_S} {M : qm} {i1 : Int32} {qi1 : Int} (hS : Sh L xs P S) (hM : qM P S = M) (ei1 : i1.toInt = qi1) : qs (zf_X1_addDisturbance 20000 1139 i1 S) (qf_X1_addDisturbance 20000 qi1 M) (tO (rr L xs P vi)) := by
  unfold zf_X1_addDisturbance qf_X1_addDisturbance
  refine qs_gi hS hM pl_1139 ts_1139 (z := 5) rfl rfl (fun v7667 h7667 => ?_)
  refine qs_gr hS pl_1139 ts_1139 rfl ?_
  refine qs_n (pa_p hS pl_1168 ts_1168) (by decide) (x := 2001) (by decide) (fun v7669 h7669 => ?_)
  refine qs_ite (cN_eq (x := 2001) (y := 0) h7669 k_0) ?_ ?_
  · exact qs_none
  · refine qs_gr hS pl_1139 ts_1139 rfl ?_
    refine qs_gd (fun g7672 => ?_)
    refine qs_xi hM (pa_p hS pl_1168 ts_1168) (p_mod (p_add h7667 ei1) h7669) g7672 (fun v7671 h7671 => ?_)
    refine qs_ite (c_eq h7671 k_0) ?_ ?_
    · refine qs_gr hS pl_1139 ts_1139 rfl ?_
      refine qs_gd (fun g7675 => ?_)
      refine qs_sz hS hM (pa_p hS pl_1168 ts_1168) (p_mod (p_add h7667 ei1) h7669) g7675 k_1 (by decide) (fun S7674 M7674 hS7674 hM7674 => ?_)
      refine qs_gi hS7674 hM7674 pl_1139 ts_1139 (z := 8) rfl rfl (fun v7676 h7676 => ?_)
      refine qs_pi hS7674 hM7674 pl_1139 ts_1139 (z := 8) rfl rfl (p_add h7676 k_1) (fun S7677 M7677 hS7677 hM7677 => ?_)
      exact qs_tr (show vi _ _ from k_1) hS7677 hM7677
    · exact qs_tr (show vi _ _ from k_0) hS hM
set_option maxRecDepth 20000 in
theorem qz_X11_disturb_J35 {P : Nat → Nat} {S : zm_S} {M : qm} {i1 : Int32} {qi1 : Int} {t0 : Int32} {qt0 : Int} (hS : Sh L xs P S) (hM : qM P S = M) (ei1 : i1.toInt = qi1) (et0 : t0.toInt = qt0) : qs (zf_X11_disturb_J35 20000 6 i1 t0 S) (qf_X11_disturb_J35 20000 qi1 qt0 M) (tO (rr L xs P (vs vi ve))) := by
  unfold zf_X11_disturb_J35 qf_X11_disturb_J35
  refine qs_xp (qz_X11_needState hS hM et0) ?_ ?_
  · intro v7679 S7679 w7679 h7679 hS7679 hM7679
    dsimp only
    refine qs_gr hS7679 pl_6 ts_6 rfl ?_
    refine qs_zi hS7679 pl_1139 ts_1139 ?_
    refine qs_b (qz_X1_addDisturbance hS7679 hM7679 ei1) (fun v7682 S7682 w7682 M7682 h7682 hS7682 hM7682 => ?_)
    refine qs_ite (or_congr (c_eq h7682 k_0) (c_eq h7682 k_1)) ?_ ?_
    · exact qs_tr (show (vs vi ve) _ _ from h7682) hS7682 hM7682
    · exact qs_none
  · intro v7679 S7679 hS7679 hM7679
    dsimp only
    exact qs_tr (show (vs vi ve) _ _ from rfl) hS7679 hM7679
set_option maxRecDepth 20000 in
theorem qz_X11_disturb_J34 {P : Nat → Nat} {S : zm_S} {M : qm} {i1 : Int32} {qi1 : Int} (hS : Sh L xs P S) (hM : qM P S = M) (ei1 : i1.toInt = qi1) : qs (zf_X11_disturb_J34 20000 6 i1 S) (qf_X11_disturb_J34 20000 qi1 M) (tO (rr L xs P (vs vi ve))) := by
  unfold zf_X11_disturb_J34 qf_X11_disturb_J34
  exact (qz_X11_disturb_J35 hS hM ei1 k_0)
set_option maxRecDepth 20000 in
theorem qz_X11_disturb {P : Nat → Nat} {S : zm_S} {M : qm} {i1 : Int32} {qi1 : Int} (hS : Sh L xs P S) (hM : qM P S = M) (ei1 : i1.toInt = qi1) : qs (zf_X11_disturb 20000 6 i1 S) (qf_X11_disturb 20000 qi1 M) (tO (rr L xs P (vs vi ve))) := by
  unfold zf_X11_disturb qf_X11_disturb
  refine qs_bp (qz_X11_isWithin hS hM ei1 k_1 k_2000) (fun v7683 S7683 w7683 h7683 hS7683 hM7683 => ?_)
  refine qs_xp (qz_X11_needArgument hS7683 hM7683 h7683) ?_ ?_
  · intro v7685 S7685 w7685 h7685 hS7685 hM7685
    dsimp only
    refine qs_gi hS7685 hM7685 pl_6 ts_6 (z := 11) rfl rfl (fun v7686 h7686 => ?_)
    refine qs_ite (c_eq h7686 k_0) ?_ ?_
    · exact (qz_X11_disturb_J34 hS7685 hM7685 ei1)
    · refine qs_gr hS7685 pl_6 ts_6 rfl ?_
      refine qs_gi hS7685 hM7685 pl_1139 ts_1139 (z := 8) rfl rfl (fun v7688 h7688 => ?_)
      refine qs_ite (c_le k_50 h7688) ?_ ?_
      · exact (qz_X11_disturb_J34 hS7685 hM7685 ei1)
      · exact (qz_X11_disturb_J35 hS7685 hM7685 ei1 k_1)
  · intro v7685 S7685 hS7685 hM7685
    dsimp only
    exact qs_tr (show (vs vi ve) _ _ from rfl) hS7685 hM7685
set_option maxRecDepth 20000 in
theorem qz_L_disturb_J15 {P : Nat → Nat} {S : zm_S} {M : qm} {t1 : Int32} {qt1 : Int} {t2 : Int64} {qt2 : Int} (hS : Sh L xs P S) (hM : qM P S = M) (et1 : t1.toInt = qt1) (et2 : t2.toInt = qt2) : qs (zf_L_disturb_J15 20000 2332 t1 t2 S) (qf_L_disturb_J15 20000 qt1 qt2 M) (tO (rr L xs P vi)) := by
  unfold zf_L_disturb_J15 qf_L_disturb_J15
  refine qs_gd (fun g7690 => ?_)
  refine qs_sl hS hM (pa_p hS pl_2332 ts_2332) et1 g7690 et2 (fun S7689 M7689 hS7689 hM7689 => ?_)
  exact qs_tr (show vi _ _ from k_0) hS7689 hM7689
set_option maxRecDepth 20000 in
theorem qz_L_disturb {P : Nat → Nat} {S : zm_S} {M : qm} {i1 : Int32} {qi1 : Int} (hS : Sh L xs P S) (hM : qM P S = M) (ei1 : i1.toInt = qi1) : qs (zf_L_disturb 20000 6 i1 2332 S) (qf_L_disturb 20000 qi1 M) (tO (rr L xs P vi)) := by
  unfold zf_L_disturb qf_L_disturb
  refine qs_zi hS pl_6 ts_6 ?_
  refine qs_xr (qz_X11_disturb hS hM ei1) ?_ ?_
  · intro v7693 S7693 w7693 M7693 h7693 hS7693 hM7693
    dsimp only
    refine qs_ite (c_eq h7693 k_0) ?_ ?_
    · exact (qz_L_disturb_J15 hS7693 hM7693 k_0 kl_0)
    · exact (qz_L_disturb_J15 hS7693 hM7693 k_0 kl_1)
  · intro v7693 S7693 M7693 hS7693 hM7693
    dsimp only
    refine qs_ite Iff.rfl ?_ ?_
    · exact qs_tr (show vi _ _ from k_1) hS7693 hM7693
    · refine qs_ite Iff.rfl ?_ ?_
      · exact qs_tr (show vi _ _ from k_2) hS7693 hM7693
      · exact qs_none
set_option maxRecDepth 20000 in
theorem qz_X12_disturb_J46 {P : Nat → Nat} {S : zm_S} {M : qm} {i2 : Int32} {qi2 : Int} {t1 : Int32} {qt1 : Int} {t2 : Int32} {qt2 : Int} (hS : Sh L xs P S) (hM : qM P S = M) (ei2 : i2.toInt = qi2) (et1 : t1.toInt = qt1) (et2 : t2.toInt = qt2) : qs (zf_X12_disturb_J46 20000 i2 2252 t1 t2 S) (qf_X12_disturb_J46 20000 qi2 qt1 qt2 M) (tO (rr L xs P vi)) := by
  unfold zf_X12_disturb_J46 qf_X12_disturb_J46
  refine qs_pi hS hM pl_2252 ts_2252 (z := 3) rfl rfl (p_add et1 et2) (fun S7694 M7694 hS7694 hM7694 => ?_)
  refine qs_ite (or_congr (c_eq ei2 k_0) (c_eq ei2 k_1)) ?_ ?_
  · exact qs_tr (show vi _ _ from ei2) hS7694 hM7694
  · exact qs_none
set_option maxRecDepth 20000 in
theorem qz_X12_disturb_J19 {P : Nat → Nat} {S : zm_S} {M : qm} {i1 : Int32} {qi1 : Int} {t0 : Int32} {qt0 : Int} (hS : Sh L xs P S) (hM : qM P S = M) (ei1 : i1.toInt = qi1) (et0 : t0.toInt = qt0) : qs (zf_X12_disturb_J19 20000 2252 i1 t0 S) (qf_X12_disturb_J19 20000 qi1 qt0 M) (tO (rr L xs P vi)) := by
  unfold zf_X12_disturb_J19 qf_X12_disturb_J19
  refine qs_gr hS pl_2252 ts_2252 rfl ?_
  refine qs_gi hS hM pl_2252 ts_2252 (z := 0) rfl rfl (fun v7696 h7696 => ?_)
  refine qs_gd (fun g7698 => ?_)
  refine qs_sz hS hM (pa_p hS pl_2254 ts_2254) (p_add h7696 ei1) g7698 k_1 (by decide) (fun S7697 M7697 hS7697 hM7697 => ?_)
  refine qs_gi hS7697 hM7697 pl_2252 ts_2252 (z := 3) rfl rfl (fun v7699 h7699 => ?_)
  refine qs_ite (c_eq et0 k_0) ?_ ?_
  · exact (qz_X12_disturb_J46 hS7697 hM7697 et0 h7699 k_0)
  · exact (qz_X12_disturb_J46 hS7697 hM7697 et0 h7699 k_1)
set_option maxRecDepth 20000 in
theorem qz_X12_disturb {P : Nat → Nat} {S : zm_S} {M : qm} {i1 : Int32} {qi1 : Int} (hS : Sh L xs P S) (hM : qM P S = M) (ei1 : i1.toInt = qi1) : qs (zf_X12_disturb 20000 2252 i1 S) (qf_X12_disturb 20000 qi1 M) (tO (rr L xs P vi)) := by
  unfold zf_X12_disturb qf_X12_disturb
  refine qs_gr hS pl_2252 ts_2252 rfl ?_
  refine qs_gi hS hM pl_2252 ts_2252 (z := 0) rfl rfl (fun v7701 h7701 => ?_)
  refine qs_gd (fun g7703 => ?_)
  refine qs_xi hM (pa_p hS pl_2254 ts_2254) (p_add h7701 ei1) g7703 (fun v7702 h7702 => ?_)
  refine qs_ite (c_eq h7702 k_0) ?_ ?_
  · exact (qz_X12_disturb_J19 hS hM ei1 k_1)
  · exact (qz_X12_disturb_J19 hS hM ei1 k_0)
set_option maxRecDepth 20000 in
theorem qz_X18_disturb_J40 {P : Nat → Nat} {S : zm_S} {M : qm} {i1 : Int32} {qi1 : Int} {t1 : Int32} {qt1 : Int} {t2 : Int32} {qt2 : Int} (hS : Sh L xs P S) (hM : qM P S = M) (ei1 : i1.toInt = qi1) (et1 : t1.toInt = qt1) (et2 : t2.toInt = qt2) : qs (zf_X18_disturb_J40 20000 2156 i1 2156 t1 t2 S) (qf_X18_disturb_J40 20000 qi1 qt1 qt2 M) (tO (rr L xs P vi)) := by
  unfold zf_X18_disturb_J40 qf_X18_disturb_J40
  refine qs_zi hS pl_2156 ts_2156 ?_
  refine qs_b (qz_X18_goes hS hM et1 et2) (fun v7705 S7705 w7705 M7705 h7705 hS7705 hM7705 => ?_)
  refine qs_ite (c_eq h7705 k_0) ?_ ?_
  · exact qs_tr (show vi _ _ from k_0) hS7705 hM7705
  · refine qs_gr hS7705 pl_2156 ts_2156 rfl ?_
    refine qs_zi hS7705 pl_2252 ts_2252 ?_
    refine qs_b (qz_X12_disturb hS7705 hM7705 ei1) (fun v7708 S7708 w7708 M7708 h7708 hS7708 hM7708 => ?_)
    refine qs_ite (c_eq h7708 k_0) ?_ ?_
    · exact qs_tr (show vi _ _ from k_0) hS7708 hM7708
    · exact qs_tr (show vi _ _ from k_1) hS7708 hM7708
set_option maxRecDepth 20000 in
theorem qz_X18_disturb_J39 {P : Nat → Nat} {S : zm_S} {M : qm} {i1 : Int32} {qi1 : Int} {t1 : Int32} {qt1 : Int} (hS : Sh L xs P S) (hM : qM P S = M) (ei1 : i1.toInt = qi1) (et1 : t1.toInt = qt1) : qs (zf_X18_disturb_J39 20000 2156 i1 2156 t1 S) (qf_X18_disturb_J39 20000 qi1 qt1 M) (tO (rr L xs P vi)) := by
  unfold zf_X18_disturb_J39 qf_X18_disturb_J39
  exact (qz_X18_disturb_J40 hS hM ei1 et1 k_0)
set_option maxRecDepth 20000 in
theorem qz_X12_mayDisturb {P : Nat → Nat} {S : zm_S} {M : qm}  (hS : Sh L xs P S) (hM : qM P S = M)  : qs (zf_X12_mayDisturb 20000 2252 S) (qf_X12_mayDisturb 20000 M) (tO (rp L xs P M vi)) := by
  unfold zf_X12_mayDisturb qf_X12_mayDisturb
  refine qs_gi hS hM pl_2252 ts_2252 (z := 3) rfl rfl (fun v7709 h7709 => ?_)
  refine qs_ite (c_le k_50 h7709) ?_ ?_
  · exact qs_tp (show vi _ _ from k_0) hS hM
  · exact qs_tp (show vi _ _ from k_1) hS hM
set_option maxRecDepth 20000 in
theorem qz_X18_disturb_J18 {P : Nat → Nat} {S : zm_S} {M : qm} {i1 : Int32} {qi1 : Int} {t1 : Int32} {qt1 : Int} (hS : Sh L xs P S) (hM : qM P S = M) (ei1 : i1.toInt = qi1) (et1 : t1.toInt = qt1) : qs (zf_X18_disturb_J18 20000 2156 i1 2156 t1 S) (qf_X18_disturb_J18 20000 qi1 qt1 M) (tO (rr L xs P vi)) := by
  unfold zf_X18_disturb_J18 qf_X18_disturb_J18
  refine qs_gi hS hM pl_2156 ts_2156 (z := 1) rfl rfl (fun v7710 h7710 => ?_)
  refine qs_ite (c_eq h7710 k_0) ?_ ?_
  · exact (qz_X18_disturb_J39 hS hM ei1 et1)
  · refine qs_gr hS pl_2156 ts_2156 rfl ?_
    refine qs_zi hS pl_2252 ts_2252 ?_
    refine qs_bp (qz_X12_mayDisturb hS hM ) (fun v7713 S7713 w7713 h7713 hS7713 hM7713 => ?_)
    refine qs_ite (c_eq h7713 k_0) ?_ ?_
    · exact (qz_X18_disturb_J39 hS7713 hM7713 ei1 et1)
    · exact (qz_X18_disturb_J40 hS7713 hM7713 ei1 et1 k_1)
set_option maxRecDepth 20000 in
theorem qz_X18_disturb_J17 {P : Nat → Nat} {S : zm_S} {M : qm} {i1 : Int32} {qi1 : Int} (hS : Sh L xs P S) (hM : qM P S = M) (ei1 : i1.toInt = qi1) : qs (zf_X18_disturb_J17 20000 2156 i1 2156 S) (qf_X18_disturb_J17 20000 qi1 M) (tO (rr L xs P vi)) := by
  unfold zf_X18_disturb_J17 qf_X18_disturb_J17
  exact (qz_X18_disturb_J18 hS hM ei1 k_0)
set_option maxRecDepth 20000 in
theorem qz_X18_disturb {P : Nat → Nat} {S : zm_S} {M : qm} {i1 : Int32} {qi1 : Int} (hS : Sh L xs P S) (hM : qM P S = M) (ei1 : i1.toInt = qi1) : qs (zf_X18_disturb 20000 2156 i1 S) (qf_X18_disturb 20000 qi1 M) (tO (rr L xs P vi)) := by
  unfold zf_X18_disturb qf_X18_disturb
  refine qs_ite (c_lt ei1 k_1) ?_ ?_
  · exact (qz_X18_disturb_J17 hS hM ei1)
  · refine qs_ite (c_lt k_2000 ei1) ?_ ?_
    · exact (qz_X18_disturb_J17 hS hM ei1)
    · exact (qz_X18_disturb_J18 hS hM ei1 k_1)
set_option maxRecDepth 20000 in
theorem qz_X1_stationFact_J19 {P : Nat → Nat} {S : zm_S} {M : qm} {i3 : Int32} {qi3 : Int} (hS : Sh L xs P S) (hM : qM P S = M) (ei3 : i3.toInt = qi3) : qs (zf_X1_stationFact_J19 20000 i3 S) (qf_X1_stationFact_J19 20000 qi3 M) (tO (rp L xs P M vi)) := by
  unfold zf_X1_stationFact_J19 qf_X1_stationFact_J19
  refine qs_ite (c_eq ei3 k_m1) ?_ ?_
  · exact qs_tp (show vi _ _ from k_0) hS hM
  · exact qs_tp (show vi _ _ from k_1) hS hM
set_option maxRecDepth 20000 in
theorem qz_X1_stationFact {P : Nat → Nat} {S : zm_S} {M : qm} {i1 : Int32} {qi1 : Int} {i2 : Int32} {qi2 : Int} (hS : Sh L xs P S) (hM : qM P S = M) (ei1 : i1.toInt = qi1) (ei2 : i2.toInt = qi2) : qs (zf_X1_stationFact 20000 1139 i1 i2 S) (qf_X1_stationFact 20000 qi1 qi2 M) (tO (rp L xs P M vi)) := by
  unfold zf_X1_stationFact qf_X1_stationFact
  refine qs_gr hS pl_1139 ts_1139 rfl ?_
  refine qs_gd (fun g7716 => ?_)
  refine qs_xt hS pl_1140 ts_1140 (Or.inl rfl) ei1 g7716 (fun b7715 r7715 => ?_)
  refine qs_gd (fun g7718 => ?_)
  refine qs_yi hS hM qt_1140 tq_1140 r7715 ei2 g7718 (fun v7717 h7717 => ?_)
  refine qs_ite (c_eq ei2 k_1) ?_ ?_
  · exact (qz_X1_stationFact_J19 hS hM h7717)
  · refine qs_ite (c_eq ei2 k_2) ?_ ?_
    · exact (qz_X1_stationFact_J19 hS hM h7717)
    · exact qs_tp (show vi _ _ from h7717) hS hM
set_option maxRecDepth 20000 in
theorem qz_X11_station_J21 {P : Nat → Nat} {S : zm_S} {M : qm} {i1 : Int32} {qi1 : Int} {i2 : Int32} {qi2 : Int} {t0 : Int32} {qt0 : Int} (hS : Sh L xs P S) (hM : qM P S = M) (ei1 : i1.toInt = qi1) (ei2 : i2.toInt = qi2) (et0 : t0.toInt = qt0) : qs (zf_X11_station_J21 20000 6 i1 i2 t0 S) (qf_X11_station_J21 20000 qi1 qi2 qt0 M) (tO (rp L xs P M (vs vi ve))) := by
  unfold zf_X11_station_J21 qf_X11_station_J21
  refine qs_xp (qz_X11_needArgument hS hM et0) ?_ ?_
  · intro v7720 S7720 w7720 h7720 hS7720 hM7720
    dsimp only
    refine qs_gi hS7720 hM7720 pl_6 ts_6 (z := 11) rfl rfl (fun v7721 h7721 => ?_)
    refine qs_xp (qz_X11_needState hS7720 hM7720 h7721) ?_ ?_
    · intro v7723 S7723 w7723 h7723 hS7723 hM7723
      dsimp only
      refine qs_gr hS7723 pl_6 ts_6 rfl ?_
      refine qs_zi hS7723 pl_1139 ts_1139 ?_
      refine qs_bp (qz_X1_stationFact hS7723 hM7723 ei1 ei2) (fun v7726 S7726 w7726 h7726 hS7726 hM7726 => ?_)
      exact qs_tp (show (vs vi ve) _ _ from h7726) hS7726 hM7726
    · intro v7723 S7723 hS7723 hM7723
      dsimp only
      exact qs_tp (show (vs vi ve) _ _ from rfl) hS7723 hM7723
  · intro v7720 S7720 hS7720 hM7720
    dsimp only
    exact qs_tp (show (vs vi ve) _ _ from rfl) hS7720 hM7720
set_option maxRecDepth 20000 in
theorem qz_X11_station_J20 {P : Nat → Nat} {S : zm_S} {M : qm} {i1 : Int32} {qi1 : Int} {i2 : Int32} {qi2 : Int} (hS : Sh L xs P S) (hM : qM P S = M) (ei1 : i1.toInt = qi1) (ei2 : i2.toInt = qi2) : qs (zf_X11_station_J20 20000 6 i1 i2 S) (qf_X11_station_J20 20000 qi1 qi2 M) (tO (rp L xs P M (vs vi ve))) := by
  unfold zf_X11_station_J20 qf_X11_station_J20
  exact (qz_X11_station_J21 hS hM ei1 ei2 k_0)
set_option maxRecDepth 20000 in
theorem qz_X11_station {P : Nat → Nat} {S : zm_S} {M : qm} {i1 : Int32} {qi1 : Int} {i2 : Int32} {qi2 : Int} (hS : Sh L xs P S) (hM : qM P S = M) (ei1 : i1.toInt = qi1) (ei2 : i2.toInt = qi2) : qs (zf_X11_station 20000 6 i1 i2 S) (qf_X11_station 20000 qi1 qi2 M) (tO (rp L xs P M (vs vi ve))) := by
  unfold zf_X11_station qf_X11_station
  refine qs_bp (qz_X11_isStation hS hM ei1) (fun v7727 S7727 w7727 h7727 hS7727 hM7727 => ?_)
  refine qs_ite (c_eq h7727 k_0) ?_ ?_
  · exact (qz_X11_station_J20 hS7727 hM7727 ei1 ei2)
  · refine qs_bp (qz_X11_isWithin hS7727 hM7727 ei2 k_0 k_5) (fun v7728 S7728 w7728 h7728 hS7728 hM7728 => ?_)
    refine qs_ite (c_eq h7728 k_0) ?_ ?_
    · exact (qz_X11_station_J20 hS7728 hM7728 ei1 ei2)
    · exact (qz_X11_station_J21 hS7728 hM7728 ei1 ei2 k_1)
set_option maxRecDepth 20000 in
theorem qz_L_station {P : Nat → Nat} {S : zm_S} {M : qm} {i1 : Int32} {qi1 : Int} {i2 : Int32} {qi2 : Int} (hS : Sh L xs P S) (hM : qM P S = M) (ei1 : i1.toInt = qi1) (ei2 : i2.toInt = qi2) : qs (zf_L_station 20000 6 i1 i2 2332 S) (qf_L_station 20000 qi1 qi2 M) (tO (rr L xs P vi)) := by
  unfold zf_L_station qf_L_station
  refine qs_zi hS pl_6 ts_6 ?_
  refine qs_xp (qz_X11_station hS hM ei1 ei2) ?_ ?_
  · intro v7731 S7731 w7731 h7731 hS7731 hM7731
    dsimp only
    refine qs_sl hS7731 hM7731 (pa_p hS7731 pl_2332 ts_2332) k_0 (by decide) (p_64 h7731) (fun S7732 M7732 hS7732 hM7732 => ?_)
    exact qs_tr (show vi _ _ from k_0) hS7732 hM7732
  · intro v7731 S7731 hS7731 hM7731
    dsimp only
    refine qs_ite Iff.rfl ?_ ?_
    · exact qs_tr (show vi _ _ from k_1) hS7731 hM7731
    · refine qs_ite Iff.rfl ?_ ?_
      · exact qs_tr (show vi _ _ from k_2) hS7731 hM7731
      · exact qs_none
set_option maxRecDepth 20000 in
theorem qz_X12_station {P : Nat → Nat} {S : zm_S} {M : qm} {i1 : Int32} {qi1 : Int} {i2 : Int32} {qi2 : Int} (hS : Sh L xs P S) (hM : qM P S = M) (ei1 : i1.toInt = qi1) (ei2 : i2.toInt = qi2) : qs (zf_X12_station 20000 2252 i1 i2 S) (qf_X12_station 20000 qi1 qi2 M) (tO (rp L xs P M vi)) := by
  unfold zf_X12_station qf_X12_station
  refine qs_ite (z_eq ei2) ?_ ?_
  · refine qs_gr hS pl_2252 ts_2252 rfl ?_
    refine qs_gd (fun g7735 => ?_)
    refine qs_xi hM (pa_p hS pl_2258 ts_2258) ei1 g7735 (fun v7734 h7734 => ?_)
    exact qs_tp (show vi _ _ from h7734) hS hM
  · refine qs_ite (z_eq ei2) ?_ ?_
    · refine qs_gr hS pl_2252 ts_2252 rfl ?_
      refine qs_gd (fun g7738 => ?_)
      refine qs_xi hM (pa_p hS pl_2260 ts_2260) ei1 g7738 (fun v7737 h7737 => ?_)
      refine qs_ite (c_lt h7737 k_0) ?_ ?_
      · exact qs_tp (show vi _ _ from k_0) hS hM
      · exact qs_tp (show vi _ _ from k_1) hS hM
    · refine qs_ite (z_eq ei2) ?_ ?_
      · refine qs_gr hS pl_2252 ts_2252 rfl ?_
        refine qs_gd (fun g7741 => ?_)
        refine qs_xi hM (pa_p hS pl_2261 ts_2261) ei1 g7741 (fun v7740 h7740 => ?_)
        refine qs_ite (c_lt h7740 k_0) ?_ ?_
        · exact qs_tp (show vi _ _ from k_0) hS hM
        · exact qs_tp (show vi _ _ from k_1) hS hM
      · refine qs_ite (z_eq ei2) ?_ ?_
        · refine qs_gr hS pl_2252 ts_2252 rfl ?_
          refine qs_gd (fun g7744 => ?_)
          refine qs_xi hM (pa_p hS pl_2264 ts_2264) ei1 g7744 (fun v7743 h7743 => ?_)
          exact qs_tp (show vi _ _ from h7743) hS hM
        · refine qs_ite (z_eq ei2) ?_ ?_
          · refine qs_gr hS pl_2252 ts_2252 rfl ?_
            refine qs_gd (fun g7747 => ?_)
            refine qs_xi hM (pa_p hS pl_2265 ts_2265) ei1 g7747 (fun v7746 h7746 => ?_)
            exact qs_tp (show vi _ _ from h7746) hS hM
          · refine qs_gr hS pl_2252 ts_2252 rfl ?_
            refine qs_gd (fun g7750 => ?_)
            refine qs_xi hM (pa_p hS pl_2266 ts_2266) ei1 g7750 (fun v7749 h7749 => ?_)
            exact qs_tp (show vi _ _ from h7749) hS hM
set_option maxRecDepth 20000 in
theorem qz_X18_station_J24 {P : Nat → Nat} {S : zm_S} {M : qm} {i1 : Int32} {qi1 : Int} {i2 : Int32} {qi2 : Int} {t1 : Int32} {qt1 : Int} (hS : Sh L xs P S) (hM : qM P S = M) (ei1 : i1.toInt = qi1) (ei2 : i2.toInt = qi2) (et1 : t1.toInt = qt1) : qs (zf_X18_station_J24 20000 2156 i1 i2 2156 t1 S) (qf_X18_station_J24 20000 qi1 qi2 qt1 M) (tO (rr L xs P vi)) := by
  unfold zf_X18_station_J24 qf_X18_station_J24
  refine qs_gi hS hM pl_2156 ts_2156 (z := 1) rfl rfl (fun v7751 h7751 => ?_)
  refine qs_zi hS pl_2156 ts_2156 ?_
  refine qs_b (qz_X18_goes hS hM et1 h7751) (fun v7753 S7753 w7753 M7753 h7753 hS7753 hM7753 => ?_)
  refine qs_ite (c_eq h7753 k_0) ?_ ?_
  · exact qs_tr (show vi _ _ from k_0) hS7753 hM7753
  · refine qs_gr hS7753 pl_2156 ts_2156 rfl ?_
    refine qs_zi hS7753 pl_2252 ts_2252 ?_
    refine qs_bp (qz_X12_station hS7753 hM7753 ei1 ei2) (fun v7756 S7756 w7756 h7756 hS7756 hM7756 => ?_)
    exact qs_tr (show vi _ _ from h7756) hS7756 hM7756
set_option maxRecDepth 20000 in
theorem qz_X18_station_J23 {P : Nat → Nat} {S : zm_S} {M : qm} {i1 : Int32} {qi1 : Int} {i2 : Int32} {qi2 : Int} (hS : Sh L xs P S) (hM : qM P S = M) (ei1 : i1.toInt = qi1) (ei2 : i2.toInt = qi2) : qs (zf_X18_station_J23 20000 2156 i1 i2 2156 S) (qf_X18_station_J23 20000 qi1 qi2 M) (tO (rr L xs P vi)) := by
  unfold zf_X18_station_J23 qf_X18_station_J23
  exact (qz_X18_station_J24 hS hM ei1 ei2 k_0)
set_option maxRecDepth 20000 in
theorem qz_X18_station {P : Nat → Nat} {S : zm_S} {M : qm} {i1 : Int32} {qi1 : Int} {i2 : Int32} {qi2 : Int} (hS : Sh L xs P S) (hM : qM P S = M) (ei1 : i1.toInt = qi1) (ei2 : i2.toInt = qi2) : qs (zf_X18_station 20000 2156 i1 i2 S) (qf_X18_station 20000 qi1 qi2 M) (tO (rr L xs P vi)) := by
  unfold zf_X18_station qf_X18_station
  refine qs_bp (qz_X18_isIn hS hM ei1 k_8) (fun v7757 S7757 w7757 h7757 hS7757 hM7757 => ?_)
  refine qs_ite (c_eq h7757 k_0) ?_ ?_
  · exact (qz_X18_station_J23 hS7757 hM7757 ei1 ei2)
  · refine qs_bp (qz_X18_isIn hS7757 hM7757 ei2 k_6) (fun v7758 S7758 w7758 h7758 hS7758 hM7758 => ?_)
    refine qs_ite (c_eq h7758 k_0) ?_ ?_
    · exact (qz_X18_station_J23 hS7758 hM7758 ei1 ei2)
    · exact (qz_X18_station_J24 hS7758 hM7758 ei1 ei2 k_1)
set_option maxRecDepth 20000 in
theorem qz_X11_heard {P : Nat → Nat} {S : zm_S} {M : qm} {i1 : Int32} {qi1 : Int} (hS : Sh L xs P S) (hM : qM P S = M) (ei1 : i1.toInt = qi1) : qs (zf_X11_heard 20000 6 i1 S) (qf_X11_heard 20000 qi1 M) (tO (rp L xs P M (vs vi ve))) := by
  unfold zf_X11_heard qf_X11_heard
  refine qs_bp (qz_X11_isWithin hS hM ei1 k_0 k_4) (fun v7759 S7759 w7759 h7759 hS7759 hM7759 => ?_)
  refine qs_xp (qz_X11_needArgument hS7759 hM7759 h7759) ?_ ?_
  · intro v7761 S7761 w7761 h7761 hS7761 hM7761
    dsimp only
    refine qs_gi hS7761 hM7761 pl_6 ts_6 (z := 11) rfl rfl (fun v7762 h7762 => ?_)
    refine qs_xp (qz_X11_needState hS7761 hM7761 h7762) ?_ ?_
    · intro v7764 S7764 w7764 h7764 hS7764 hM7764
      dsimp only
      refine qs_gr hS7764 pl_6 ts_6 rfl ?_
      refine qs_gr hS7764 pl_1139 ts_1139 rfl ?_
      refine qs_gd (fun g7768 => ?_)
      refine qs_xi hM7764 (pa_p hS7764 pl_1171 ts_1171) ei1 g7768 (fun v7767 h7767 => ?_)
      exact qs_tp (show (vs vi ve) _ _ from h7767) hS7764 hM7764
    · intro v7764 S7764 hS7764 hM7764
      dsimp only
      exact qs_tp (show (vs vi ve) _ _ from rfl) hS7764 hM7764
  · intro v7761 S7761 hS7761 hM7761
    dsimp only
    exact qs_tp (show (vs vi ve) _ _ from rfl) hS7761 hM7761
set_option maxRecDepth 20000 in
theorem qz_L_heard {P : Nat → Nat} {S : zm_S} {M : qm} {i1 : Int32} {qi1 : Int} (hS : Sh L xs P S) (hM : qM P S = M) (ei1 : i1.toInt = qi1) : qs (zf_L_heard 20000 6 i1 2332 S) (qf_L_heard 20000 qi1 M) (tO (rr L xs P vi)) := by
  unfold zf_L_heard qf_L_heard
  refine qs_zi hS pl_6 ts_6 ?_
  refine qs_xp (qz_X11_heard hS hM ei1) ?_ ?_
  · intro v7771 S7771 w7771 h7771 hS7771 hM7771
    dsimp only
    refine qs_sl hS7771 hM7771 (pa_p hS7771 pl_2332 ts_2332) k_0 (by decide) (p_64 h7771) (fun S7772 M7772 hS7772 hM7772 => ?_)
    exact qs_tr (show vi _ _ from k_0) hS7772 hM7772
  · intro v7771 S7771 hS7771 hM7771
    dsimp only
    refine qs_ite Iff.rfl ?_ ?_
    · exact qs_tr (show vi _ _ from k_1) hS7771 hM7771
    · refine qs_ite Iff.rfl ?_ ?_
      · exact qs_tr (show vi _ _ from k_2) hS7771 hM7771
      · exact qs_none
set_option maxRecDepth 20000 in
theorem qz_X18_heard {P : Nat → Nat} {S : zm_S} {M : qm} {i1 : Int32} {qi1 : Int} (hS : Sh L xs P S) (hM : qM P S = M) (ei1 : i1.toInt = qi1) : qs (zf_X18_heard 20000 2156 i1 S) (qf_X18_heard 20000 qi1 M) (tO (rr L xs P vi)) := by
  unfold zf_X18_heard qf_X18_heard
  refine qs_bp (qz_X18_isIn hS hM ei1 k_5) (fun v7773 S7773 w7773 h7773 hS7773 hM7773 => ?_)
  refine qs_gi hS7773 hM7773 pl_2156 ts_2156 (z := 1) rfl rfl (fun v7774 h7774 => ?_)
  refine qs_zi hS7773 pl_2156 ts_2156 ?_
  refine qs_b (qz_X18_goes hS7773 hM7773 h7773 h7774) (fun v7776 S7776 w7776 M7776 h7776 hS7776 hM7776 => ?_)
  refine qs_ite (c_eq h7776 k_0) ?_ ?_
  · exact qs_tr (show vi _ _ from k_0) hS7776 hM7776
  · refine qs_gr hS7776 pl_2156 ts_2156 rfl ?_
    refine qs_gr hS7776 pl_2252 ts_2252 rfl ?_
    refine qs_gd (fun g7780 => ?_)
    refine qs_xi hM7776 (pa_p hS7776 pl_2269 ts_2269) ei1 g7780 (fun v7779 h7779 => ?_)
    exact qs_tr (show vi _ _ from h7779) hS7776 hM7776
set_option maxRecDepth 20000 in
theorem qz_X11_byteAt {P : Nat → Nat} {S : zm_S} {M : qm} {i1 : Int32} {qi1 : Int} (hS : Sh L xs P S) (hM : qM P S = M) (ei1 : i1.toInt = qi1) : qs (zf_X11_byteAt 20000 6 i1 S) (qf_X11_byteAt 20000 qi1 M) (tO (rp L xs P M (vs vi ve))) := by
  unfold zf_X11_byteAt qf_X11_byteAt
  refine qs_gr hS pl_6 ts_6 rfl ?_
  refine qs_gi hS hM pl_1139 ts_1139 (z := 15) rfl rfl (fun v7782 h7782 => ?_)
  refine qs_bp (qz_X11_isWithin hS hM ei1 k_m1 (p_sub h7782 k_1)) (fun v7783 S7783 w7783 h7783 hS7783 hM7783 => ?_)
  refine qs_xp (qz_X11_needArgument hS7783 hM7783 h7783) ?_ ?_
  · intro v7785 S7785 w7785 h7785 hS7785 hM7785
    dsimp only
    refine qs_gi hS7785 hM7785 pl_6 ts_6 (z := 11) rfl rfl (fun v7786 h7786 => ?_)
    refine qs_xp (qz_X11_needState hS7785 hM7785 h7786) ?_ ?_
    · intro v7788 S7788 w7788 h7788 hS7788 hM7788
      dsimp only
      refine qs_ite (c_eq ei1 k_m1) ?_ ?_
      · refine qs_gr hS7788 pl_6 ts_6 rfl ?_
        refine qs_gi hS7788 hM7788 pl_1139 ts_1139 (z := 18) rfl rfl (fun v7790 h7790 => ?_)
        exact qs_tp (show (vs vi ve) _ _ from h7790) hS7788 hM7788
      · refine qs_gr hS7788 pl_6 ts_6 rfl ?_
        refine qs_gr hS7788 pl_1139 ts_1139 rfl ?_
        refine qs_gd (fun g7794 => ?_)
        refine qs_xi hM7788 (pa_p hS7788 pl_1170 ts_1170) ei1 g7794 (fun v7793 h7793 => ?_)
        exact qs_tp (show (vs vi ve) _ _ from h7793) hS7788 hM7788
    · intro v7788 S7788 hS7788 hM7788
      dsimp only
      exact qs_tp (show (vs vi ve) _ _ from rfl) hS7788 hM7788
  · intro v7785 S7785 hS7785 hM7785
    dsimp only
    exact qs_tp (show (vs vi ve) _ _ from rfl) hS7785 hM7785
set_option maxRecDepth 20000 in
theorem qz_L_byteAt {P : Nat → Nat} {S : zm_S} {M : qm} {i1 : Int32} {qi1 : Int} (hS : Sh L xs P S) (hM : qM P S = M) (ei1 : i1.toInt = qi1) : qs (zf_L_byteAt 20000 6 i1 2332 S) (qf_L_byteAt 20000 qi1 M) (tO (rr L xs P vi)) := by
  unfold zf_L_byteAt qf_L_byteAt
  refine qs_zi hS pl_6 ts_6 ?_
  refine qs_xp (qz_X11_byteAt hS hM ei1) ?_ ?_
  · intro v7797 S7797 w7797 h7797 hS7797 hM7797
    dsimp only
    refine qs_sl hS7797 hM7797 (pa_p hS7797 pl_2332 ts_2332) k_0 (by decide) (p_64 h7797) (fun S7798 M7798 hS7798 hM7798 => ?_)
    exact qs_tr (show vi _ _ from k_0) hS7798 hM7798
  · intro v7797 S7797 hS7797 hM7797
    dsimp only
    refine qs_ite Iff.rfl ?_ ?_
    · exact qs_tr (show vi _ _ from k_1) hS7797 hM7797
    · refine qs_ite Iff.rfl ?_ ?_
      · exact qs_tr (show vi _ _ from k_2) hS7797 hM7797
      · exact qs_none
set_option maxRecDepth 20000 in
theorem qz_X18_byteAt_J22 {P : Nat → Nat} {S : zm_S} {M : qm} {i1 : Int32} {qi1 : Int} {t1 : Int32} {qt1 : Int} (hS : Sh L xs P S) (hM : qM P S = M) (ei1 : i1.toInt = qi1) (et1 : t1.toInt = qt1) : qs (zf_X18_byteAt_J22 20000 2156 i1 2156 t1 S) (qf_X18_byteAt_J22 20000 qi1 qt1 M) (tO (rr L xs P vi)) := by
  unfold zf_X18_byteAt_J22 qf_X18_byteAt_J22
  refine qs_gi hS hM pl_2156 ts_2156 (z := 1) rfl rfl (fun v7799 h7799 => ?_)
  refine qs_zi hS pl_2156 ts_2156 ?_
  refine qs_b (qz_X18_goes hS hM et1 h7799) (fun v7801 S7801 w7801 M7801 h7801 hS7801 hM7801 => ?_)
  refine qs_ite (c_eq h7801 k_0) ?_ ?_
  · exact qs_tr (show vi _ _ from k_0) hS7801 hM7801
  · refine qs_ite (c_le k_0 ei1) ?_ ?_
    · refine qs_gr hS7801 pl_2156 ts_2156 rfl ?_
      refine qs_gr hS7801 pl_2252 ts_2252 rfl ?_
      refine qs_gd (fun g7805 => ?_)
      refine qs_xi hM7801 (pa_p hS7801 pl_2268 ts_2268) ei1 g7805 (fun v7804 h7804 => ?_)
      exact qs_tr (show vi _ _ from h7804) hS7801 hM7801
    · refine qs_gr hS7801 pl_2156 ts_2156 rfl ?_
      refine qs_gi hS7801 hM7801 pl_2252 ts_2252 (z := 26) rfl rfl (fun v7807 h7807 => ?_)
      exact qs_tr (show vi _ _ from h7807) hS7801 hM7801
set_option maxRecDepth 20000 in
theorem qz_X18_byteAt_J21 {P : Nat → Nat} {S : zm_S} {M : qm} {i1 : Int32} {qi1 : Int} (hS : Sh L xs P S) (hM : qM P S = M) (ei1 : i1.toInt = qi1) : qs (zf_X18_byteAt_J21 20000 2156 i1 2156 S) (qf_X18_byteAt_J21 20000 qi1 M) (tO (rr L xs P vi)) := by
  unfold zf_X18_byteAt_J21 qf_X18_byteAt_J21
  exact (qz_X18_byteAt_J22 hS hM ei1 k_0)
set_option maxRecDepth 20000 in
theorem qz_X18_byteAt {P : Nat → Nat} {S : zm_S} {M : qm} {i1 : Int32} {qi1 : Int} (hS : Sh L xs P S) (hM : qM P S = M) (ei1 : i1.toInt = qi1) : qs (zf_X18_byteAt 20000 2156 i1 S) (qf_X18_byteAt 20000 qi1 M) (tO (rr L xs P vi)) := by
  unfold zf_X18_byteAt qf_X18_byteAt
  refine qs_ite (c_lt ei1 k_m1) ?_ ?_
  · exact (qz_X18_byteAt_J21 hS hM ei1)
  · refine qs_gr hS pl_2156 ts_2156 rfl ?_
    refine qs_gi hS hM pl_2252 ts_2252 (z := 21) rfl rfl (fun v7809 h7809 => ?_)
    refine qs_ite (c_le h7809 ei1) ?_ ?_
    · exact (qz_X18_byteAt_J21 hS hM ei1)
    · exact (qz_X18_byteAt_J22 hS hM ei1 k_1)
set_option maxRecDepth 20000 in
theorem qz_X11_isFloor {P : Nat → Nat} {S : zm_S} {M : qm} {i0 : Int32} {qi0 : Int} (hS : Sh L xs P S) (hM : qM P S = M) (ei0 : i0.toInt = qi0) : qs (zf_X11_isFloor 20000 i0 S) (qf_X11_isFloor 20000 qi0 M) (tO (rp L xs P M vi)) := by
  unfold zf_X11_isFloor qf_X11_isFloor
  refine qs_bp (qz_X11_isWithin hS hM ei0 k_0 k_59) (fun v7810 S7810 w7810 h7810 hS7810 hM7810 => ?_)
  refine qs_ite (or_congr (c_eq h7810 k_0) (c_eq h7810 k_1)) ?_ ?_
  · exact qs_tp (show vi _ _ from h7810) hS7810 hM7810
  · exact qs_none
set_option maxRecDepth 20000 in
theorem qz_X3_addCar {P : Nat → Nat} {S : zm_S} {M : qm} {i1 : Int32} {qi1 : Int} {i2 : Int32} {qi2 : Int} (hS : Sh L xs P S) (hM : qM P S = M) (ei1 : i1.toInt = qi1) (ei2 : i2.toInt = qi2) : qs (zf_X3_addCar 20000 1337 i1 i2 S) (qf_X3_addCar 20000 qi1 qi2 M) (tO (rr L xs P vi)) := by
  unfold zf_X3_addCar qf_X3_addCar
  refine qs_gi hS hM pl_1337 ts_1337 (z := 0) rfl rfl (fun v7811 h7811 => ?_)
  refine qs_ite (c_lt h7811 k_4) ?_ ?_
  · refine qs_gr hS pl_1337 ts_1337 rfl ?_
    refine qs_gi hS hM pl_1337 ts_1337 (z := 0) rfl rfl (fun v7813 h7813 => ?_)
    refine qs_gd (fun g7815 => ?_)
    refine qs_xt hS pl_1338 ts_1338 (Or.inl rfl) h7813 g7815 (fun b7814 r7814 => ?_)
    refine qs_ysi hS hM qt_1338 tq_1338 r7814 k_0 (by decide) ei1 (fun S7816 M7816 hS7816 hM7816 => ?_)
    refine qs_ysi hS7816 hM7816 qt_1338 tq_1338 r7814 k_1 (by decide) ei2 (fun S7817 M7817 hS7817 hM7817 => ?_)
    refine qs_ysi hS7817 hM7817 qt_1338 tq_1338 r7814 k_4 (by decide) k_59 (fun S7818 M7818 hS7818 hM7818 => ?_)
    refine qs_ysi hS7818 hM7818 qt_1338 tq_1338 r7814 k_5 (by decide) k_m1 (fun S7819 M7819 hS7819 hM7819 => ?_)
    refine qs_gi hS7819 hM7819 pl_1337 ts_1337 (z := 0) rfl rfl (fun v7820 h7820 => ?_)
    refine qs_pi hS7819 hM7819 pl_1337 ts_1337 (z := 0) rfl rfl (p_add h7820 k_1) (fun S7821 M7821 hS7821 hM7821 => ?_)
    refine qs_gi hS7821 hM7821 pl_1337 ts_1337 (z := 0) rfl rfl (fun v7822 h7822 => ?_)
    exact qs_tr (show vi _ _ from (p_sub h7822 k_1)) hS7821 hM7821
  · exact qs_tr (show vi _ _ from k_m1) hS hM
set_option maxRecDepth 20000 in
theorem qz_X11_car_J47 {P : Nat → Nat} {S : zm_S} {M : qm} {i1 : Int32} {qi1 : Int} {i2 : Int32} {qi2 : Int} {t0 : Int32} {qt0 : Int} (hS : Sh L xs P S) (hM : qM P S = M) (ei1 : i1.toInt = qi1) (ei2 : i2.toInt = qi2) (et0 : t0.toInt = qt0) : qs (zf_X11_car_J47 20000 6 i1 i2 t0 S) (qf_X11_car_J47 20000 qi1 qi2 qt0 M) (tO (rr L xs P (vs vi ve))) := by
  unfold zf_X11_car_J47 qf_X11_car_J47
  refine qs_xp (qz_X11_needState hS hM et0) ?_ ?_
  · intro v7824 S7824 w7824 h7824 hS7824 hM7824
    dsimp only
    refine qs_gr hS7824 pl_6 ts_6 rfl ?_
    refine qs_zi hS7824 pl_1337 ts_1337 ?_
    refine qs_b (qz_X3_addCar hS7824 hM7824 ei1 ei2) (fun v7827 S7827 w7827 M7827 h7827 hS7827 hM7827 => ?_)
    exact qs_tr (show (vs vi ve) _ _ from h7827) hS7827 hM7827
  · intro v7824 S7824 hS7824 hM7824
    dsimp only
    exact qs_tr (show (vs vi ve) _ _ from rfl) hS7824 hM7824
set_option maxRecDepth 20000 in
theorem qz_X11_car_J46 {P : Nat → Nat} {S : zm_S} {M : qm} {i1 : Int32} {qi1 : Int} {i2 : Int32} {qi2 : Int} (hS : Sh L xs P S) (hM : qM P S = M) (ei1 : i1.toInt = qi1) (ei2 : i2.toInt = qi2) : qs (zf_X11_car_J46 20000 6 i1 i2 S) (qf_X11_car_J46 20000 qi1 qi2 M) (tO (rr L xs P (vs vi ve))) := by
  unfold zf_X11_car_J46 qf_X11_car_J46
  exact (qz_X11_car_J47 hS hM ei1 ei2 k_0)
set_option maxRecDepth 20000 in
theorem qz_X11_car_J21 {P : Nat → Nat} {S : zm_S} {M : qm} {i1 : Int32} {qi1 : Int} {i2 : Int32} {qi2 : Int} {t0 : Int32} {qt0 : Int} (hS : Sh L xs P S) (hM : qM P S = M) (ei1 : i1.toInt = qi1) (ei2 : i2.toInt = qi2) (et0 : t0.toInt = qt0) : qs (zf_X11_car_J21 20000 6 i1 i2 t0 S) (qf_X11_car_J21 20000 qi1 qi2 qt0 M) (tO (rr L xs P (vs vi ve))) := by
  unfold zf_X11_car_J21 qf_X11_car_J21
  refine qs_xp (qz_X11_needArgument hS hM et0) ?_ ?_
  · intro v7829 S7829 w7829 h7829 hS7829 hM7829
    dsimp only
    refine qs_gi hS7829 hM7829 pl_6 ts_6 (z := 11) rfl rfl (fun v7830 h7830 => ?_)
    refine qs_ite (c_eq h7830 k_0) ?_ ?_
    · exact (qz_X11_car_J46 hS7829 hM7829 ei1 ei2)
    · refine qs_gr hS7829 pl_6 ts_6 rfl ?_
      refine qs_gi hS7829 hM7829 pl_1337 ts_1337 (z := 0) rfl rfl (fun v7832 h7832 => ?_)
      refine qs_ite (c_le k_4 h7832) ?_ ?_
      · exact (qz_X11_car_J46 hS7829 hM7829 ei1 ei2)
      · exact (qz_X11_car_J47 hS7829 hM7829 ei1 ei2 k_1)
  · intro v7829 S7829 hS7829 hM7829
    dsimp only
    exact qs_tr (show (vs vi ve) _ _ from rfl) hS7829 hM7829
set_option maxRecDepth 20000 in
theorem qz_X11_car_J20 {P : Nat → Nat} {S : zm_S} {M : qm} {i1 : Int32} {qi1 : Int} {i2 : Int32} {qi2 : Int} (hS : Sh L xs P S) (hM : qM P S = M) (ei1 : i1.toInt = qi1) (ei2 : i2.toInt = qi2) : qs (zf_X11_car_J20 20000 6 i1 i2 S) (qf_X11_car_J20 20000 qi1 qi2 M) (tO (rr L xs P (vs vi ve))) := by
  unfold zf_X11_car_J20 qf_X11_car_J20
  exact (qz_X11_car_J21 hS hM ei1 ei2 k_0)
set_option maxRecDepth 20000 in
theorem qz_X11_car {P : Nat → Nat} {S : zm_S} {M : qm} {i1 : Int32} {qi1 : Int} {i2 : Int32} {qi2 : Int} (hS : Sh L xs P S) (hM : qM P S = M) (ei1 : i1.toInt = qi1) (ei2 : i2.toInt = qi2) : qs (zf_X11_car 20000 6 i1 i2 S) (qf_X11_car 20000 qi1 qi2 M) (tO (rr L xs P (vs vi ve))) := by
  unfold zf_X11_car qf_X11_car
  refine qs_bp (qz_X11_isFloor hS hM ei1) (fun v7833 S7833 w7833 h7833 hS7833 hM7833 => ?_)
  refine qs_ite (c_eq h7833 k_0) ?_ ?_
  · exact (qz_X11_car_J20 hS7833 hM7833 ei1 ei2)
  · refine qs_bp (qz_X11_isWithin hS7833 hM7833 ei2 k_1 k_5) (fun v7834 S7834 w7834 h7834 hS7834 hM7834 => ?_)
    refine qs_ite (c_eq h7834 k_0) ?_ ?_
    · exact (qz_X11_car_J20 hS7834 hM7834 ei1 ei2)
    · exact (qz_X11_car_J21 hS7834 hM7834 ei1 ei2 k_1)
set_option maxRecDepth 20000 in
theorem qz_L_car {P : Nat → Nat} {S : zm_S} {M : qm} {i1 : Int32} {qi1 : Int} {i2 : Int32} {qi2 : Int} (hS : Sh L xs P S) (hM : qM P S = M) (ei1 : i1.toInt = qi1) (ei2 : i2.toInt = qi2) : qs (zf_L_car 20000 6 i1 i2 2332 S) (qf_L_car 20000 qi1 qi2 M) (tO (rr L xs P vi)) := by
  unfold zf_L_car qf_L_car
  refine qs_zi hS pl_6 ts_6 ?_
  refine qs_xr (qz_X11_car hS hM ei1 ei2) ?_ ?_
  · intro v7837 S7837 w7837 M7837 h7837 hS7837 hM7837
    dsimp only
    refine qs_sl hS7837 hM7837 (pa_p hS7837 pl_2332 ts_2332) k_0 (by decide) (p_64 h7837) (fun S7838 M7838 hS7838 hM7838 => ?_)
    exact qs_tr (show vi _ _ from k_0) hS7838 hM7838
  · intro v7837 S7837 M7837 hS7837 hM7837
    dsimp only
    refine qs_ite Iff.rfl ?_ ?_
    · exact qs_tr (show vi _ _ from k_1) hS7837 hM7837
    · refine qs_ite Iff.rfl ?_ ?_
      · exact qs_tr (show vi _ _ from k_2) hS7837 hM7837
      · exact qs_none
set_option maxRecDepth 20000 in
theorem qz_X13_isFloor {P : Nat → Nat} {S : zm_S} {M : qm} {i0 : Int32} {qi0 : Int} (hS : Sh L xs P S) (hM : qM P S = M) (ei0 : i0.toInt = qi0) : qs (zf_X13_isFloor 20000 i0 S) (qf_X13_isFloor 20000 qi0 M) (tO (rp L xs P M vi)) := by
  unfold zf_X13_isFloor qf_X13_isFloor
  refine qs_ite (c_lt ei0 k_0) ?_ ?_
  · exact qs_tp (show vi _ _ from k_0) hS hM
  · refine qs_ite (c_le k_60 ei0) ?_ ?_
    · exact qs_tp (show vi _ _ from k_0) hS hM
    · exact qs_tp (show vi _ _ from k_1) hS hM
set_option maxRecDepth 20000 in
theorem qz_X13_car {P : Nat → Nat} {S : zm_S} {M : qm} {i1 : Int32} {qi1 : Int} {i2 : Int32} {qi2 : Int} (hS : Sh L xs P S) (hM : qM P S = M) (ei1 : i1.toInt = qi1) (ei2 : i2.toInt = qi2) : qs (zf_X13_car 20000 2270 i1 i2 S) (qf_X13_car 20000 qi1 qi2 M) (tO (rr L xs P vi)) := by
  unfold zf_X13_car qf_X13_car
  refine qs_gr hS pl_2270 ts_2270 rfl ?_
  refine qs_gi hS hM pl_2270 ts_2270 (z := 0) rfl rfl (fun v7840 h7840 => ?_)
  refine qs_gd (fun g7842 => ?_)
  refine qs_si hS hM (pa_p hS pl_2271 ts_2271) h7840 g7842 ei2 (fun S7841 M7841 hS7841 hM7841 => ?_)
  refine qs_gr hS7841 pl_2270 ts_2270 rfl ?_
  refine qs_gi hS7841 hM7841 pl_2270 ts_2270 (z := 0) rfl rfl (fun v7844 h7844 => ?_)
  refine qs_gd (fun g7846 => ?_)
  refine qs_si hS7841 hM7841 (pa_p hS7841 pl_2272 ts_2272) h7844 g7846 ei1 (fun S7845 M7845 hS7845 hM7845 => ?_)
  refine qs_gr hS7845 pl_2270 ts_2270 rfl ?_
  refine qs_gi hS7845 hM7845 pl_2270 ts_2270 (z := 0) rfl rfl (fun v7848 h7848 => ?_)
  refine qs_gd (fun g7850 => ?_)
  refine qs_si hS7845 hM7845 (pa_p hS7845 pl_2273 ts_2273) h7848 g7850 k_0 (fun S7849 M7849 hS7849 hM7849 => ?_)
  refine qs_gr hS7849 pl_2270 ts_2270 rfl ?_
  refine qs_gi hS7849 hM7849 pl_2270 ts_2270 (z := 0) rfl rfl (fun v7852 h7852 => ?_)
  refine qs_gd (fun g7854 => ?_)
  refine qs_si hS7849 hM7849 (pa_p hS7849 pl_2274 ts_2274) h7852 g7854 k_0 (fun S7853 M7853 hS7853 hM7853 => ?_)
  refine qs_gr hS7853 pl_2270 ts_2270 rfl ?_
  refine qs_gi hS7853 hM7853 pl_2270 ts_2270 (z := 0) rfl rfl (fun v7856 h7856 => ?_)
  refine qs_gd (fun g7858 => ?_)
  refine qs_si hS7853 hM7853 (pa_p hS7853 pl_2275 ts_2275) h7856 g7858 k_59 (fun S7857 M7857 hS7857 hM7857 => ?_)
  refine qs_gi hS7857 hM7857 pl_2270 ts_2270 (z := 0) rfl rfl (fun v7859 h7859 => ?_)
  refine qs_pi hS7857 hM7857 pl_2270 ts_2270 (z := 0) rfl rfl (p_add h7859 k_1) (fun S7860 M7860 hS7860 hM7860 => ?_)
  refine qs_gi hS7860 hM7860 pl_2270 ts_2270 (z := 0) rfl rfl (fun v7861 h7861 => ?_)
  exact qs_tr (show vi _ _ from (p_sub h7861 k_1)) hS7860 hM7860
set_option maxRecDepth 20000 in
theorem qz_X18_car_J46 {P : Nat → Nat} {S : zm_S} {M : qm} {i1 : Int32} {qi1 : Int} {i2 : Int32} {qi2 : Int} {t1 : Int32} {qt1 : Int} {t2 : Int32} {qt2 : Int} (hS : Sh L xs P S) (hM : qM P S = M) (ei1 : i1.toInt = qi1) (ei2 : i2.toInt = qi2) (et1 : t1.toInt = qt1) (et2 : t2.toInt = qt2) : qs (zf_X18_car_J46 20000 2156 i1 i2 2156 t1 t2 S) (qf_X18_car_J46 20000 qi1 qi2 qt1 qt2 M) (tO (rr L xs P vi)) := by
  unfold zf_X18_car_J46 qf_X18_car_J46
  refine qs_zi hS pl_2156 ts_2156 ?_
  refine qs_b (qz_X18_goes hS hM et1 et2) (fun v7863 S7863 w7863 M7863 h7863 hS7863 hM7863 => ?_)
  refine qs_ite (c_eq h7863 k_0) ?_ ?_
  · exact qs_tr (show vi _ _ from k_0) hS7863 hM7863
  · refine qs_gr hS7863 pl_2156 ts_2156 rfl ?_
    refine qs_zi hS7863 pl_2270 ts_2270 ?_
    refine qs_b (qz_X13_car hS7863 hM7863 ei1 ei2) (fun v7866 S7866 w7866 M7866 h7866 hS7866 hM7866 => ?_)
    exact qs_tr (show vi _ _ from h7866) hS7866 hM7866
set_option maxRecDepth 20000 in
theorem qz_X18_car_J45 {P : Nat → Nat} {S : zm_S} {M : qm} {i1 : Int32} {qi1 : Int} {i2 : Int32} {qi2 : Int} {t1 : Int32} {qt1 : Int} (hS : Sh L xs P S) (hM : qM P S = M) (ei1 : i1.toInt = qi1) (ei2 : i2.toInt = qi2) (et1 : t1.toInt = qt1) : qs (zf_X18_car_J45 20000 2156 i1 i2 2156 t1 S) (qf_X18_car_J45 20000 qi1 qi2 qt1 M) (tO (rr L xs P vi)) := by
  unfold zf_X18_car_J45 qf_X18_car_J45
  exact (qz_X18_car_J46 hS hM ei1 ei2 et1 k_0)
set_option maxRecDepth 20000 in
theorem qz_X18_car_J23 {P : Nat → Nat} {S : zm_S} {M : qm} {i1 : Int32} {qi1 : Int} {i2 : Int32} {qi2 : Int} {t1 : Int32} {qt1 : Int} (hS : Sh L xs P S) (hM : qM P S = M) (ei1 : i1.toInt = qi1) (ei2 : i2.toInt = qi2) (et1 : t1.toInt = qt1) : qs (zf_X18_car_J23 20000 2156 i1 i2 2156 t1 S) (qf_X18_car_J23 20000 qi1 qi2 qt1 M) (tO (rr L xs P vi)) := by
  unfold zf_X18_car_J23 qf_X18_car_J23
  refine qs_gi hS hM pl_2156 ts_2156 (z := 1) rfl rfl (fun v7867 h7867 => ?_)
  refine qs_ite (c_eq h7867 k_0) ?_ ?_
  · exact (qz_X18_car_J45 hS hM ei1 ei2 et1)
  · refine qs_gr hS pl_2156 ts_2156 rfl ?_
    refine qs_gi hS hM pl_2270 ts_2270 (z := 0) rfl rfl (fun v7869 h7869 => ?_)
    refine qs_ite (c_le k_4 h7869) ?_ ?_
    · exact (qz_X18_car_J45 hS hM ei1 ei2 et1)
    · exact (qz_X18_car_J46 hS hM ei1 ei2 et1 k_1)
set_option maxRecDepth 20000 in
theorem qz_X18_car_J22 {P : Nat → Nat} {S : zm_S} {M : qm} {i1 : Int32} {qi1 : Int} {i2 : Int32} {qi2 : Int} (hS : Sh L xs P S) (hM : qM P S = M) (ei1 : i1.toInt = qi1) (ei2 : i2.toInt = qi2) : qs (zf_X18_car_J22 20000 2156 i1 i2 2156 S) (qf_X18_car_J22 20000 qi1 qi2 M) (tO (rr L xs P vi)) := by
  unfold zf_X18_car_J22 qf_X18_car_J22
  exact (qz_X18_car_J23 hS hM ei1 ei2 k_0)
set_option maxRecDepth 20000 in
theorem qz_X18_car {P : Nat → Nat} {S : zm_S} {M : qm} {i1 : Int32} {qi1 : Int} {i2 : Int32} {qi2 : Int} (hS : Sh L xs P S) (hM : qM P S = M) (ei1 : i1.toInt = qi1) (ei2 : i2.toInt = qi2) : qs (zf_X18_car 20000 2156 i1 i2 S) (qf_X18_car 20000 qi1 qi2 M) (tO (rr L xs P vi)) := by
  unfold zf_X18_car qf_X18_car
  refine qs_bp (qz_X13_isFloor hS hM ei1) (fun v7870 S7870 w7870 h7870 hS7870 hM7870 => ?_)
  refine qs_ite (c_eq h7870 k_0) ?_ ?_
  · exact (qz_X18_car_J22 hS7870 hM7870 ei1 ei2)
  · refine qs_ite (c_lt ei2 k_1) ?_ ?_
    · exact (qz_X18_car_J22 hS7870 hM7870 ei1 ei2)
    · refine qs_ite (c_lt k_5 ei2) ?_ ?_
      · exact (qz_X18_car_J22 hS7870 hM7870 ei1 ei2)
      · exact (qz_X18_car_J23 hS7870 hM7870 ei1 ei2 k_1)
set_option maxRecDepth 20000 in
theorem qz_X11_isCar {P : Nat → Nat} {S : zm_S} {M : qm} {i1 : Int32} {qi1 : Int} (hS : Sh L xs P S) (hM : qM P S = M) (ei1 : i1.toInt = qi1) : qs (zf_X11_isCar 20000 6 i1 S) (qf_X11_isCar 20000 qi1 M) (tO (rp L xs P M vi)) := by
  unfold zf_X11_isCar qf_X11_isCar
  refine qs_gr hS pl_6 ts_6 rfl ?_
  refine qs_gi hS hM pl_1337 ts_1337 (z := 0) rfl rfl (fun v7872 h7872 => ?_)
  refine qs_bp (qz_X11_isWithin hS hM ei1 k_0 (p_sub h7872 k_1)) (fun v7873 S7873 w7873 h7873 hS7873 hM7873 => ?_)
  refine qs_ite (or_congr (c_eq h7873 k_0) (c_eq h7873 k_1)) ?_ ?_
  · exact qs_tp (show vi _ _ from h7873) hS7873 hM7873
  · exact qs_none
set_option maxRecDepth 20000 in
theorem qz_X3_setFree {P : Nat → Nat} {S : zm_S} {M : qm} {i1 : Int32} {qi1 : Int} {i2 : Int32} {qi2 : Int} {i3 : Int32} {qi3 : Int} (hS : Sh L xs P S) (hM : qM P S = M) (ei1 : i1.toInt = qi1) (ei2 : i2.toInt = qi2) (ei3 : i3.toInt = qi3) : qs (zf_X3_setFree 20000 1337 i1 i2 i3 S) (qf_X3_setFree 20000 qi1 qi2 qi3 M) (tO (rr L xs P vu)) := by
  unfold zf_X3_setFree qf_X3_setFree
  refine qs_gr hS pl_1337 ts_1337 rfl ?_
  refine qs_gd (fun g7876 => ?_)
  refine qs_xt hS pl_1338 ts_1338 (Or.inl rfl) ei1 g7876 (fun b7875 r7875 => ?_)
  refine qs_ysi hS hM qt_1338 tq_1338 r7875 k_0 (by decide) ei2 (fun S7877 M7877 hS7877 hM7877 => ?_)
  refine qs_gr hS7877 pl_1337 ts_1337 rfl ?_
  refine qs_gd (fun g7880 => ?_)
  refine qs_xt hS7877 pl_1338 ts_1338 (Or.inl rfl) ei1 g7880 (fun b7879 r7879 => ?_)
  refine qs_ysi hS7877 hM7877 qt_1338 tq_1338 r7879 k_2 (by decide) ei3 (fun S7881 M7881 hS7881 hM7881 => ?_)
  exact qs_tr (show vu _ _ from trivial) hS7881 hM7881
set_option maxRecDepth 20000 in
theorem qz_X11_free_J31 {P : Nat → Nat} {S : zm_S} {M : qm} {i1 : Int32} {qi1 : Int} {i2 : Int32} {qi2 : Int} {i3 : Int32} {qi3 : Int} {t0 : Int32} {qt0 : Int} (hS : Sh L xs P S) (hM : qM P S = M) (ei1 : i1.toInt = qi1) (ei2 : i2.toInt = qi2) (ei3 : i3.toInt = qi3) (et0 : t0.toInt = qt0) : qs (zf_X11_free_J31 20000 6 i1 i2 i3 t0 S) (qf_X11_free_J31 20000 qi1 qi2 qi3 qt0 M) (tO (rr L xs P (vs vu ve))) := by
  unfold zf_X11_free_J31 qf_X11_free_J31
  refine qs_xp (qz_X11_needArgument hS hM et0) ?_ ?_
  · intro v7883 S7883 w7883 h7883 hS7883 hM7883
    dsimp only
    refine qs_gi hS7883 hM7883 pl_6 ts_6 (z := 11) rfl rfl (fun v7884 h7884 => ?_)
    refine qs_xp (qz_X11_needState hS7883 hM7883 h7884) ?_ ?_
    · intro v7886 S7886 w7886 h7886 hS7886 hM7886
      dsimp only
      refine qs_gr hS7886 pl_6 ts_6 rfl ?_
      refine qs_zi hS7886 pl_1337 ts_1337 ?_
      refine qs_b (qz_X3_setFree hS7886 hM7886 ei1 ei2 ei3) (fun v7889 S7889 w7889 M7889 h7889 hS7889 hM7889 => ?_)
      exact qs_tr (show (vs vu ve) _ _ from trivial) hS7889 hM7889
    · intro v7886 S7886 hS7886 hM7886
      dsimp only
      exact qs_tr (show (vs vu ve) _ _ from rfl) hS7886 hM7886
  · intro v7883 S7883 hS7883 hM7883
    dsimp only
    exact qs_tr (show (vs vu ve) _ _ from rfl) hS7883 hM7883
set_option maxRecDepth 20000 in
theorem qz_X11_free_J30 {P : Nat → Nat} {S : zm_S} {M : qm} {i1 : Int32} {qi1 : Int} {i2 : Int32} {qi2 : Int} {i3 : Int32} {qi3 : Int} (hS : Sh L xs P S) (hM : qM P S = M) (ei1 : i1.toInt = qi1) (ei2 : i2.toInt = qi2) (ei3 : i3.toInt = qi3) : qs (zf_X11_free_J30 20000 6 i1 i2 i3 S) (qf_X11_free_J30 20000 qi1 qi2 qi3 M) (tO (rr L xs P (vs vu ve))) := by
  unfold zf_X11_free_J30 qf_X11_free_J30
  exact (qz_X11_free_J31 hS hM ei1 ei2 ei3 k_0)
set_option maxRecDepth 20000 in
theorem qz_X11_free {P : Nat → Nat} {S : zm_S} {M : qm} {i1 : Int32} {qi1 : Int} {i2 : Int32} {qi2 : Int} {i3 : Int32} {qi3 : Int} (hS : Sh L xs P S) (hM : qM P S = M) (ei1 : i1.toInt = qi1) (ei2 : i2.toInt = qi2) (ei3 : i3.toInt = qi3) : qs (zf_X11_free 20000 6 i1 i2 i3 S) (qf_X11_free 20000 qi1 qi2 qi3 M) (tO (rr L xs P (vs vu ve))) := by
  unfold zf_X11_free qf_X11_free
  refine qs_zi hS pl_6 ts_6 ?_
  refine qs_bp (qz_X11_isCar hS hM ei1) (fun v7891 S7891 w7891 h7891 hS7891 hM7891 => ?_)
  refine qs_ite (c_eq h7891 k_0) ?_ ?_
  · exact (qz_X11_free_J30 hS7891 hM7891 ei1 ei2 ei3)
  · refine qs_bp (qz_X11_isFloor hS7891 hM7891 ei2) (fun v7892 S7892 w7892 h7892 hS7892 hM7892 => ?_)
    refine qs_ite (c_eq h7892 k_0) ?_ ?_
    · exact (qz_X11_free_J30 hS7892 hM7892 ei1 ei2 ei3)
    · refine qs_bp (qz_X11_isWithin hS7892 hM7892 ei3 k_0 k_100000) (fun v7893 S7893 w7893 h7893 hS7893 hM7893 => ?_)
      refine qs_ite (c_eq h7893 k_0) ?_ ?_
      · exact (qz_X11_free_J30 hS7893 hM7893 ei1 ei2 ei3)
      · exact (qz_X11_free_J31 hS7893 hM7893 ei1 ei2 ei3 k_1)
set_option maxRecDepth 20000 in
theorem qz_L_free {P : Nat → Nat} {S : zm_S} {M : qm} {i1 : Int32} {qi1 : Int} {i2 : Int32} {qi2 : Int} {i3 : Int32} {qi3 : Int} (hS : Sh L xs P S) (hM : qM P S = M) (ei1 : i1.toInt = qi1) (ei2 : i2.toInt = qi2) (ei3 : i3.toInt = qi3) : qs (zf_L_free 20000 6 i1 i2 i3 S) (qf_L_free 20000 qi1 qi2 qi3 M) (tO (rr L xs P vi)) := by
  unfold zf_L_free qf_L_free
  refine qs_zi hS pl_6 ts_6 ?_
  refine qs_xr (qz_X11_free hS hM ei1 ei2 ei3) ?_ ?_
  · intro v7896 S7896 w7896 M7896 h7896 hS7896 hM7896
    dsimp only
    exact qs_tr (show vi _ _ from k_0) hS7896 hM7896
  · intro v7896 S7896 M7896 hS7896 hM7896
    dsimp only
    refine qs_ite Iff.rfl ?_ ?_
    · exact qs_tr (show vi _ _ from k_1) hS7896 hM7896
    · refine qs_ite Iff.rfl ?_ ?_
      · exact qs_tr (show vi _ _ from k_2) hS7896 hM7896
      · exact qs_none
set_option maxRecDepth 20000 in
theorem qz_X18_free_J38 {P : Nat → Nat} {S : zm_S} {M : qm} {i1 : Int32} {qi1 : Int} {i2 : Int32} {qi2 : Int} {i3 : Int32} {qi3 : Int} {t1 : Int32} {qt1 : Int} (hS : Sh L xs P S) (hM : qM P S = M) (ei1 : i1.toInt = qi1) (ei2 : i2.toInt = qi2) (ei3 : i3.toInt = qi3) (et1 : t1.toInt = qt1) : qs (zf_X18_free_J38 20000 2156 i1 i2 i3 2156 t1 S) (qf_X18_free_J38 20000 qi1 qi2 qi3 qt1 M) (tO (rr L xs P vu)) := by
  unfold zf_X18_free_J38 qf_X18_free_J38
  refine qs_gi hS hM pl_2156 ts_2156 (z := 1) rfl rfl (fun v7897 h7897 => ?_)
  refine qs_zi hS pl_2156 ts_2156 ?_
  refine qs_b (qz_X18_goes hS hM et1 h7897) (fun v7899 S7899 w7899 M7899 h7899 hS7899 hM7899 => ?_)
  refine qs_ite (c_eq h7899 k_0) ?_ ?_
  · exact qs_tr (show vu _ _ from trivial) hS7899 hM7899
  · refine qs_gr hS7899 pl_2156 ts_2156 rfl ?_
    refine qs_gr hS7899 pl_2270 ts_2270 rfl ?_
    refine qs_gd (fun g7903 => ?_)
    refine qs_si hS7899 hM7899 (pa_p hS7899 pl_2272 ts_2272) ei1 g7903 ei2 (fun S7902 M7902 hS7902 hM7902 => ?_)
    refine qs_gr hS7902 pl_2156 ts_2156 rfl ?_
    refine qs_gr hS7902 pl_2270 ts_2270 rfl ?_
    refine qs_gd (fun g7907 => ?_)
    refine qs_si hS7902 hM7902 (pa_p hS7902 pl_2273 ts_2273) ei1 g7907 ei3 (fun S7906 M7906 hS7906 hM7906 => ?_)
    exact qs_tr (show vu _ _ from trivial) hS7906 hM7906
set_option maxRecDepth 20000 in
theorem qz_X18_free_J37 {P : Nat → Nat} {S : zm_S} {M : qm} {i1 : Int32} {qi1 : Int} {i2 : Int32} {qi2 : Int} {i3 : Int32} {qi3 : Int} (hS : Sh L xs P S) (hM : qM P S = M) (ei1 : i1.toInt = qi1) (ei2 : i2.toInt = qi2) (ei3 : i3.toInt = qi3) : qs (zf_X18_free_J37 20000 2156 i1 i2 i3 2156 S) (qf_X18_free_J37 20000 qi1 qi2 qi3 M) (tO (rr L xs P vu)) := by
  unfold zf_X18_free_J37 qf_X18_free_J37
  exact (qz_X18_free_J38 hS hM ei1 ei2 ei3 k_0)
set_option maxRecDepth 20000 in
theorem qz_X18_free {P : Nat → Nat} {S : zm_S} {M : qm} {i1 : Int32} {qi1 : Int} {i2 : Int32} {qi2 : Int} {i3 : Int32} {qi3 : Int} (hS : Sh L xs P S) (hM : qM P S = M) (ei1 : i1.toInt = qi1) (ei2 : i2.toInt = qi2) (ei3 : i3.toInt = qi3) : qs (zf_X18_free 20000 2156 i1 i2 i3 S) (qf_X18_free 20000 qi1 qi2 qi3 M) (tO (rr L xs P vu)) := by
  unfold zf_X18_free qf_X18_free
  refine qs_gr hS pl_2156 ts_2156 rfl ?_
  refine qs_gi hS hM pl_2270 ts_2270 (z := 0) rfl rfl (fun v7909 h7909 => ?_)
  refine qs_bp (qz_X18_isIn hS hM ei1 h7909) (fun v7910 S7910 w7910 h7910 hS7910 hM7910 => ?_)
  refine qs_ite (c_eq h7910 k_0) ?_ ?_
  · exact (qz_X18_free_J37 hS7910 hM7910 ei1 ei2 ei3)
  · refine qs_bp (qz_X13_isFloor hS7910 hM7910 ei2) (fun v7911 S7911 w7911 h7911 hS7911 hM7911 => ?_)
    refine qs_ite (c_eq h7911 k_0) ?_ ?_
    · exact (qz_X18_free_J37 hS7911 hM7911 ei1 ei2 ei3)
    · refine qs_ite (c_lt ei3 k_0) ?_ ?_
      · exact (qz_X18_free_J37 hS7911 hM7911 ei1 ei2 ei3)
      · refine qs_ite (c_lt k_100000 ei3) ?_ ?_
        · exact (qz_X18_free_J37 hS7911 hM7911 ei1 ei2 ei3)
        · exact (qz_X18_free_J38 hS7911 hM7911 ei1 ei2 ei3 k_1)
set_option maxRecDepth 20000 in
theorem qz_X3_setSpan {P : Nat → Nat} {S : zm_S} {M : qm} {i1 : Int32} {qi1 : Int} {i2 : Int32} {qi2 : Int} {i3 : Int32} {qi3 : Int} (hS : Sh L xs P S) (hM : qM P S = M) (ei1 : i1.toInt = qi1) (ei2 : i2.toInt = qi2) (ei3 : i3.toInt = qi3) : qs (zf_X3_setSpan 20000 1337 i1 i2 i3 S) (qf_X3_setSpan 20000 qi1 qi2 qi3 M) (tO (rr L xs P vu)) := by
  unfold zf_X3_setSpan qf_X3_setSpan
  refine qs_gr hS pl_1337 ts_1337 rfl ?_
  refine qs_gd (fun g7914 => ?_)
  refine qs_xt hS pl_1338 ts_1338 (Or.inl rfl) ei1 g7914 (fun b7913 r7913 => ?_)
  refine qs_ysi hS hM qt_1338 tq_1338 r7913 k_3 (by decide) ei2 (fun S7915 M7915 hS7915 hM7915 => ?_)
  refine qs_gr hS7915 pl_1337 ts_1337 rfl ?_
  refine qs_gd (fun g7918 => ?_)
  refine qs_xt hS7915 pl_1338 ts_1338 (Or.inl rfl) ei1 g7918 (fun b7917 r7917 => ?_)
  refine qs_ysi hS7915 hM7915 qt_1338 tq_1338 r7917 k_4 (by decide) ei3 (fun S7919 M7919 hS7919 hM7919 => ?_)
  exact qs_tr (show vu _ _ from trivial) hS7919 hM7919
set_option maxRecDepth 20000 in
theorem qz_X11_span_J32 {P : Nat → Nat} {S : zm_S} {M : qm} {i1 : Int32} {qi1 : Int} {i2 : Int32} {qi2 : Int} {i3 : Int32} {qi3 : Int} {t0 : Int32} {qt0 : Int} (hS : Sh L xs P S) (hM : qM P S = M) (ei1 : i1.toInt = qi1) (ei2 : i2.toInt = qi2) (ei3 : i3.toInt = qi3) (et0 : t0.toInt = qt0) : qs (zf_X11_span_J32 20000 6 i1 i2 i3 t0 S) (qf_X11_span_J32 20000 qi1 qi2 qi3 qt0 M) (tO (rr L xs P (vs vu ve))) := by
  unfold zf_X11_span_J32 qf_X11_span_J32
  refine qs_xp (qz_X11_needArgument hS hM et0) ?_ ?_
  · intro v7921 S7921 w7921 h7921 hS7921 hM7921
    dsimp only
    refine qs_gi hS7921 hM7921 pl_6 ts_6 (z := 11) rfl rfl (fun v7922 h7922 => ?_)
    refine qs_xp (qz_X11_needState hS7921 hM7921 h7922) ?_ ?_
    · intro v7924 S7924 w7924 h7924 hS7924 hM7924
      dsimp only
      refine qs_gr hS7924 pl_6 ts_6 rfl ?_
      refine qs_zi hS7924 pl_1337 ts_1337 ?_
      refine qs_b (qz_X3_setSpan hS7924 hM7924 ei1 ei2 ei3) (fun v7927 S7927 w7927 M7927 h7927 hS7927 hM7927 => ?_)
      exact qs_tr (show (vs vu ve) _ _ from trivial) hS7927 hM7927
    · intro v7924 S7924 hS7924 hM7924
      dsimp only
      exact qs_tr (show (vs vu ve) _ _ from rfl) hS7924 hM7924
  · intro v7921 S7921 hS7921 hM7921
    dsimp only
    exact qs_tr (show (vs vu ve) _ _ from rfl) hS7921 hM7921
set_option maxRecDepth 20000 in
theorem qz_X11_span_J31 {P : Nat → Nat} {S : zm_S} {M : qm} {i1 : Int32} {qi1 : Int} {i2 : Int32} {qi2 : Int} {i3 : Int32} {qi3 : Int} (hS : Sh L xs P S) (hM : qM P S = M) (ei1 : i1.toInt = qi1) (ei2 : i2.toInt = qi2) (ei3 : i3.toInt = qi3) : qs (zf_X11_span_J31 20000 6 i1 i2 i3 S) (qf_X11_span_J31 20000 qi1 qi2 qi3 M) (tO (rr L xs P (vs vu ve))) := by
  unfold zf_X11_span_J31 qf_X11_span_J31
  exact (qz_X11_span_J32 hS hM ei1 ei2 ei3 k_0)
set_option maxRecDepth 20000 in
theorem qz_X11_span {P : Nat → Nat} {S : zm_S} {M : qm} {i1 : Int32} {qi1 : Int} {i2 : Int32} {qi2 : Int} {i3 : Int32} {qi3 : Int} (hS : Sh L xs P S) (hM : qM P S = M) (ei1 : i1.toInt = qi1) (ei2 : i2.toInt = qi2) (ei3 : i3.toInt = qi3) : qs (zf_X11_span 20000 6 i1 i2 i3 S) (qf_X11_span 20000 qi1 qi2 qi3 M) (tO (rr L xs P (vs vu ve))) := by
  unfold zf_X11_span qf_X11_span
  refine qs_zi hS pl_6 ts_6 ?_
  refine qs_bp (qz_X11_isCar hS hM ei1) (fun v7929 S7929 w7929 h7929 hS7929 hM7929 => ?_)
  refine qs_ite (c_eq h7929 k_0) ?_ ?_
  · exact (qz_X11_span_J31 hS7929 hM7929 ei1 ei2 ei3)
  · refine qs_bp (qz_X11_isFloor hS7929 hM7929 ei2) (fun v7930 S7930 w7930 h7930 hS7930 hM7930 => ?_)
    refine qs_ite (c_eq h7930 k_0) ?_ ?_
    · exact (qz_X11_span_J31 hS7930 hM7930 ei1 ei2 ei3)
    · refine qs_bp (qz_X11_isFloor hS7930 hM7930 ei3) (fun v7931 S7931 w7931 h7931 hS7931 hM7931 => ?_)
      refine qs_ite (c_eq h7931 k_0) ?_ ?_
      · exact (qz_X11_span_J31 hS7931 hM7931 ei1 ei2 ei3)
      · refine qs_ite (c_lt ei3 ei2) ?_ ?_
        · exact (qz_X11_span_J31 hS7931 hM7931 ei1 ei2 ei3)
        · exact (qz_X11_span_J32 hS7931 hM7931 ei1 ei2 ei3 k_1)
set_option maxRecDepth 20000 in
theorem qz_L_span {P : Nat → Nat} {S : zm_S} {M : qm} {i1 : Int32} {qi1 : Int} {i2 : Int32} {qi2 : Int} {i3 : Int32} {qi3 : Int} (hS : Sh L xs P S) (hM : qM P S = M) (ei1 : i1.toInt = qi1) (ei2 : i2.toInt = qi2) (ei3 : i3.toInt = qi3) : qs (zf_L_span 20000 6 i1 i2 i3 S) (qf_L_span 20000 qi1 qi2 qi3 M) (tO (rr L xs P vi)) := by
  unfold zf_L_span qf_L_span
  refine qs_zi hS pl_6 ts_6 ?_
  refine qs_xr (qz_X11_span hS hM ei1 ei2 ei3) ?_ ?_
  · intro v7934 S7934 w7934 M7934 h7934 hS7934 hM7934
    dsimp only
    exact qs_tr (show vi _ _ from k_0) hS7934 hM7934
  · intro v7934 S7934 M7934 hS7934 hM7934
    dsimp only
    refine qs_ite Iff.rfl ?_ ?_
    · exact qs_tr (show vi _ _ from k_1) hS7934 hM7934
    · refine qs_ite Iff.rfl ?_ ?_
      · exact qs_tr (show vi _ _ from k_2) hS7934 hM7934
      · exact qs_none
set_option maxRecDepth 20000 in
theorem qz_X18_span_J39 {P : Nat → Nat} {S : zm_S} {M : qm} {i1 : Int32} {qi1 : Int} {i2 : Int32} {qi2 : Int} {i3 : Int32} {qi3 : Int} {t1 : Int32} {qt1 : Int} (hS : Sh L xs P S) (hM : qM P S = M) (ei1 : i1.toInt = qi1) (ei2 : i2.toInt = qi2) (ei3 : i3.toInt = qi3) (et1 : t1.toInt = qt1) : qs (zf_X18_span_J39 20000 2156 i1 i2 i3 2156 t1 S) (qf_X18_span_J39 20000 qi1 qi2 qi3 qt1 M) (tO (rr L xs P vu)) := by
  unfold zf_X18_span_J39 qf_X18_span_J39
  refine qs_gi hS hM pl_2156 ts_2156 (z := 1) rfl rfl (fun v7935 h7935 => ?_)
  refine qs_zi hS pl_2156 ts_2156 ?_
  refine qs_b (qz_X18_goes hS hM et1 h7935) (fun v7937 S7937 w7937 M7937 h7937 hS7937 hM7937 => ?_)
  refine qs_ite (c_eq h7937 k_0) ?_ ?_
  · exact qs_tr (show vu _ _ from trivial) hS7937 hM7937
  · refine qs_gr hS7937 pl_2156 ts_2156 rfl ?_
    refine qs_gr hS7937 pl_2270 ts_2270 rfl ?_
    refine qs_gd (fun g7941 => ?_)
    refine qs_si hS7937 hM7937 (pa_p hS7937 pl_2274 ts_2274) ei1 g7941 ei2 (fun S7940 M7940 hS7940 hM7940 => ?_)
    refine qs_gr hS7940 pl_2156 ts_2156 rfl ?_
    refine qs_gr hS7940 pl_2270 ts_2270 rfl ?_
    refine qs_gd (fun g7945 => ?_)
    refine qs_si hS7940 hM7940 (pa_p hS7940 pl_2275 ts_2275) ei1 g7945 ei3 (fun S7944 M7944 hS7944 hM7944 => ?_)
    exact qs_tr (show vu _ _ from trivial) hS7944 hM7944
set_option maxRecDepth 20000 in
theorem qz_X18_span_J38 {P : Nat → Nat} {S : zm_S} {M : qm} {i1 : Int32} {qi1 : Int} {i2 : Int32} {qi2 : Int} {i3 : Int32} {qi3 : Int} (hS : Sh L xs P S) (hM : qM P S = M) (ei1 : i1.toInt = qi1) (ei2 : i2.toInt = qi2) (ei3 : i3.toInt = qi3) : qs (zf_X18_span_J38 20000 2156 i1 i2 i3 2156 S) (qf_X18_span_J38 20000 qi1 qi2 qi3 M) (tO (rr L xs P vu)) := by
  unfold zf_X18_span_J38 qf_X18_span_J38
  exact (qz_X18_span_J39 hS hM ei1 ei2 ei3 k_0)
set_option maxRecDepth 20000 in
theorem qz_X18_span {P : Nat → Nat} {S : zm_S} {M : qm} {i1 : Int32} {qi1 : Int} {i2 : Int32} {qi2 : Int} {i3 : Int32} {qi3 : Int} (hS : Sh L xs P S) (hM : qM P S = M) (ei1 : i1.toInt = qi1) (ei2 : i2.toInt = qi2) (ei3 : i3.toInt = qi3) : qs (zf_X18_span 20000 2156 i1 i2 i3 S) (qf_X18_span 20000 qi1 qi2 qi3 M) (tO (rr L xs P vu)) := by
  unfold zf_X18_span qf_X18_span
  refine qs_gr hS pl_2156 ts_2156 rfl ?_
  refine qs_gi hS hM pl_2270 ts_2270 (z := 0) rfl rfl (fun v7947 h7947 => ?_)
  refine qs_bp (qz_X18_isIn hS hM ei1 h7947) (fun v7948 S7948 w7948 h7948 hS7948 hM7948 => ?_)
  refine qs_ite (c_eq h7948 k_0) ?_ ?_
  · exact (qz_X18_span_J38 hS7948 hM7948 ei1 ei2 ei3)
  · refine qs_bp (qz_X13_isFloor hS7948 hM7948 ei2) (fun v7949 S7949 w7949 h7949 hS7949 hM7949 => ?_)
    refine qs_ite (c_eq h7949 k_0) ?_ ?_
    · exact (qz_X18_span_J38 hS7949 hM7949 ei1 ei2 ei3)
    · refine qs_bp (qz_X13_isFloor hS7949 hM7949 ei3) (fun v7950 S7950 w7950 h7950 hS7950 hM7950 => ?_)
      refine qs_ite (c_eq h7950 k_0) ?_ ?_
      · exact (qz_X18_span_J38 hS7950 hM7950 ei1 ei2 ei3)
      · refine qs_ite (c_lt ei3 ei2) ?_ ?_
        · exact (qz_X18_span_J38 hS7950 hM7950 ei1 ei2 ei3)
        · exact (qz_X18_span_J39 hS7950 hM7950 ei1 ei2 ei3 k_1)
set_option maxRecDepth 20000 in
theorem qz_X3_addCall {P : Nat → Nat} {S : zm_S} {M : qm} {i1 : Int32} {qi1 : Int} {i2 : Int32} {qi2 : Int} {i3 : Int32} {qi3 : Int} (hS : Sh L xs P S) (hM : qM P S = M) (ei1 : i1.toInt = qi1) (ei2 : i2.toInt = qi2) (ei3 : i3.toInt = qi3) : qs (zf_X3_addCall 20000 1337 i1 i2 i3 S) (qf_X3_addCall 20000 qi1 qi2 qi3 M) (tO (rr L xs P vi)) := by
  unfold zf_X3_addCall qf_X3_addCall
  refine qs_gi hS hM pl_1337 ts_1337 (z := 2) rfl rfl (fun v7951 h7951 => ?_)
  refine qs_ite (c_le k_400 h7951) ?_ ?_
  · exact qs_tr (show vi _ _ from k_m1) hS hM
  · refine qs_gi hS hM pl_1337 ts_1337 (z := 4) rfl rfl (fun v7952 h7952 => ?_)
    refine qs_ite (c_lt h7952 k_6) ?_ ?_
    · refine qs_gr hS pl_1337 ts_1337 rfl ?_
      refine qs_gi hS hM pl_1337 ts_1337 (z := 2) rfl rfl (fun v7954 h7954 => ?_)
      refine qs_gd (fun g7956 => ?_)
      refine qs_xt hS pl_1343 ts_1343 (Or.inl rfl) h7954 g7956 (fun b7955 r7955 => ?_)
      refine qs_ysi hS hM qt_1343 tq_1343 r7955 k_0 (by decide) ei1 (fun S7957 M7957 hS7957 hM7957 => ?_)
      refine qs_gr hS7957 pl_1337 ts_1337 rfl ?_
      refine qs_gi hS7957 hM7957 pl_1337 ts_1337 (z := 2) rfl rfl (fun v7959 h7959 => ?_)
      refine qs_gd (fun g7961 => ?_)
      refine qs_xt hS7957 pl_1343 ts_1343 (Or.inl rfl) h7959 g7961 (fun b7960 r7960 => ?_)
      refine qs_ysi hS7957 hM7957 qt_1343 tq_1343 r7960 k_1 (by decide) ei2 (fun S7962 M7962 hS7962 hM7962 => ?_)
      refine qs_gr hS7962 pl_1337 ts_1337 rfl ?_
      refine qs_gi hS7962 hM7962 pl_1337 ts_1337 (z := 2) rfl rfl (fun v7964 h7964 => ?_)
      refine qs_gd (fun g7966 => ?_)
      refine qs_xt hS7962 pl_1343 ts_1343 (Or.inl rfl) h7964 g7966 (fun b7965 r7965 => ?_)
      refine qs_ysi hS7962 hM7962 qt_1343 tq_1343 r7965 k_2 (by decide) ei3 (fun S7967 M7967 hS7967 hM7967 => ?_)
      refine qs_gr hS7967 pl_1337 ts_1337 rfl ?_
      refine qs_gi hS7967 hM7967 pl_1337 ts_1337 (z := 2) rfl rfl (fun v7969 h7969 => ?_)
      refine qs_gd (fun g7971 => ?_)
      refine qs_xt hS7967 pl_1745 ts_1745 (Or.inl rfl) h7969 g7971 (fun b7970 r7970 => ?_)
      refine qs_fyi hS7967 hM7967 qt_1745 tq_1745 r7970 (by decide) k_m1 (fun S7972 M7972 hS7972 hM7972 => ?_)
      refine qs_gr hS7972 pl_1337 ts_1337 rfl ?_
      refine qs_gi hS7972 hM7972 pl_1337 ts_1337 (z := 4) rfl rfl (fun v7974 h7974 => ?_)
      refine qs_gi hS7972 hM7972 pl_1337 ts_1337 (z := 2) rfl rfl (fun v7975 h7975 => ?_)
      refine qs_gd (fun g7977 => ?_)
      refine qs_si hS7972 hM7972 (pa_p hS7972 pl_1744 ts_1744) h7974 g7977 h7975 (fun S7976 M7976 hS7976 hM7976 => ?_)
      refine qs_gi hS7976 hM7976 pl_1337 ts_1337 (z := 4) rfl rfl (fun v7978 h7978 => ?_)
      refine qs_pi hS7976 hM7976 pl_1337 ts_1337 (z := 4) rfl rfl (p_add h7978 k_1) (fun S7979 M7979 hS7979 hM7979 => ?_)
      refine qs_gi hS7979 hM7979 pl_1337 ts_1337 (z := 2) rfl rfl (fun v7980 h7980 => ?_)
      refine qs_pi hS7979 hM7979 pl_1337 ts_1337 (z := 2) rfl rfl (p_add h7980 k_1) (fun S7981 M7981 hS7981 hM7981 => ?_)
      refine qs_gi hS7981 hM7981 pl_1337 ts_1337 (z := 2) rfl rfl (fun v7982 h7982 => ?_)
      exact qs_tr (show vi _ _ from (p_sub h7982 k_1)) hS7981 hM7981
    · exact qs_tr (show vi _ _ from k_m1) hS hM
set_option maxRecDepth 20000 in
theorem qz_X11_call_J64 {P : Nat → Nat} {S : zm_S} {M : qm} {i1 : Int32} {qi1 : Int} {i2 : Int32} {qi2 : Int} {t0 : Int32} {qt0 : Int} (hS : Sh L xs P S) (hM : qM P S = M) (ei1 : i1.toInt = qi1) (ei2 : i2.toInt = qi2) (et0 : t0.toInt = qt0) : qs (zf_X11_call_J64 20000 6 i1 i2 t0 S) (qf_X11_call_J64 20000 qi1 qi2 qt0 M) (tO (rr L xs P (vs vi ve))) := by
  unfold zf_X11_call_J64 qf_X11_call_J64
  refine qs_xp (qz_X11_needState hS hM et0) ?_ ?_
  · intro v7984 S7984 w7984 h7984 hS7984 hM7984
    dsimp only
    refine qs_gr hS7984 pl_6 ts_6 rfl ?_
    refine qs_gi hS7984 hM7984 pl_6 ts_6 (z := 12) rfl rfl (fun v7986 h7986 => ?_)
    refine qs_zi hS7984 pl_1337 ts_1337 ?_
    refine qs_b (qz_X3_addCall hS7984 hM7984 ei1 ei2 h7986) (fun v7988 S7988 w7988 M7988 h7988 hS7988 hM7988 => ?_)
    exact qs_tr (show (vs vi ve) _ _ from h7988) hS7988 hM7988
  · intro v7984 S7984 hS7984 hM7984
    dsimp only
    exact qs_tr (show (vs vi ve) _ _ from rfl) hS7984 hM7984
set_option maxRecDepth 20000 in
theorem qz_X11_call_J63 {P : Nat → Nat} {S : zm_S} {M : qm} {i1 : Int32} {qi1 : Int} {i2 : Int32} {qi2 : Int} (hS : Sh L xs P S) (hM : qM P S = M) (ei1 : i1.toInt = qi1) (ei2 : i2.toInt = qi2) : qs (zf_X11_call_J63 20000 6 i1 i2 S) (qf_X11_call_J63 20000 qi1 qi2 M) (tO (rr L xs P (vs vi ve))) := by
  unfold zf_X11_call_J63 qf_X11_call_J63
  exact (qz_X11_call_J64 hS hM ei1 ei2 k_0)
set_option maxRecDepth 20000 in
theorem qz_X11_call_J24 {P : Nat → Nat} {S : zm_S} {M : qm} {i1 : Int32} {qi1 : Int} {i2 : Int32} {qi2 : Int} {t0 : Int32} {qt0 : Int} (hS : Sh L xs P S) (hM : qM P S = M) (ei1 : i1.toInt = qi1) (ei2 : i2.toInt = qi2) (et0 : t0.toInt = qt0) : qs (zf_X11_call_J24 20000 6 i1 i2 t0 S) (qf_X11_call_J24 20000 qi1 qi2 qt0 M) (tO (rr L xs P (vs vi ve))) := by
  unfold zf_X11_call_J24 qf_X11_call_J24
  refine qs_xp (qz_X11_needArgument hS hM et0) ?_ ?_
  · intro v7990 S7990 w7990 h7990 hS7990 hM7990
    dsimp only
    refine qs_gi hS7990 hM7990 pl_6 ts_6 (z := 11) rfl rfl (fun v7991 h7991 => ?_)
    refine qs_ite (c_eq h7991 k_0) ?_ ?_
    · exact (qz_X11_call_J63 hS7990 hM7990 ei1 ei2)
    · refine qs_gr hS7990 pl_6 ts_6 rfl ?_
      refine qs_gi hS7990 hM7990 pl_1337 ts_1337 (z := 4) rfl rfl (fun v7993 h7993 => ?_)
      refine qs_ite (c_le k_6 h7993) ?_ ?_
      · exact (qz_X11_call_J63 hS7990 hM7990 ei1 ei2)
      · refine qs_gr hS7990 pl_6 ts_6 rfl ?_
        refine qs_gi hS7990 hM7990 pl_1337 ts_1337 (z := 2) rfl rfl (fun v7995 h7995 => ?_)
        refine qs_ite (c_le k_400 h7995) ?_ ?_
        · exact (qz_X11_call_J63 hS7990 hM7990 ei1 ei2)
        · exact (qz_X11_call_J64 hS7990 hM7990 ei1 ei2 k_1)
  · intro v7990 S7990 hS7990 hM7990
    dsimp only
    exact qs_tr (show (vs vi ve) _ _ from rfl) hS7990 hM7990
set_option maxRecDepth 20000 in
theorem qz_X11_call_J23 {P : Nat → Nat} {S : zm_S} {M : qm} {i1 : Int32} {qi1 : Int} {i2 : Int32} {qi2 : Int} (hS : Sh L xs P S) (hM : qM P S = M) (ei1 : i1.toInt = qi1) (ei2 : i2.toInt = qi2) : qs (zf_X11_call_J23 20000 6 i1 i2 S) (qf_X11_call_J23 20000 qi1 qi2 M) (tO (rr L xs P (vs vi ve))) := by
  unfold zf_X11_call_J23 qf_X11_call_J23
  exact (qz_X11_call_J24 hS hM ei1 ei2 k_0)
set_option maxRecDepth 20000 in
theorem qz_X11_call {P : Nat → Nat} {S : zm_S} {M : qm} {i1 : Int32} {qi1 : Int} {i2 : Int32} {qi2 : Int} (hS : Sh L xs P S) (hM : qM P S = M) (ei1 : i1.toInt = qi1) (ei2 : i2.toInt = qi2) : qs (zf_X11_call 20000 6 i1 i2 S) (qf_X11_call 20000 qi1 qi2 M) (tO (rr L xs P (vs vi ve))) := by
  unfold zf_X11_call qf_X11_call
  refine qs_bp (qz_X11_isFloor hS hM ei1) (fun v7996 S7996 w7996 h7996 hS7996 hM7996 => ?_)
  refine qs_ite (c_eq h7996 k_0) ?_ ?_
  · exact (qz_X11_call_J23 hS7996 hM7996 ei1 ei2)
  · refine qs_bp (qz_X11_isFloor hS7996 hM7996 ei2) (fun v7997 S7997 w7997 h7997 hS7997 hM7997 => ?_)
    refine qs_ite (c_eq h7997 k_0) ?_ ?_
    · exact (qz_X11_call_J23 hS7997 hM7997 ei1 ei2)
    · refine qs_ite (c_eq ei1 ei2) ?_ ?_
      · exact (qz_X11_call_J23 hS7997 hM7997 ei1 ei2)
      · exact (qz_X11_call_J24 hS7997 hM7997 ei1 ei2 k_1)
set_option maxRecDepth 20000 in
theorem qz_L_call {P : Nat → Nat} {S : zm_S} {M : qm} {i1 : Int32} {qi1 : Int} {i2 : Int32} {qi2 : Int} (hS : Sh L xs P S) (hM : qM P S = M) (ei1 : i1.toInt = qi1) (ei2 : i2.toInt = qi2) : qs (zf_L_call 20000 6 i1 i2 2332 S) (qf_L_call 20000 qi1 qi2 M) (tO (rr L xs P vi)) := by
  unfold zf_L_call qf_L_call
  refine qs_zi hS pl_6 ts_6 ?_
  refine qs_xr (qz_X11_call hS hM ei1 ei2) ?_ ?_
  · intro v8000 S8000 w8000 M8000 h8000 hS8000 hM8000
    dsimp only
    refine qs_sl hS8000 hM8000 (pa_p hS8000 pl_2332 ts_2332) k_0 (by decide) (p_64 h8000) (fun S8001 M8001 hS8001 hM8001 => ?_)
    exact qs_tr (show vi _ _ from k_0) hS8001 hM8001
  · intro v8000 S8000 M8000 hS8000 hM8000
    dsimp only
    refine qs_ite Iff.rfl ?_ ?_
    · exact qs_tr (show vi _ _ from k_1) hS8000 hM8000
    · refine qs_ite Iff.rfl ?_ ?_
      · exact qs_tr (show vi _ _ from k_2) hS8000 hM8000
      · exact qs_none
set_option maxRecDepth 20000 in
theorem qz_X13_call {P : Nat → Nat} {S : zm_S} {M : qm} {i1 : Int32} {qi1 : Int} {i2 : Int32} {qi2 : Int} (hS : Sh L xs P S) (hM : qM P S = M) (ei1 : i1.toInt = qi1) (ei2 : i2.toInt = qi2) : qs (zf_X13_call 20000 2270 i1 i2 S) (qf_X13_call 20000 qi1 qi2 M) (tO (rr L xs P vi)) := by
  unfold zf_X13_call qf_X13_call
  refine qs_gr hS pl_2270 ts_2270 rfl ?_
  refine qs_gi hS hM pl_2270 ts_2270 (z := 6) rfl rfl (fun v8003 h8003 => ?_)
  refine qs_gd (fun g8005 => ?_)
  refine qs_si hS hM (pa_p hS pl_2276 ts_2276) h8003 g8005 ei1 (fun S8004 M8004 hS8004 hM8004 => ?_)
  refine qs_gr hS8004 pl_2270 ts_2270 rfl ?_
  refine qs_gi hS8004 hM8004 pl_2270 ts_2270 (z := 6) rfl rfl (fun v8007 h8007 => ?_)
  refine qs_gd (fun g8009 => ?_)
  refine qs_si hS8004 hM8004 (pa_p hS8004 pl_2277 ts_2277) h8007 g8009 ei2 (fun S8008 M8008 hS8008 hM8008 => ?_)
  refine qs_gr hS8008 pl_2270 ts_2270 rfl ?_
  refine qs_gi hS8008 hM8008 pl_2270 ts_2270 (z := 6) rfl rfl (fun v8011 h8011 => ?_)
  refine qs_gi hS8008 hM8008 pl_2270 ts_2270 (z := 12) rfl rfl (fun v8012 h8012 => ?_)
  refine qs_gd (fun g8014 => ?_)
  refine qs_si hS8008 hM8008 (pa_p hS8008 pl_2278 ts_2278) h8011 g8014 h8012 (fun S8013 M8013 hS8013 hM8013 => ?_)
  refine qs_gr hS8013 pl_2270 ts_2270 rfl ?_
  refine qs_gi hS8013 hM8013 pl_2270 ts_2270 (z := 6) rfl rfl (fun v8016 h8016 => ?_)
  refine qs_gd (fun g8018 => ?_)
  refine qs_sz hS8013 hM8013 (pa_p hS8013 pl_2279 ts_2279) h8016 g8018 k_1 (by decide) (fun S8017 M8017 hS8017 hM8017 => ?_)
  refine qs_gr hS8017 pl_2270 ts_2270 rfl ?_
  refine qs_gi hS8017 hM8017 pl_2270 ts_2270 (z := 6) rfl rfl (fun v8020 h8020 => ?_)
  refine qs_gd (fun g8022 => ?_)
  refine qs_si hS8017 hM8017 (pa_p hS8017 pl_2280 ts_2280) h8020 g8022 k_m1 (fun S8021 M8021 hS8021 hM8021 => ?_)
  refine qs_gi hS8021 hM8021 pl_2270 ts_2270 (z := 6) rfl rfl (fun v8023 h8023 => ?_)
  refine qs_pi hS8021 hM8021 pl_2270 ts_2270 (z := 6) rfl rfl (p_add h8023 k_1) (fun S8024 M8024 hS8024 hM8024 => ?_)
  refine qs_gi hS8024 hM8024 pl_2270 ts_2270 (z := 6) rfl rfl (fun v8025 h8025 => ?_)
  exact qs_tr (show vi _ _ from (p_sub h8025 k_1)) hS8024 hM8024
set_option maxRecDepth 20000 in
theorem qz_X18_call_J62 {P : Nat → Nat} {S : zm_S} {M : qm} {i1 : Int32} {qi1 : Int} {i2 : Int32} {qi2 : Int} {t1 : Int32} {qt1 : Int} {t2 : Int32} {qt2 : Int} (hS : Sh L xs P S) (hM : qM P S = M) (ei1 : i1.toInt = qi1) (ei2 : i2.toInt = qi2) (et1 : t1.toInt = qt1) (et2 : t2.toInt = qt2) : qs (zf_X18_call_J62 20000 2156 i1 i2 2156 t1 t2 S) (qf_X18_call_J62 20000 qi1 qi2 qt1 qt2 M) (tO (rr L xs P vi)) := by
  unfold zf_X18_call_J62 qf_X18_call_J62
  refine qs_zi hS pl_2156 ts_2156 ?_
  refine qs_b (qz_X18_goes hS hM et1 et2) (fun v8027 S8027 w8027 M8027 h8027 hS8027 hM8027 => ?_)
  refine qs_ite (c_eq h8027 k_0) ?_ ?_
  · exact qs_tr (show vi _ _ from k_0) hS8027 hM8027
  · refine qs_gr hS8027 pl_2156 ts_2156 rfl ?_
    refine qs_zi hS8027 pl_2270 ts_2270 ?_
    refine qs_b (qz_X13_call hS8027 hM8027 ei1 ei2) (fun v8030 S8030 w8030 M8030 h8030 hS8030 hM8030 => ?_)
    exact qs_tr (show vi _ _ from h8030) hS8030 hM8030
set_option maxRecDepth 20000 in
theorem qz_X18_call_J61 {P : Nat → Nat} {S : zm_S} {M : qm} {i1 : Int32} {qi1 : Int} {i2 : Int32} {qi2 : Int} {t1 : Int32} {qt1 : Int} (hS : Sh L xs P S) (hM : qM P S = M) (ei1 : i1.toInt = qi1) (ei2 : i2.toInt = qi2) (et1 : t1.toInt = qt1) : qs (zf_X18_call_J61 20000 2156 i1 i2 2156 t1 S) (qf_X18_call_J61 20000 qi1 qi2 qt1 M) (tO (rr L xs P vi)) := by
  unfold zf_X18_call_J61 qf_X18_call_J61
  exact (qz_X18_call_J62 hS hM ei1 ei2 et1 k_0)
set_option maxRecDepth 20000 in
theorem qz_X13_many_J27 {P : Nat → Nat} {S : zm_S} {M : qm} {i2 : Int32} {qi2 : Int} {t0 : Int32} {qt0 : Int} {t1 : Int32} {qt1 : Int} (hS : Sh L xs P S) (hM : qM P S = M) (ei2 : i2.toInt = qi2) (et0 : t0.toInt = qt0) (et1 : t1.toInt = qt1) {k : Nat → Int32 → Int32 → zm_S → Option ((Int32 × zm_S) ⊕ ((Int32) × zm_S))} : qs (zf_X13_many_J27 20000 k 2270 i2 t0 t1 S) (qf_X13_many_J27 20000 qi2 qt0 qt1 M) (tk (vs (rp L xs P M vi) (rp L xs P M vi)) (qc_X13_many_L4 L xs P M k)) := by
  unfold zf_X13_many_J27 qf_X13_many_J27
  exact qs_tk ⟨_, _, _, rfl, (p_add et0 et1), (p_add ei2 k_1), hS, hM⟩
set_option maxRecDepth 20000 in
theorem qz_X13_many_L4_b (n : Nat) {P : Nat → Nat} {S : zm_S} {M : qm} {i1 : Int32} {qi1 : Int} {i2 : Int32} {qi2 : Int} (hS : Sh L xs P S) (hM : qM P S = M) (ei1 : i1.toInt = qi1) (ei2 : i2.toInt = qi2) : qs (zf_X13_many_L4 20000 (n + 1) 2270 i1 i2 S) (qf_X13_many_L4_b 20000 qi1 qi2 M) (tk (vs (rp L xs P M vi) (rp L xs P M vi)) (qc_X13_many_L4 L xs P M (zf_X13_many_L4 20000 n))) := by
  refine qs_eq (zf_X13_many_L4.eq_2 ..) ?_
  unfold qf_X13_many_L4_b
  refine qs_gi hS hM pl_2270 ts_2270 (z := 6) rfl rfl (fun v8031 h8031 => ?_)
  refine qs_ite (c_le h8031 ei2) ?_ ?_
  · exact qs_tp2 (show vi _ _ from ei1) hS hM
  · refine qs_gr hS pl_2270 ts_2270 rfl ?_
    refine qs_gd (fun g8034 => ?_)
    refine qs_xi hM (pa_p hS pl_2279 ts_2279) ei2 g8034 (fun v8033 h8033 => ?_)
    refine qs_ite (c_eq h8033 k_0) ?_ ?_
    · exact (qz_X13_many_J27 hS hM ei2 ei1 k_0)
    · exact (qz_X13_many_J27 hS hM ei2 ei1 k_1)
theorem qz_X13_many_L4 (n : Nat) : ∀ {P : Nat → Nat} {S : zm_S} {M : qm} {i1 : Int32} {qi1 : Int} {i2 : Int32} {qi2 : Int} (hS : Sh L xs P S) (hM : qM P S = M) (ei1 : i1.toInt = qi1) (ei2 : i2.toInt = qi2), qs (zf_X13_many_L4 20000 n 2270 i1 i2 S) (qf_X13_many_L4 20000 n qi1 qi2 M) (tO (vs (rp L xs P M vi) (rp L xs P M vi))) := by
  induction n with
  | zero =>
    intros
    exact qs_none
  | succ n ih =>
    intro P S M i1 qi1 i2 qi2 hS hM ei1 ei2
    unfold qf_X13_many_L4
    refine qs_loop (C := (qc_X13_many_L4 L xs P M (zf_X13_many_L4 20000 n))) (qz_X13_many_L4_b n hS hM ei1 ei2) ?_
    rintro x s ⟨_, _, _, rfl, u0, u1, hS2, hM2⟩
    exact ih hS2 hM2 u0 u1
set_option maxRecDepth 20000 in
theorem qz_X13_many {P : Nat → Nat} {S : zm_S} {M : qm}  (hS : Sh L xs P S) (hM : qM P S = M)  : qs (zf_X13_many 20000 2270 S) (qf_X13_many 20000 M) (tO (rp L xs P M vi)) := by
  unfold zf_X13_many qf_X13_many
  refine qs_lp (qz_X13_many_L4 20000 hS hM k_0 k_0) ?_ ?_
  · intro v8036 S8036 w8036 h8036 hS8036 hM8036
    dsimp only
    exact qs_tp h8036 hS8036 hM8036
  · intro v8036 S8036 w8036 h8036 hS8036 hM8036
    dsimp only
    exact qs_tp (show vi _ _ from h8036) hS8036 hM8036
set_option maxRecDepth 20000 in
theorem qz_X18_call_J25 {P : Nat → Nat} {S : zm_S} {M : qm} {i1 : Int32} {qi1 : Int} {i2 : Int32} {qi2 : Int} {t1 : Int32} {qt1 : Int} (hS : Sh L xs P S) (hM : qM P S = M) (ei1 : i1.toInt = qi1) (ei2 : i2.toInt = qi2) (et1 : t1.toInt = qt1) : qs (zf_X18_call_J25 20000 2156 i1 i2 2156 t1 S) (qf_X18_call_J25 20000 qi1 qi2 qt1 M) (tO (rr L xs P vi)) := by
  unfold zf_X18_call_J25 qf_X18_call_J25
  refine qs_gi hS hM pl_2156 ts_2156 (z := 1) rfl rfl (fun v8037 h8037 => ?_)
  refine qs_ite (c_eq h8037 k_0) ?_ ?_
  · exact (qz_X18_call_J61 hS hM ei1 ei2 et1)
  · refine qs_gr hS pl_2156 ts_2156 rfl ?_
    refine qs_zi hS pl_2270 ts_2270 ?_
    refine qs_bp (qz_X13_many hS hM ) (fun v8040 S8040 w8040 h8040 hS8040 hM8040 => ?_)
    refine qs_ite (c_le k_6 h8040) ?_ ?_
    · exact (qz_X18_call_J61 hS8040 hM8040 ei1 ei2 et1)
    · refine qs_gr hS8040 pl_2156 ts_2156 rfl ?_
      refine qs_gi hS8040 hM8040 pl_2270 ts_2270 (z := 6) rfl rfl (fun v8042 h8042 => ?_)
      refine qs_ite (c_le k_400 h8042) ?_ ?_
      · exact (qz_X18_call_J61 hS8040 hM8040 ei1 ei2 et1)
      · exact (qz_X18_call_J62 hS8040 hM8040 ei1 ei2 et1 k_1)
set_option maxRecDepth 20000 in
theorem qz_X18_call_J24 {P : Nat → Nat} {S : zm_S} {M : qm} {i1 : Int32} {qi1 : Int} {i2 : Int32} {qi2 : Int} (hS : Sh L xs P S) (hM : qM P S = M) (ei1 : i1.toInt = qi1) (ei2 : i2.toInt = qi2) : qs (zf_X18_call_J24 20000 2156 i1 i2 2156 S) (qf_X18_call_J24 20000 qi1 qi2 M) (tO (rr L xs P vi)) := by
  unfold zf_X18_call_J24 qf_X18_call_J24
  exact (qz_X18_call_J25 hS hM ei1 ei2 k_0)
set_option maxRecDepth 20000 in
theorem qz_X18_call {P : Nat → Nat} {S : zm_S} {M : qm} {i1 : Int32} {qi1 : Int} {i2 : Int32} {qi2 : Int} (hS : Sh L xs P S) (hM : qM P S = M) (ei1 : i1.toInt = qi1) (ei2 : i2.toInt = qi2) : qs (zf_X18_call 20000 2156 i1 i2 S) (qf_X18_call 20000 qi1 qi2 M) (tO (rr L xs P vi)) := by
  unfold zf_X18_call qf_X18_call
  refine qs_bp (qz_X13_isFloor hS hM ei1) (fun v8043 S8043 w8043 h8043 hS8043 hM8043 => ?_)
  refine qs_ite (c_eq h8043 k_0) ?_ ?_
  · exact (qz_X18_call_J24 hS8043 hM8043 ei1 ei2)
  · refine qs_bp (qz_X13_isFloor hS8043 hM8043 ei2) (fun v8044 S8044 w8044 h8044 hS8044 hM8044 => ?_)
    refine qs_ite (c_eq h8044 k_0) ?_ ?_
    · exact (qz_X18_call_J24 hS8044 hM8044 ei1 ei2)
    · refine qs_ite (c_eq ei1 ei2) ?_ ?_
      · exact (qz_X18_call_J24 hS8044 hM8044 ei1 ei2)
      · exact (qz_X18_call_J25 hS8044 hM8044 ei1 ei2 k_1)
set_option maxRecDepth 20000 in
theorem qz_X3_placeOfOpen_L2_b (n : Nat) {P : Nat → Nat} {S : zm_S} {M : qm} {i1 : Int32} {qi1 : Int} {i2 : Int32} {qi2 : Int} (hS : Sh L xs P S) (hM : qM P S = M) (ei1 : i1.toInt = qi1) (ei2 : i2.toInt = qi2) : qs (zf_X3_placeOfOpen_L2 20000 (n + 1) 1337 i1 i2 S) (qf_X3_placeOfOpen_L2_b 20000 qi1 qi2 M) (tk (vs (rp L xs P M vi) (rp L xs P M vu)) (qc_X3_placeOfOpen_L2 L xs P M (zf_X3_placeOfOpen_L2 20000 n))) := by
  refine qs_eq (zf_X3_placeOfOpen_L2.eq_2 ..) ?_
  unfold qf_X3_placeOfOpen_L2_b
  refine qs_gi hS hM pl_1337 ts_1337 (z := 4) rfl rfl (fun v8045 h8045 => ?_)
  refine qs_ite (c_le h8045 ei2) ?_ ?_
  · exact qs_tp2 (show vu _ _ from trivial) hS hM
  · refine qs_gr hS pl_1337 ts_1337 rfl ?_
    refine qs_gd (fun g8048 => ?_)
    refine qs_xi hM (pa_p hS pl_1744 ts_1744) ei2 g8048 (fun v8047 h8047 => ?_)
    refine qs_ite (c_eq h8047 ei1) ?_ ?_
    · exact qs_tp1 (show vi _ _ from ei2) hS hM
    · exact qs_tk ⟨_, _, _, rfl, ei1, (p_add ei2 k_1), hS, hM⟩
theorem qz_X3_placeOfOpen_L2 (n : Nat) : ∀ {P : Nat → Nat} {S : zm_S} {M : qm} {i1 : Int32} {qi1 : Int} {i2 : Int32} {qi2 : Int} (hS : Sh L xs P S) (hM : qM P S = M) (ei1 : i1.toInt = qi1) (ei2 : i2.toInt = qi2), qs (zf_X3_placeOfOpen_L2 20000 n 1337 i1 i2 S) (qf_X3_placeOfOpen_L2 20000 n qi1 qi2 M) (tO (vs (rp L xs P M vi) (rp L xs P M vu))) := by
  induction n with
  | zero =>
    intros
    exact qs_none
  | succ n ih =>
    intro P S M i1 qi1 i2 qi2 hS hM ei1 ei2
    unfold qf_X3_placeOfOpen_L2
    refine qs_loop (C := (qc_X3_placeOfOpen_L2 L xs P M (zf_X3_placeOfOpen_L2 20000 n))) (qz_X3_placeOfOpen_L2_b n hS hM ei1 ei2) ?_
    rintro x s ⟨_, _, _, rfl, u0, u1, hS2, hM2⟩
    exact ih hS2 hM2 u0 u1
set_option maxRecDepth 20000 in
theorem qz_X3_placeOfOpen {P : Nat → Nat} {S : zm_S} {M : qm} {i1 : Int32} {qi1 : Int} (hS : Sh L xs P S) (hM : qM P S = M) (ei1 : i1.toInt = qi1) : qs (zf_X3_placeOfOpen 20000 1337 i1 S) (qf_X3_placeOfOpen 20000 qi1 M) (tO (rp L xs P M vi)) := by
  unfold zf_X3_placeOfOpen qf_X3_placeOfOpen
  refine qs_lp (qz_X3_placeOfOpen_L2 20000 hS hM ei1 k_0) ?_ ?_
  · intro v8050 S8050 w8050 h8050 hS8050 hM8050
    dsimp only
    exact qs_tp h8050 hS8050 hM8050
  · intro v8050 S8050 w8050 h8050 hS8050 hM8050
    dsimp only
    exact qs_tp (show vi _ _ from k_m1) hS8050 hM8050
set_option maxRecDepth 20000 in
theorem qz_X3_isOpenCall {P : Nat → Nat} {S : zm_S} {M : qm} {i1 : Int32} {qi1 : Int} (hS : Sh L xs P S) (hM : qM P S = M) (ei1 : i1.toInt = qi1) : qs (zf_X3_isOpenCall 20000 1337 i1 S) (qf_X3_isOpenCall 20000 qi1 M) (tO (rp L xs P M vi)) := by
  unfold zf_X3_isOpenCall qf_X3_isOpenCall
  refine qs_zi hS pl_1337 ts_1337 ?_
  refine qs_bp (qz_X3_placeOfOpen hS hM ei1) (fun v8052 S8052 w8052 h8052 hS8052 hM8052 => ?_)
  refine qs_ite (c_eq h8052 k_m1) ?_ ?_
  · exact qs_tp (show vi _ _ from k_0) hS8052 hM8052
  · exact qs_tp (show vi _ _ from k_1) hS8052 hM8052
set_option maxRecDepth 20000 in
theorem qz_X3_endBeginning_L2_b (n : Nat) {P : Nat → Nat} {S : zm_S} {M : qm} {i1 : Int32} {qi1 : Int} {i2 : Int32} {qi2 : Int} (hS : Sh L xs P S) (hM : qM P S = M) (ei1 : i1.toInt = qi1) (ei2 : i2.toInt = qi2) : qs (zf_X3_endBeginning_L2 20000 (n + 1) 1337 i1 i2 S) (qf_X3_endBeginning_L2_b 20000 qi1 qi2 M) (tk (vs (rr L xs P vu) (rr L xs P vu)) (qc_X3_endBeginning_L2 L xs P (zf_X3_endBeginning_L2 20000 n))) := by
  refine qs_eq (zf_X3_endBeginning_L2.eq_2 ..) ?_
  unfold qf_X3_endBeginning_L2_b
  refine qs_gi hS hM pl_1337 ts_1337 (z := 0) rfl rfl (fun v8053 h8053 => ?_)
  refine qs_ite (c_le h8053 ei2) ?_ ?_
  · exact qs_tr2 (show vu _ _ from trivial) hS hM
  · refine qs_gr hS pl_1337 ts_1337 rfl ?_
    refine qs_gd (fun g8056 => ?_)
    refine qs_xt hS pl_1338 ts_1338 (Or.inl rfl) ei2 g8056 (fun b8055 r8055 => ?_)
    refine qs_yi (j := 5) hS hM qt_1338 tq_1338 r8055 k_5 (by decide) (fun v8057 h8057 => ?_)
    refine qs_ite (c_eq h8057 ei1) ?_ ?_
    · refine qs_gr hS pl_1337 ts_1337 rfl ?_
      refine qs_gd (fun g8060 => ?_)
      refine qs_xt hS pl_1338 ts_1338 (Or.inl rfl) ei2 g8060 (fun b8059 r8059 => ?_)
      refine qs_ysi hS hM qt_1338 tq_1338 r8059 k_5 (by decide) k_m1 (fun S8061 M8061 hS8061 hM8061 => ?_)
      exact qs_tk ⟨_, _, _, rfl, ei1, (p_add ei2 k_1), hS8061, hM8061⟩
    · exact qs_tk ⟨_, _, _, rfl, ei1, (p_add ei2 k_1), hS, hM⟩
theorem qz_X3_endBeginning_L2 (n : Nat) : ∀ {P : Nat → Nat} {S : zm_S} {M : qm} {i1 : Int32} {qi1 : Int} {i2 : Int32} {qi2 : Int} (hS : Sh L xs P S) (hM : qM P S = M) (ei1 : i1.toInt = qi1) (ei2 : i2.toInt = qi2), qs (zf_X3_endBeginning_L2 20000 n 1337 i1 i2 S) (qf_X3_endBeginning_L2 20000 n qi1 qi2 M) (tO (vs (rr L xs P vu) (rr L xs P vu))) := by
  induction n with
  | zero =>
    intros
    exact qs_none
  | succ n ih =>
    intro P S M i1 qi1 i2 qi2 hS hM ei1 ei2
    unfold qf_X3_endBeginning_L2
    refine qs_loop (C := (qc_X3_endBeginning_L2 L xs P (zf_X3_endBeginning_L2 20000 n))) (qz_X3_endBeginning_L2_b n hS hM ei1 ei2) ?_
    rintro x s ⟨_, _, _, rfl, u0, u1, hS2, hM2⟩
    exact ih hS2 hM2 u0 u1
set_option maxRecDepth 20000 in
theorem qz_X3_endBeginning {P : Nat → Nat} {S : zm_S} {M : qm} {i1 : Int32} {qi1 : Int} (hS : Sh L xs P S) (hM : qM P S = M) (ei1 : i1.toInt = qi1) : qs (zf_X3_endBeginning 20000 1337 i1 S) (qf_X3_endBeginning 20000 qi1 M) (tO (rr L xs P vu)) := by
  unfold zf_X3_endBeginning qf_X3_endBeginning
  refine qs_lr (qz_X3_endBeginning_L2 20000 hS hM ei1 k_0) ?_ ?_
  · intro v8063 S8063 w8063 M8063 h8063 hS8063 hM8063
    dsimp only
    exact qs_tr h8063 hS8063 hM8063
  · intro v8063 S8063 w8063 M8063 h8063 hS8063 hM8063
    dsimp only
    exact qs_tr (show vu _ _ from trivial) hS8063 hM8063
set_option maxRecDepth 20000 in
theorem qz_X3_setBegun_J35 {P : Nat → Nat} {S : zm_S} {M : qm} {i1 : Int32} {qi1 : Int} {i2 : Int32} {qi2 : Int} (hS : Sh L xs P S) (hM : qM P S = M) (ei1 : i1.toInt = qi1) (ei2 : i2.toInt = qi2) : qs (zf_X3_setBegun_J35 20000 1337 i1 i2 S) (qf_X3_setBegun_J35 20000 qi1 qi2 M) (tO (rr L xs P vi)) := by
  unfold zf_X3_setBegun_J35 qf_X3_setBegun_J35
  refine qs_zi hS pl_1337 ts_1337 ?_
  refine qs_b (qz_X3_endBeginning hS hM ei1) (fun v8065 S8065 w8065 M8065 h8065 hS8065 hM8065 => ?_)
  refine qs_ite (c_eq ei2 k_m1) ?_ ?_
  · exact qs_tr (show vi _ _ from k_1) hS8065 hM8065
  · refine qs_gr hS8065 pl_1337 ts_1337 rfl ?_
    refine qs_gd (fun g8068 => ?_)
    refine qs_xt hS8065 pl_1338 ts_1338 (Or.inl rfl) ei2 g8068 (fun b8067 r8067 => ?_)
    refine qs_ysi hS8065 hM8065 qt_1338 tq_1338 r8067 k_5 (by decide) ei1 (fun S8069 M8069 hS8069 hM8069 => ?_)
    exact qs_tr (show vi _ _ from k_1) hS8069 hM8069
set_option maxRecDepth 20000 in
theorem qz_X3_isInSpan {P : Nat → Nat} {S : zm_S} {M : qm} {i1 : Int32} {qi1 : Int} {i2 : Int32} {qi2 : Int} (hS : Sh L xs P S) (hM : qM P S = M) (ei1 : i1.toInt = qi1) (ei2 : i2.toInt = qi2) : qs (zf_X3_isInSpan 20000 1337 i1 i2 S) (qf_X3_isInSpan 20000 qi1 qi2 M) (tO (rp L xs P M vi)) := by
  unfold zf_X3_isInSpan qf_X3_isInSpan
  refine qs_gr hS pl_1337 ts_1337 rfl ?_
  refine qs_gd (fun g8072 => ?_)
  refine qs_xt hS pl_1343 ts_1343 (Or.inl rfl) ei1 g8072 (fun b8071 r8071 => ?_)
  refine qs_yi (j := 0) hS hM qt_1343 tq_1343 r8071 k_0 (by decide) (fun v8073 h8073 => ?_)
  refine qs_gr hS pl_1337 ts_1337 rfl ?_
  refine qs_gd (fun g8076 => ?_)
  refine qs_xt hS pl_1343 ts_1343 (Or.inl rfl) ei1 g8076 (fun b8075 r8075 => ?_)
  refine qs_yi (j := 1) hS hM qt_1343 tq_1343 r8075 k_1 (by decide) (fun v8077 h8077 => ?_)
  refine qs_gr hS pl_1337 ts_1337 rfl ?_
  refine qs_gd (fun g8080 => ?_)
  refine qs_xt hS pl_1338 ts_1338 (Or.inl rfl) ei2 g8080 (fun b8079 r8079 => ?_)
  refine qs_yi (j := 3) hS hM qt_1338 tq_1338 r8079 k_3 (by decide) (fun v8081 h8081 => ?_)
  refine qs_ite (c_lt (p_min h8073 h8077) h8081) ?_ ?_
  · exact qs_tp (show vi _ _ from k_0) hS hM
  · refine qs_gr hS pl_1337 ts_1337 rfl ?_
    refine qs_gd (fun g8084 => ?_)
    refine qs_xt hS pl_1338 ts_1338 (Or.inl rfl) ei2 g8084 (fun b8083 r8083 => ?_)
    refine qs_yi (j := 4) hS hM qt_1338 tq_1338 r8083 k_4 (by decide) (fun v8085 h8085 => ?_)
    refine qs_ite (c_lt h8085 (p_max h8073 h8077)) ?_ ?_
    · exact qs_tp (show vi _ _ from k_0) hS hM
    · exact qs_tp (show vi _ _ from k_1) hS hM
set_option maxRecDepth 20000 in
theorem qz_X3_setBegun {P : Nat → Nat} {S : zm_S} {M : qm} {i1 : Int32} {qi1 : Int} {i2 : Int32} {qi2 : Int} (hS : Sh L xs P S) (hM : qM P S = M) (ei1 : i1.toInt = qi1) (ei2 : i2.toInt = qi2) : qs (zf_X3_setBegun 20000 1337 i1 i2 S) (qf_X3_setBegun 20000 qi1 qi2 M) (tO (rr L xs P vi)) := by
  unfold zf_X3_setBegun qf_X3_setBegun
  refine qs_ite (c_eq ei2 k_m1) ?_ ?_
  · exact (qz_X3_setBegun_J35 hS hM ei1 ei2)
  · refine qs_gr hS pl_1337 ts_1337 rfl ?_
    refine qs_gd (fun g8088 => ?_)
    refine qs_xt hS pl_1338 ts_1338 (Or.inl rfl) ei2 g8088 (fun b8087 r8087 => ?_)
    refine qs_yi (j := 5) hS hM qt_1338 tq_1338 r8087 k_5 (by decide) (fun v8089 h8089 => ?_)
    refine qs_zi hS pl_1337 ts_1337 ?_
    refine qs_bp (qz_X3_isInSpan hS hM ei1 ei2) (fun v8091 S8091 w8091 h8091 hS8091 hM8091 => ?_)
    refine qs_ite (c_eq h8091 k_0) ?_ ?_
    · exact qs_tr (show vi _ _ from k_0) hS8091 hM8091
    · refine qs_ite (c_eq h8089 k_m1) ?_ ?_
      · exact (qz_X3_setBegun_J35 hS8091 hM8091 ei1 ei2)
      · refine qs_ite (c_eq h8089 ei1) ?_ ?_
        · exact (qz_X3_setBegun_J35 hS8091 hM8091 ei1 ei2)
        · exact qs_tr (show vi _ _ from k_0) hS8091 hM8091
set_option maxRecDepth 20000 in
theorem qz_X11_begin_J29 {P : Nat → Nat} {S : zm_S} {M : qm} {i1 : Int32} {qi1 : Int} {i2 : Int32} {qi2 : Int} {t0 : Int32} {qt0 : Int} (hS : Sh L xs P S) (hM : qM P S = M) (ei1 : i1.toInt = qi1) (ei2 : i2.toInt = qi2) (et0 : t0.toInt = qt0) : qs (zf_X11_begin_J29 20000 6 i1 i2 t0 S) (qf_X11_begin_J29 20000 qi1 qi2 qt0 M) (tO (rr L xs P (vs vi ve))) := by
  unfold zf_X11_begin_J29 qf_X11_begin_J29
  refine qs_xp (qz_X11_needArgument hS hM et0) ?_ ?_
  · intro v8093 S8093 w8093 h8093 hS8093 hM8093
    dsimp only
    refine qs_gi hS8093 hM8093 pl_6 ts_6 (z := 11) rfl rfl (fun v8094 h8094 => ?_)
    refine qs_xp (qz_X11_needState hS8093 hM8093 h8094) ?_ ?_
    · intro v8096 S8096 w8096 h8096 hS8096 hM8096
      dsimp only
      refine qs_gr hS8096 pl_6 ts_6 rfl ?_
      refine qs_zi hS8096 pl_1337 ts_1337 ?_
      refine qs_b (qz_X3_setBegun hS8096 hM8096 ei1 ei2) (fun v8099 S8099 w8099 M8099 h8099 hS8099 hM8099 => ?_)
      refine qs_ite (or_congr (c_eq h8099 k_0) (c_eq h8099 k_1)) ?_ ?_
      · exact qs_tr (show (vs vi ve) _ _ from h8099) hS8099 hM8099
      · exact qs_none
    · intro v8096 S8096 hS8096 hM8096
      dsimp only
      exact qs_tr (show (vs vi ve) _ _ from rfl) hS8096 hM8096
  · intro v8093 S8093 hS8093 hM8093
    dsimp only
    exact qs_tr (show (vs vi ve) _ _ from rfl) hS8093 hM8093
set_option maxRecDepth 20000 in
theorem qz_X11_begin_J28 {P : Nat → Nat} {S : zm_S} {M : qm} {i1 : Int32} {qi1 : Int} {i2 : Int32} {qi2 : Int} (hS : Sh L xs P S) (hM : qM P S = M) (ei1 : i1.toInt = qi1) (ei2 : i2.toInt = qi2) : qs (zf_X11_begin_J28 20000 6 i1 i2 S) (qf_X11_begin_J28 20000 qi1 qi2 M) (tO (rr L xs P (vs vi ve))) := by
  unfold zf_X11_begin_J28 qf_X11_begin_J28
  exact (qz_X11_begin_J29 hS hM ei1 ei2 k_0)
set_option maxRecDepth 20000 in
theorem qz_X11_begin_J24 {P : Nat → Nat} {S : zm_S} {M : qm} {i1 : Int32} {qi1 : Int} {i2 : Int32} {qi2 : Int} (hS : Sh L xs P S) (hM : qM P S = M) (ei1 : i1.toInt = qi1) (ei2 : i2.toInt = qi2) : qs (zf_X11_begin_J24 20000 6 i1 i2 S) (qf_X11_begin_J24 20000 qi1 qi2 M) (tO (rr L xs P (vs vi ve))) := by
  unfold zf_X11_begin_J24 qf_X11_begin_J24
  exact (qz_X11_begin_J29 hS hM ei1 ei2 k_1)
set_option maxRecDepth 20000 in
theorem qz_X11_begin {P : Nat → Nat} {S : zm_S} {M : qm} {i1 : Int32} {qi1 : Int} {i2 : Int32} {qi2 : Int} (hS : Sh L xs P S) (hM : qM P S = M) (ei1 : i1.toInt = qi1) (ei2 : i2.toInt = qi2) : qs (zf_X11_begin 20000 6 i1 i2 S) (qf_X11_begin 20000 qi1 qi2 M) (tO (rr L xs P (vs vi ve))) := by
  unfold zf_X11_begin qf_X11_begin
  refine qs_gr hS pl_6 ts_6 rfl ?_
  refine qs_zi hS pl_1337 ts_1337 ?_
  refine qs_bp (qz_X3_isOpenCall hS hM ei1) (fun v8102 S8102 w8102 h8102 hS8102 hM8102 => ?_)
  refine qs_ite (c_eq h8102 k_0) ?_ ?_
  · exact (qz_X11_begin_J28 hS8102 hM8102 ei1 ei2)
  · refine qs_ite (c_eq ei2 k_m1) ?_ ?_
    · exact (qz_X11_begin_J24 hS8102 hM8102 ei1 ei2)
    · refine qs_zi hS8102 pl_6 ts_6 ?_
      refine qs_bp (qz_X11_isCar hS8102 hM8102 ei2) (fun v8104 S8104 w8104 h8104 hS8104 hM8104 => ?_)
      refine qs_ite (c_eq h8104 k_0) ?_ ?_
      · exact (qz_X11_begin_J28 hS8104 hM8104 ei1 ei2)
      · exact (qz_X11_begin_J24 hS8104 hM8104 ei1 ei2)
set_option maxRecDepth 20000 in
theorem qz_L_begin_J16 {P : Nat → Nat} {S : zm_S} {M : qm} {t1 : Int32} {qt1 : Int} {t2 : Int64} {qt2 : Int} (hS : Sh L xs P S) (hM : qM P S = M) (et1 : t1.toInt = qt1) (et2 : t2.toInt = qt2) : qs (zf_L_begin_J16 20000 2332 t1 t2 S) (qf_L_begin_J16 20000 qt1 qt2 M) (tO (rr L xs P vi)) := by
  unfold zf_L_begin_J16 qf_L_begin_J16
  refine qs_gd (fun g8106 => ?_)
  refine qs_sl hS hM (pa_p hS pl_2332 ts_2332) et1 g8106 et2 (fun S8105 M8105 hS8105 hM8105 => ?_)
  exact qs_tr (show vi _ _ from k_0) hS8105 hM8105
set_option maxRecDepth 20000 in
theorem qz_L_begin {P : Nat → Nat} {S : zm_S} {M : qm} {i1 : Int32} {qi1 : Int} {i2 : Int32} {qi2 : Int} (hS : Sh L xs P S) (hM : qM P S = M) (ei1 : i1.toInt = qi1) (ei2 : i2.toInt = qi2) : qs (zf_L_begin 20000 6 i1 i2 2332 S) (qf_L_begin 20000 qi1 qi2 M) (tO (rr L xs P vi)) := by
  unfold zf_L_begin qf_L_begin
  refine qs_zi hS pl_6 ts_6 ?_
  refine qs_xr (qz_X11_begin hS hM ei1 ei2) ?_ ?_
  · intro v8109 S8109 w8109 M8109 h8109 hS8109 hM8109
    dsimp only
    refine qs_ite (c_eq h8109 k_0) ?_ ?_
    · exact (qz_L_begin_J16 hS8109 hM8109 k_0 kl_0)
    · exact (qz_L_begin_J16 hS8109 hM8109 k_0 kl_1)
  · intro v8109 S8109 M8109 hS8109 hM8109
    dsimp only
    refine qs_ite Iff.rfl ?_ ?_
    · exact qs_tr (show vi _ _ from k_1) hS8109 hM8109
    · refine qs_ite Iff.rfl ?_ ?_
      · exact qs_tr (show vi _ _ from k_2) hS8109 hM8109
      · exact qs_none
set_option maxRecDepth 20000 in
theorem qz_X13_opens {P : Nat → Nat} {S : zm_S} {M : qm} {i1 : Int32} {qi1 : Int} (hS : Sh L xs P S) (hM : qM P S = M) (ei1 : i1.toInt = qi1) : qs (zf_X13_opens 20000 2270 i1 S) (qf_X13_opens 20000 qi1 M) (tO (rp L xs P M vi)) := by
  unfold zf_X13_opens qf_X13_opens
  refine qs_ite (c_lt ei1 k_0) ?_ ?_
  · exact qs_tp (show vi _ _ from k_0) hS hM
  · refine qs_gi hS hM pl_2270 ts_2270 (z := 6) rfl rfl (fun v8110 h8110 => ?_)
    refine qs_ite (c_le h8110 ei1) ?_ ?_
    · exact qs_tp (show vi _ _ from k_0) hS hM
    · refine qs_gr hS pl_2270 ts_2270 rfl ?_
      refine qs_gd (fun g8113 => ?_)
      refine qs_xi hM (pa_p hS pl_2279 ts_2279) ei1 g8113 (fun v8112 h8112 => ?_)
      refine qs_ite (c_eq h8112 k_0) ?_ ?_
      · exact qs_tp (show vi _ _ from k_0) hS hM
      · exact qs_tp (show vi _ _ from k_1) hS hM
set_option maxRecDepth 20000 in
theorem qz_X13_begin_J70 {P : Nat → Nat} {S : zm_S} {M : qm} {i1 : Int32} {qi1 : Int} {i2 : Int32} {qi2 : Int} {i4 : Int32} {qi4 : Int} (hS : Sh L xs P S) (hM : qM P S = M) (ei1 : i1.toInt = qi1) (ei2 : i2.toInt = qi2) (ei4 : i4.toInt = qi4) {k : Nat → Int32 → Int32 → Int32 → Int32 → zm_S → Option ((Int32 × zm_S) ⊕ ((Int32) × zm_S))} : qs (zf_X13_begin_J70 20000 k 2270 i1 i2 i4 S) (qf_X13_begin_J70 20000 qi1 qi2 qi4 M) (tk (vs (rp L xs P M vi) (rp L xs P M vi)) (qc_X13_begin_L22 L xs P M k)) := by
  unfold zf_X13_begin_J70 qf_X13_begin_J70
  exact qs_tk ⟨_, _, _, _, _, rfl, ei1, ei2, k_0, (p_add ei4 k_1), hS, hM⟩
set_option maxRecDepth 20000 in
theorem qz_X13_begin_J66 {P : Nat → Nat} {S : zm_S} {M : qm} {i1 : Int32} {qi1 : Int} {i2 : Int32} {qi2 : Int} {i4 : Int32} {qi4 : Int} (hS : Sh L xs P S) (hM : qM P S = M) (ei1 : i1.toInt = qi1) (ei2 : i2.toInt = qi2) (ei4 : i4.toInt = qi4) {k : Nat → Int32 → Int32 → Int32 → Int32 → zm_S → Option ((Int32 × zm_S) ⊕ ((Int32) × zm_S))} : qs (zf_X13_begin_J66 20000 k 2270 i1 i2 i4 S) (qf_X13_begin_J66 20000 qi1 qi2 qi4 M) (tk (vs (rp L xs P M vi) (rp L xs P M vi)) (qc_X13_begin_L22 L xs P M k)) := by
  unfold zf_X13_begin_J66 qf_X13_begin_J66
  exact qs_tk ⟨_, _, _, _, _, rfl, ei1, ei2, k_1, (p_add ei4 k_1), hS, hM⟩
set_option maxRecDepth 20000 in
theorem qz_X13_begin_L22_b (n : Nat) {P : Nat → Nat} {S : zm_S} {M : qm} {i1 : Int32} {qi1 : Int} {i2 : Int32} {qi2 : Int} {i3 : Int32} {qi3 : Int} {i4 : Int32} {qi4 : Int} (hS : Sh L xs P S) (hM : qM P S = M) (ei1 : i1.toInt = qi1) (ei2 : i2.toInt = qi2) (ei3 : i3.toInt = qi3) (ei4 : i4.toInt = qi4) : qs (zf_X13_begin_L22 20000 (n + 1) 2270 i1 i2 i3 i4 S) (qf_X13_begin_L22_b 20000 qi1 qi2 qi3 qi4 M) (tk (vs (rp L xs P M vi) (rp L xs P M vi)) (qc_X13_begin_L22 L xs P M (zf_X13_begin_L22 20000 n))) := by
  refine qs_eq (zf_X13_begin_L22.eq_2 ..) ?_
  unfold qf_X13_begin_L22_b
  refine qs_gi hS hM pl_2270 ts_2270 (z := 6) rfl rfl (fun v8114 h8114 => ?_)
  refine qs_ite (c_le h8114 ei4) ?_ ?_
  · exact qs_tp2 (show vi _ _ from ei3) hS hM
  · refine qs_ite (c_eq ei3 k_0) ?_ ?_
    · exact (qz_X13_begin_J70 hS hM ei1 ei2 ei4)
    · refine qs_ite (c_lt ei2 k_0) ?_ ?_
      · exact (qz_X13_begin_J66 hS hM ei1 ei2 ei4)
      · refine qs_ite (c_eq ei4 ei1) ?_ ?_
        · exact (qz_X13_begin_J66 hS hM ei1 ei2 ei4)
        · refine qs_gr hS pl_2270 ts_2270 rfl ?_
          refine qs_gd (fun g8117 => ?_)
          refine qs_xi hM (pa_p hS pl_2279 ts_2279) ei4 g8117 (fun v8116 h8116 => ?_)
          refine qs_ite (c_eq h8116 k_0) ?_ ?_
          · exact (qz_X13_begin_J66 hS hM ei1 ei2 ei4)
          · refine qs_gr hS pl_2270 ts_2270 rfl ?_
            refine qs_gd (fun g8120 => ?_)
            refine qs_xi hM (pa_p hS pl_2280 ts_2280) ei4 g8120 (fun v8119 h8119 => ?_)
            refine qs_ite (c_eq h8119 ei2) ?_ ?_
            · exact (qz_X13_begin_J70 hS hM ei1 ei2 ei4)
            · exact (qz_X13_begin_J66 hS hM ei1 ei2 ei4)
theorem qz_X13_begin_L22 (n : Nat) : ∀ {P : Nat → Nat} {S : zm_S} {M : qm} {i1 : Int32} {qi1 : Int} {i2 : Int32} {qi2 : Int} {i3 : Int32} {qi3 : Int} {i4 : Int32} {qi4 : Int} (hS : Sh L xs P S) (hM : qM P S = M) (ei1 : i1.toInt = qi1) (ei2 : i2.toInt = qi2) (ei3 : i3.toInt = qi3) (ei4 : i4.toInt = qi4), qs (zf_X13_begin_L22 20000 n 2270 i1 i2 i3 i4 S) (qf_X13_begin_L22 20000 n qi1 qi2 qi3 qi4 M) (tO (vs (rp L xs P M vi) (rp L xs P M vi))) := by
  induction n with
  | zero =>
    intros
    exact qs_none
  | succ n ih =>
    intro P S M i1 qi1 i2 qi2 i3 qi3 i4 qi4 hS hM ei1 ei2 ei3 ei4
    unfold qf_X13_begin_L22
    refine qs_loop (C := (qc_X13_begin_L22 L xs P M (zf_X13_begin_L22 20000 n))) (qz_X13_begin_L22_b n hS hM ei1 ei2 ei3 ei4) ?_
    rintro x s ⟨_, _, _, _, _, rfl, u0, u1, u2, u3, hS2, hM2⟩
    exact ih hS2 hM2 u0 u1 u2 u3
set_option maxRecDepth 20000 in
theorem qz_X13_begin_J18 {P : Nat → Nat} {S : zm_S} {M : qm} {i1 : Int32} {qi1 : Int} {i2 : Int32} {qi2 : Int} {t0 : Int32} {qt0 : Int} (hS : Sh L xs P S) (hM : qM P S = M) (ei1 : i1.toInt = qi1) (ei2 : i2.toInt = qi2) (et0 : t0.toInt = qt0) : qs (zf_X13_begin_J18 20000 2270 i1 i2 t0 S) (qf_X13_begin_J18 20000 qi1 qi2 qt0 M) (tO (rr L xs P vi)) := by
  unfold zf_X13_begin_J18 qf_X13_begin_J18
  refine qs_lp (qz_X13_begin_L22 20000 hS hM ei1 ei2 et0 k_0) ?_ ?_
  · intro v8122 S8122 w8122 h8122 hS8122 hM8122
    dsimp only
    exact qs_tr h8122 hS8122 hM8122
  · intro v8122 S8122 w8122 h8122 hS8122 hM8122
    dsimp only
    refine qs_gr hS8122 pl_2270 ts_2270 rfl ?_
    refine qs_ite (c_eq h8122 k_0) ?_ ?_
    · refine qs_gr hS8122 pl_2270 ts_2270 rfl ?_
      refine qs_gd (fun g8126 => ?_)
      refine qs_xi hM8122 (pa_p hS8122 pl_2280 ts_2280) ei1 g8126 (fun v8125 h8125 => ?_)
      refine qs_gd (fun g8128 => ?_)
      refine qs_si hS8122 hM8122 (pa_p hS8122 pl_2280 ts_2280) ei1 g8128 h8125 (fun S8127 M8127 hS8127 hM8127 => ?_)
      refine qs_ite (or_congr (c_eq h8122 k_0) (c_eq h8122 k_1)) ?_ ?_
      · exact qs_tr (show vi _ _ from h8122) hS8127 hM8127
      · exact qs_none
    · refine qs_gd (fun g8130 => ?_)
      refine qs_si hS8122 hM8122 (pa_p hS8122 pl_2280 ts_2280) ei1 g8130 ei2 (fun S8129 M8129 hS8129 hM8129 => ?_)
      refine qs_ite (or_congr (c_eq h8122 k_0) (c_eq h8122 k_1)) ?_ ?_
      · exact qs_tr (show vi _ _ from h8122) hS8129 hM8129
      · exact qs_none
set_option maxRecDepth 20000 in
theorem qz_X13_begin_J13 {P : Nat → Nat} {S : zm_S} {M : qm} {i1 : Int32} {qi1 : Int} {i2 : Int32} {qi2 : Int} (hS : Sh L xs P S) (hM : qM P S = M) (ei1 : i1.toInt = qi1) (ei2 : i2.toInt = qi2) : qs (zf_X13_begin_J13 20000 2270 i1 i2 S) (qf_X13_begin_J13 20000 qi1 qi2 M) (tO (rr L xs P vi)) := by
  unfold zf_X13_begin_J13 qf_X13_begin_J13
  exact (qz_X13_begin_J18 hS hM ei1 ei2 k_1)
set_option maxRecDepth 20000 in
theorem qz_X13_reaches {P : Nat → Nat} {S : zm_S} {M : qm} {i1 : Int32} {qi1 : Int} {i2 : Int32} {qi2 : Int} (hS : Sh L xs P S) (hM : qM P S = M) (ei1 : i1.toInt = qi1) (ei2 : i2.toInt = qi2) : qs (zf_X13_reaches 20000 2270 i1 i2 S) (qf_X13_reaches 20000 qi1 qi2 M) (tO (rp L xs P M vi)) := by
  unfold zf_X13_reaches qf_X13_reaches
  refine qs_gr hS pl_2270 ts_2270 rfl ?_
  refine qs_gd (fun g8133 => ?_)
  refine qs_xi hM (pa_p hS pl_2276 ts_2276) ei2 g8133 (fun v8132 h8132 => ?_)
  refine qs_gr hS pl_2270 ts_2270 rfl ?_
  refine qs_gd (fun g8136 => ?_)
  refine qs_xi hM (pa_p hS pl_2274 ts_2274) ei1 g8136 (fun v8135 h8135 => ?_)
  refine qs_ite (c_lt h8132 h8135) ?_ ?_
  · exact qs_tp (show vi _ _ from k_0) hS hM
  · refine qs_gr hS pl_2270 ts_2270 rfl ?_
    refine qs_gd (fun g8139 => ?_)
    refine qs_xi hM (pa_p hS pl_2276 ts_2276) ei2 g8139 (fun v8138 h8138 => ?_)
    refine qs_gr hS pl_2270 ts_2270 rfl ?_
    refine qs_gd (fun g8142 => ?_)
    refine qs_xi hM (pa_p hS pl_2275 ts_2275) ei1 g8142 (fun v8141 h8141 => ?_)
    refine qs_ite (c_lt h8141 h8138) ?_ ?_
    · exact qs_tp (show vi _ _ from k_0) hS hM
    · refine qs_gr hS pl_2270 ts_2270 rfl ?_
      refine qs_gd (fun g8145 => ?_)
      refine qs_xi hM (pa_p hS pl_2277 ts_2277) ei2 g8145 (fun v8144 h8144 => ?_)
      refine qs_gr hS pl_2270 ts_2270 rfl ?_
      refine qs_gd (fun g8148 => ?_)
      refine qs_xi hM (pa_p hS pl_2274 ts_2274) ei1 g8148 (fun v8147 h8147 => ?_)
      refine qs_ite (c_lt h8144 h8147) ?_ ?_
      · exact qs_tp (show vi _ _ from k_0) hS hM
      · refine qs_gr hS pl_2270 ts_2270 rfl ?_
        refine qs_gd (fun g8151 => ?_)
        refine qs_xi hM (pa_p hS pl_2277 ts_2277) ei2 g8151 (fun v8150 h8150 => ?_)
        refine qs_gr hS pl_2270 ts_2270 rfl ?_
        refine qs_gd (fun g8154 => ?_)
        refine qs_xi hM (pa_p hS pl_2275 ts_2275) ei1 g8154 (fun v8153 h8153 => ?_)
        refine qs_ite (c_lt h8153 h8150) ?_ ?_
        · exact qs_tp (show vi _ _ from k_0) hS hM
        · exact qs_tp (show vi _ _ from k_1) hS hM
set_option maxRecDepth 20000 in
theorem qz_X13_begin {P : Nat → Nat} {S : zm_S} {M : qm} {i1 : Int32} {qi1 : Int} {i2 : Int32} {qi2 : Int} (hS : Sh L xs P S) (hM : qM P S = M) (ei1 : i1.toInt = qi1) (ei2 : i2.toInt = qi2) : qs (zf_X13_begin 20000 2270 i1 i2 S) (qf_X13_begin 20000 qi1 qi2 M) (tO (rr L xs P vi)) := by
  unfold zf_X13_begin qf_X13_begin
  refine qs_ite (c_lt ei2 k_0) ?_ ?_
  · exact (qz_X13_begin_J13 hS hM ei1 ei2)
  · refine qs_zi hS pl_2270 ts_2270 ?_
    refine qs_bp (qz_X13_reaches hS hM ei2 ei1) (fun v8156 S8156 w8156 h8156 hS8156 hM8156 => ?_)
    refine qs_ite (c_eq h8156 k_0) ?_ ?_
    · exact (qz_X13_begin_J18 hS8156 hM8156 ei1 ei2 k_0)
    · exact (qz_X13_begin_J13 hS8156 hM8156 ei1 ei2)
set_option maxRecDepth 20000 in
theorem qz_X18_begin_J36 {P : Nat → Nat} {S : zm_S} {M : qm} {i1 : Int32} {qi1 : Int} {i2 : Int32} {qi2 : Int} {t1 : Int32} {qt1 : Int} (hS : Sh L xs P S) (hM : qM P S = M) (ei1 : i1.toInt = qi1) (ei2 : i2.toInt = qi2) (et1 : t1.toInt = qt1) : qs (zf_X18_begin_J36 20000 2156 i1 i2 2156 t1 S) (qf_X18_begin_J36 20000 qi1 qi2 qt1 M) (tO (rr L xs P vi)) := by
  unfold zf_X18_begin_J36 qf_X18_begin_J36
  refine qs_gi hS hM pl_2156 ts_2156 (z := 1) rfl rfl (fun v8157 h8157 => ?_)
  refine qs_zi hS pl_2156 ts_2156 ?_
  refine qs_b (qz_X18_goes hS hM et1 h8157) (fun v8159 S8159 w8159 M8159 h8159 hS8159 hM8159 => ?_)
  refine qs_ite (c_eq h8159 k_0) ?_ ?_
  · exact qs_tr (show vi _ _ from k_0) hS8159 hM8159
  · refine qs_gr hS8159 pl_2156 ts_2156 rfl ?_
    refine qs_zi hS8159 pl_2270 ts_2270 ?_
    refine qs_b (qz_X13_begin hS8159 hM8159 ei1 ei2) (fun v8162 S8162 w8162 M8162 h8162 hS8162 hM8162 => ?_)
    refine qs_ite (c_eq h8162 k_0) ?_ ?_
    · exact qs_tr (show vi _ _ from k_0) hS8162 hM8162
    · exact qs_tr (show vi _ _ from k_1) hS8162 hM8162
set_option maxRecDepth 20000 in
theorem qz_X18_begin_J35 {P : Nat → Nat} {S : zm_S} {M : qm} {i1 : Int32} {qi1 : Int} {i2 : Int32} {qi2 : Int} (hS : Sh L xs P S) (hM : qM P S = M) (ei1 : i1.toInt = qi1) (ei2 : i2.toInt = qi2) : qs (zf_X18_begin_J35 20000 2156 i1 i2 2156 S) (qf_X18_begin_J35 20000 qi1 qi2 M) (tO (rr L xs P vi)) := by
  unfold zf_X18_begin_J35 qf_X18_begin_J35
  exact (qz_X18_begin_J36 hS hM ei1 ei2 k_0)
set_option maxRecDepth 20000 in
theorem qz_X18_begin_J31 {P : Nat → Nat} {S : zm_S} {M : qm} {i1 : Int32} {qi1 : Int} {i2 : Int32} {qi2 : Int} (hS : Sh L xs P S) (hM : qM P S = M) (ei1 : i1.toInt = qi1) (ei2 : i2.toInt = qi2) : qs (zf_X18_begin_J31 20000 2156 i1 i2 2156 S) (qf_X18_begin_J31 20000 qi1 qi2 M) (tO (rr L xs P vi)) := by
  unfold zf_X18_begin_J31 qf_X18_begin_J31
  exact (qz_X18_begin_J36 hS hM ei1 ei2 k_1)
set_option maxRecDepth 20000 in
theorem qz_X18_begin {P : Nat → Nat} {S : zm_S} {M : qm} {i1 : Int32} {qi1 : Int} {i2 : Int32} {qi2 : Int} (hS : Sh L xs P S) (hM : qM P S = M) (ei1 : i1.toInt = qi1) (ei2 : i2.toInt = qi2) : qs (zf_X18_begin 20000 2156 i1 i2 S) (qf_X18_begin 20000 qi1 qi2 M) (tO (rr L xs P vi)) := by
  unfold zf_X18_begin qf_X18_begin
  refine qs_gr hS pl_2156 ts_2156 rfl ?_
  refine qs_zi hS pl_2270 ts_2270 ?_
  refine qs_bp (qz_X13_opens hS hM ei1) (fun v8165 S8165 w8165 h8165 hS8165 hM8165 => ?_)
  refine qs_ite (c_eq h8165 k_0) ?_ ?_
  · exact (qz_X18_begin_J35 hS8165 hM8165 ei1 ei2)
  · refine qs_ite (c_eq ei2 k_m1) ?_ ?_
    · exact (qz_X18_begin_J31 hS8165 hM8165 ei1 ei2)
    · refine qs_gr hS8165 pl_2156 ts_2156 rfl ?_
      refine qs_gi hS8165 hM8165 pl_2270 ts_2270 (z := 0) rfl rfl (fun v8167 h8167 => ?_)
      refine qs_bp (qz_X18_isIn hS8165 hM8165 ei2 h8167) (fun v8168 S8168 w8168 h8168 hS8168 hM8168 => ?_)
      refine qs_ite (c_eq h8168 k_0) ?_ ?_
      · exact (qz_X18_begin_J35 hS8168 hM8168 ei1 ei2)
      · exact (qz_X18_begin_J31 hS8168 hM8168 ei1 ei2)
set_option maxRecDepth 20000 in
theorem qz_X3_closeCall {P : Nat → Nat} {S : zm_S} {M : qm} {i1 : Int32} {qi1 : Int} (hS : Sh L xs P S) (hM : qM P S = M) (ei1 : i1.toInt = qi1) : qs (zf_X3_closeCall 20000 1337 i1 S) (qf_X3_closeCall 20000 qi1 M) (tO (rr L xs P vu)) := by
  unfold zf_X3_closeCall qf_X3_closeCall
  refine qs_zi hS pl_1337 ts_1337 ?_
  refine qs_b (qz_X3_endBeginning hS hM ei1) (fun v8170 S8170 w8170 M8170 h8170 hS8170 hM8170 => ?_)
  refine qs_zi hS8170 pl_1337 ts_1337 ?_
  refine qs_bp (qz_X3_placeOfOpen hS8170 hM8170 ei1) (fun v8172 S8172 w8172 h8172 hS8172 hM8172 => ?_)
  refine qs_ite (c_eq h8172 k_m1) ?_ ?_
  · exact qs_tr (show vu _ _ from trivial) hS8172 hM8172
  · refine qs_gr hS8172 pl_1337 ts_1337 rfl ?_
    refine qs_gr hS8172 pl_1337 ts_1337 rfl ?_
    refine qs_gi hS8172 hM8172 pl_1337 ts_1337 (z := 4) rfl rfl (fun v8175 h8175 => ?_)
    refine qs_gd (fun g8177 => ?_)
    refine qs_cpi hS8172 hM8172 (pa_p hS8172 pl_1744 ts_1744) (pa_p hS8172 pl_1744 ts_1744) (p_add h8172 k_1) h8172 (p_sub (p_sub h8175 h8172) k_1) (by have q := g8177; omega) (fun S8176 M8176 hS8176 hM8176 => ?_)
    refine qs_gi hS8176 hM8176 pl_1337 ts_1337 (z := 4) rfl rfl (fun v8178 h8178 => ?_)
    refine qs_pi hS8176 hM8176 pl_1337 ts_1337 (z := 4) rfl rfl (p_sub h8178 k_1) (fun S8179 M8179 hS8179 hM8179 => ?_)
    exact qs_tr (show vu _ _ from trivial) hS8179 hM8179
set_option maxRecDepth 20000 in
theorem qz_X11_done {P : Nat → Nat} {S : zm_S} {M : qm} {i1 : Int32} {qi1 : Int} (hS : Sh L xs P S) (hM : qM P S = M) (ei1 : i1.toInt = qi1) : qs (zf_X11_done 20000 6 i1 S) (qf_X11_done 20000 qi1 M) (tO (rr L xs P (vs vu ve))) := by
  unfold zf_X11_done qf_X11_done
  refine qs_gr hS pl_6 ts_6 rfl ?_
  refine qs_zi hS pl_1337 ts_1337 ?_
  refine qs_bp (qz_X3_isOpenCall hS hM ei1) (fun v8182 S8182 w8182 h8182 hS8182 hM8182 => ?_)
  refine qs_xp (qz_X11_needArgument hS8182 hM8182 h8182) ?_ ?_
  · intro v8184 S8184 w8184 h8184 hS8184 hM8184
    dsimp only
    refine qs_gi hS8184 hM8184 pl_6 ts_6 (z := 11) rfl rfl (fun v8185 h8185 => ?_)
    refine qs_xp (qz_X11_needState hS8184 hM8184 h8185) ?_ ?_
    · intro v8187 S8187 w8187 h8187 hS8187 hM8187
      dsimp only
      refine qs_gr hS8187 pl_6 ts_6 rfl ?_
      refine qs_zi hS8187 pl_1337 ts_1337 ?_
      refine qs_b (qz_X3_closeCall hS8187 hM8187 ei1) (fun v8190 S8190 w8190 M8190 h8190 hS8190 hM8190 => ?_)
      exact qs_tr (show (vs vu ve) _ _ from trivial) hS8190 hM8190
    · intro v8187 S8187 hS8187 hM8187
      dsimp only
      exact qs_tr (show (vs vu ve) _ _ from rfl) hS8187 hM8187
  · intro v8184 S8184 hS8184 hM8184
    dsimp only
    exact qs_tr (show (vs vu ve) _ _ from rfl) hS8184 hM8184
set_option maxRecDepth 20000 in
theorem qz_L_done {P : Nat → Nat} {S : zm_S} {M : qm} {i1 : Int32} {qi1 : Int} (hS : Sh L xs P S) (hM : qM P S = M) (ei1 : i1.toInt = qi1) : qs (zf_L_done 20000 6 i1 S) (qf_L_done 20000 qi1 M) (tO (rr L xs P vi)) := by
  unfold zf_L_done qf_L_done
  refine qs_zi hS pl_6 ts_6 ?_
  refine qs_xr (qz_X11_done hS hM ei1) ?_ ?_
  · intro v8193 S8193 w8193 M8193 h8193 hS8193 hM8193
    dsimp only
    exact qs_tr (show vi _ _ from k_0) hS8193 hM8193
  · intro v8193 S8193 M8193 hS8193 hM8193
    dsimp only
    refine qs_ite Iff.rfl ?_ ?_
    · exact qs_tr (show vi _ _ from k_1) hS8193 hM8193
    · refine qs_ite Iff.rfl ?_ ?_
      · exact qs_tr (show vi _ _ from k_2) hS8193 hM8193
      · exact qs_none
set_option maxRecDepth 20000 in
theorem qz_X18_done {P : Nat → Nat} {S : zm_S} {M : qm} {i1 : Int32} {qi1 : Int} (hS : Sh L xs P S) (hM : qM P S = M) (ei1 : i1.toInt = qi1) : qs (zf_X18_done 20000 2156 i1 S) (qf_X18_done 20000 qi1 M) (tO (rr L xs P vu)) := by
  unfold zf_X18_done qf_X18_done
  refine qs_gr hS pl_2156 ts_2156 rfl ?_
  refine qs_zi hS pl_2270 ts_2270 ?_
  refine qs_bp (qz_X13_opens hS hM ei1) (fun v8196 S8196 w8196 h8196 hS8196 hM8196 => ?_)
  refine qs_gi hS8196 hM8196 pl_2156 ts_2156 (z := 1) rfl rfl (fun v8197 h8197 => ?_)
  refine qs_zi hS8196 pl_2156 ts_2156 ?_
  refine qs_b (qz_X18_goes hS8196 hM8196 h8196 h8197) (fun v8199 S8199 w8199 M8199 h8199 hS8199 hM8199 => ?_)
  refine qs_ite (c_eq h8199 k_0) ?_ ?_
  · exact qs_tr (show vu _ _ from trivial) hS8199 hM8199
  · refine qs_gr hS8199 pl_2156 ts_2156 rfl ?_
    refine qs_gr hS8199 pl_2270 ts_2270 rfl ?_
    refine qs_gd (fun g8203 => ?_)
    refine qs_sz hS8199 hM8199 (pa_p hS8199 pl_2279 ts_2279) ei1 g8203 k_0 (by decide) (fun S8202 M8202 hS8202 hM8202 => ?_)
    exact qs_tr (show vu _ _ from trivial) hS8202 hM8202
set_option maxRecDepth 20000 in
theorem qz_X11_isHome {P : Nat → Nat} {S : zm_S} {M : qm}  (hS : Sh L xs P S) (hM : qM P S = M)  : qs (zf_X11_isHome 20000 6 S) (qf_X11_isHome 20000 M) (tO (rp L xs P M vi)) := by
  unfold zf_X11_isHome qf_X11_isHome
  refine qs_gr hS pl_6 ts_6 rfl ?_
  refine qs_zi hS pl_1172 ts_1172 ?_
  refine qs_bp (qz_X4_isKindDone hS hM k_1) (fun v8206 S8206 w8206 h8206 hS8206 hM8206 => ?_)
  refine qs_ite (or_congr (c_eq h8206 k_0) (c_eq h8206 k_1)) ?_ ?_
  · exact qs_tp (show vi _ _ from h8206) hS8206 hM8206
  · exact qs_none
set_option maxRecDepth 20000 in
theorem qz_X3_makeGiving_L7_b (n : Nat) {P : Nat → Nat} {S : zm_S} {M : qm} {i2 : Int32} {qi2 : Int} {i3 : Int32} {qi3 : Int} (hS : Sh L xs P S) (hM : qM P S = M) (ei2 : i2.toInt = qi2) (ei3 : i3.toInt = qi3) : qs (zf_X3_makeGiving_L7 20000 (n + 1) 1337 i2 i3 S) (qf_X3_makeGiving_L7_b 20000 qi2 qi3 M) (tk (vs (rr L xs P vl) (rr L xs P vu)) (qc_X3_makeGiving_L7 L xs P (zf_X3_makeGiving_L7 20000 n))) := by
  refine qs_eq (zf_X3_makeGiving_L7.eq_2 ..) ?_
  unfold qf_X3_makeGiving_L7_b
  refine qs_gi hS hM pl_1337 ts_1337 (z := 2) rfl rfl (fun v8207 h8207 => ?_)
  refine qs_ite (c_le h8207 ei3) ?_ ?_
  · exact qs_tr2 (show vu _ _ from trivial) hS hM
  · refine qs_gr hS pl_1337 ts_1337 rfl ?_
    refine qs_gd (fun g8210 => ?_)
    refine qs_xt hS pl_1745 ts_1745 (Or.inl rfl) ei3 g8210 (fun b8209 r8209 => ?_)
    refine qs_fyi hS hM qt_1745 tq_1745 r8209 (by decide) k_m1 (fun S8211 M8211 hS8211 hM8211 => ?_)
    exact qs_tk ⟨_, _, _, rfl, ei2, (p_add ei3 k_1), hS8211, hM8211⟩
theorem qz_X3_makeGiving_L7 (n : Nat) : ∀ {P : Nat → Nat} {S : zm_S} {M : qm} {i2 : Int32} {qi2 : Int} {i3 : Int32} {qi3 : Int} (hS : Sh L xs P S) (hM : qM P S = M) (ei2 : i2.toInt = qi2) (ei3 : i3.toInt = qi3), qs (zf_X3_makeGiving_L7 20000 n 1337 i2 i3 S) (qf_X3_makeGiving_L7 20000 n qi2 qi3 M) (tO (vs (rr L xs P vl) (rr L xs P vu))) := by
  induction n with
  | zero =>
    intros
    exact qs_none
  | succ n ih =>
    intro P S M i2 qi2 i3 qi3 hS hM ei2 ei3
    unfold qf_X3_makeGiving_L7
    refine qs_loop (C := (qc_X3_makeGiving_L7 L xs P (zf_X3_makeGiving_L7 20000 n))) (qz_X3_makeGiving_L7_b n hS hM ei2 ei3) ?_
    rintro x s ⟨_, _, _, rfl, u0, u1, hS2, hM2⟩
    exact ih hS2 hM2 u0 u1
set_option maxRecDepth 20000 in
theorem qz_X3_carsThatMayTake_J36 {P : Nat → Nat} {S : zm_S} {M : qm} {i1 : Int32} {qi1 : Int} {i3 : Int32} {qi3 : Int} {i4 : Int32} {qi4 : Int} {t0 : Int32} {qt0 : Int} (hS : Sh L xs P S) (hM : qM P S = M) (ei1 : i1.toInt = qi1) (ei3 : i3.toInt = qi3) (ei4 : i4.toInt = qi4) (et0 : t0.toInt = qt0) {k : Nat → Int32 → Int32 → Int32 → Int32 → zm_S → Option ((Int32 × zm_S) ⊕ ((Int32 × Int32) × zm_S))} : qs (zf_X3_carsThatMayTake_J36 20000 k 1337 i1 i3 i4 t0 S) (qf_X3_carsThatMayTake_J36 20000 qi1 qi3 qi4 qt0 M) (tk (vs (rp L xs P M vi) (rp L xs P M (vp vi vi))) (qc_X3_carsThatMayTake_L7 L xs P M k)) := by
  unfold zf_X3_carsThatMayTake_J36 qf_X3_carsThatMayTake_J36
  refine qs_gr hS pl_1337 ts_1337 rfl ?_
  refine qs_gd (fun g8214 => ?_)
  refine qs_xt hS pl_1338 ts_1338 (Or.inl rfl) ei4 g8214 (fun b8213 r8213 => ?_)
  refine qs_yi (j := 5) hS hM qt_1338 tq_1338 r8213 k_5 (by decide) (fun v8215 h8215 => ?_)
  refine qs_ite (c_eq h8215 ei1) ?_ ?_
  · exact qs_tk ⟨_, _, _, _, _, rfl, ei1, et0, ei4, (p_add ei4 k_1), hS, hM⟩
  · exact qs_tk ⟨_, _, _, _, _, rfl, ei1, et0, ei3, (p_add ei4 k_1), hS, hM⟩
set_option maxRecDepth 20000 in
theorem qz_X3_carsThatMayTake_L7_b (n : Nat) {P : Nat → Nat} {S : zm_S} {M : qm} {i1 : Int32} {qi1 : Int} {i2 : Int32} {qi2 : Int} {i3 : Int32} {qi3 : Int} {i4 : Int32} {qi4 : Int} (hS : Sh L xs P S) (hM : qM P S = M) (ei1 : i1.toInt = qi1) (ei2 : i2.toInt = qi2) (ei3 : i3.toInt = qi3) (ei4 : i4.toInt = qi4) : qs (zf_X3_carsThatMayTake_L7 20000 (n + 1) 1337 i1 i2 i3 i4 S) (qf_X3_carsThatMayTake_L7_b 20000 qi1 qi2 qi3 qi4 M) (tk (vs (rp L xs P M vi) (rp L xs P M (vp vi vi))) (qc_X3_carsThatMayTake_L7 L xs P M (zf_X3_carsThatMayTake_L7 20000 n))) := by
  refine qs_eq (zf_X3_carsThatMayTake_L7.eq_2 ..) ?_
  unfold qf_X3_carsThatMayTake_L7_b
  refine qs_gi hS hM pl_1337 ts_1337 (z := 0) rfl rfl (fun v8216 h8216 => ?_)
  refine qs_ite (c_le h8216 ei4) ?_ ?_
  · exact qs_tp2 (show (vp vi vi) _ _ from ⟨ei2, ei3⟩) hS hM
  · refine qs_zi hS pl_1337 ts_1337 ?_
    refine qs_bp (qz_X3_isInSpan hS hM ei1 ei4) (fun v8218 S8218 w8218 h8218 hS8218 hM8218 => ?_)
    refine qs_ite (c_eq h8218 k_0) ?_ ?_
    · exact (qz_X3_carsThatMayTake_J36 hS8218 hM8218 ei1 ei3 ei4 ei2)
    · exact (qz_X3_carsThatMayTake_J36 hS8218 hM8218 ei1 ei3 ei4 (p_or ei2 (p_shl k_1 ei4)))
theorem qz_X3_carsThatMayTake_L7 (n : Nat) : ∀ {P : Nat → Nat} {S : zm_S} {M : qm} {i1 : Int32} {qi1 : Int} {i2 : Int32} {qi2 : Int} {i3 : Int32} {qi3 : Int} {i4 : Int32} {qi4 : Int} (hS : Sh L xs P S) (hM : qM P S = M) (ei1 : i1.toInt = qi1) (ei2 : i2.toInt = qi2) (ei3 : i3.toInt = qi3) (ei4 : i4.toInt = qi4), qs (zf_X3_carsThatMayTake_L7 20000 n 1337 i1 i2 i3 i4 S) (qf_X3_carsThatMayTake_L7 20000 n qi1 qi2 qi3 qi4 M) (tO (vs (rp L xs P M vi) (rp L xs P M (vp vi vi)))) := by
  induction n with
  | zero =>
    intros
    exact qs_none
  | succ n ih =>
    intro P S M i1 qi1 i2 qi2 i3 qi3 i4 qi4 hS hM ei1 ei2 ei3 ei4
    unfold qf_X3_carsThatMayTake_L7
    refine qs_loop (C := (qc_X3_carsThatMayTake_L7 L xs P M (zf_X3_carsThatMayTake_L7 20000 n))) (qz_X3_carsThatMayTake_L7_b n hS hM ei1 ei2 ei3 ei4) ?_
    rintro x s ⟨_, _, _, _, _, rfl, u0, u1, u2, u3, hS2, hM2⟩
    exact ih hS2 hM2 u0 u1 u2 u3
set_option maxRecDepth 20000 in
theorem qz_X3_carsThatMayTake {P : Nat → Nat} {S : zm_S} {M : qm} {i1 : Int32} {qi1 : Int} (hS : Sh L xs P S) (hM : qM P S = M) (ei1 : i1.toInt = qi1) : qs (zf_X3_carsThatMayTake 20000 1337 i1 S) (qf_X3_carsThatMayTake 20000 qi1 M) (tO (rp L xs P M vi)) := by
  unfold zf_X3_carsThatMayTake qf_X3_carsThatMayTake
  refine qs_lp (qz_X3_carsThatMayTake_L7 20000 hS hM ei1 k_0 k_m1 k_0) ?_ ?_
  · intro v8220 S8220 w8220 h8220 hS8220 hM8220
    dsimp only
    exact qs_tp h8220 hS8220 hM8220
  · intro v8220 S8220 w8220 h8220 hS8220 hM8220
    dsimp only
    refine qs_ite (c_eq h8220.2 k_m1) ?_ ?_
    · exact qs_tp (show vi _ _ from h8220.1) hS8220 hM8220
    · exact qs_tp (show vi _ _ from (p_and h8220.1 (p_shl k_1 h8220.2))) hS8220 hM8220
set_option maxRecDepth 20000 in
theorem qz_X3_makeGiving_L33_b (n : Nat) {P : Nat → Nat} {S : zm_S} {M : qm} {i2 : Int32} {qi2 : Int} {i3 : Int32} {qi3 : Int} (hS : Sh L xs P S) (hM : qM P S = M) (ei2 : i2.toInt = qi2) (ei3 : i3.toInt = qi3) : qs (zf_X3_makeGiving_L33 20000 (n + 1) 1337 i2 i3 S) (qf_X3_makeGiving_L33_b 20000 qi2 qi3 M) (tk (vs (rr L xs P vl) (rr L xs P vu)) (qc_X3_makeGiving_L33 L xs P (zf_X3_makeGiving_L33 20000 n))) := by
  refine qs_eq (zf_X3_makeGiving_L33.eq_2 ..) ?_
  unfold qf_X3_makeGiving_L33_b
  refine qs_gi hS hM pl_1337 ts_1337 (z := 4) rfl rfl (fun v8221 h8221 => ?_)
  refine qs_ite (c_le h8221 ei3) ?_ ?_
  · exact qs_tr2 (show vu _ _ from trivial) hS hM
  · refine qs_gr hS pl_1337 ts_1337 rfl ?_
    refine qs_ite (c_eq ei2 k_0) ?_ ?_
    · refine qs_gr hS pl_1337 ts_1337 rfl ?_
      refine qs_gd (fun g8225 => ?_)
      refine qs_xi hM (pa_p hS pl_1744 ts_1744) ei3 g8225 (fun v8224 h8224 => ?_)
      refine qs_zi hS pl_1337 ts_1337 ?_
      refine qs_bp (qz_X3_carsThatMayTake hS hM h8224) (fun v8227 S8227 w8227 h8227 hS8227 hM8227 => ?_)
      refine qs_gd (fun g8229 => ?_)
      refine qs_si hS8227 hM8227 (pa_p hS8227 pl_2146 ts_2146) ei3 g8229 h8227 (fun S8228 M8228 hS8228 hM8228 => ?_)
      exact qs_tk ⟨_, _, _, rfl, ei2, (p_add ei3 k_1), hS8228, hM8228⟩
    · refine qs_gd (fun g8231 => ?_)
      refine qs_si hS hM (pa_p hS pl_2146 ts_2146) ei3 g8231 k_0 (fun S8230 M8230 hS8230 hM8230 => ?_)
      exact qs_tk ⟨_, _, _, rfl, ei2, (p_add ei3 k_1), hS8230, hM8230⟩
theorem qz_X3_makeGiving_L33 (n : Nat) : ∀ {P : Nat → Nat} {S : zm_S} {M : qm} {i2 : Int32} {qi2 : Int} {i3 : Int32} {qi3 : Int} (hS : Sh L xs P S) (hM : qM P S = M) (ei2 : i2.toInt = qi2) (ei3 : i3.toInt = qi3), qs (zf_X3_makeGiving_L33 20000 n 1337 i2 i3 S) (qf_X3_makeGiving_L33 20000 n qi2 qi3 M) (tO (vs (rr L xs P vl) (rr L xs P vu))) := by
  induction n with
  | zero =>
    intros
    exact qs_none
  | succ n ih =>
    intro P S M i2 qi2 i3 qi3 hS hM ei2 ei3
    unfold qf_X3_makeGiving_L33
    refine qs_loop (C := (qc_X3_makeGiving_L33 L xs P (zf_X3_makeGiving_L33 20000 n))) (qz_X3_makeGiving_L33_b n hS hM ei2 ei3) ?_
    rintro x s ⟨_, _, _, rfl, u0, u1, hS2, hM2⟩
    exact ih hS2 hM2 u0 u1
set_option maxRecDepth 20000 in
theorem qz_X3_mayTakeAll_L2_b (n : Nat) {P : Nat → Nat} {S : zm_S} {M : qm} {i1 : Int32} {qi1 : Int} {i2 : Int32} {qi2 : Int} {i3 : Int32} {qi3 : Int} (hS : Sh L xs P S) (hM : qM P S = M) (ei1 : i1.toInt = qi1) (ei2 : i2.toInt = qi2) (ei3 : i3.toInt = qi3) : qs (zf_X3_mayTakeAll_L2 20000 (n + 1) 1337 i1 i2 i3 S) (qf_X3_mayTakeAll_L2_b 20000 qi1 qi2 qi3 M) (tk (vs (rp L xs P M vi) (rp L xs P M vu)) (qc_X3_mayTakeAll_L2 L xs P M (zf_X3_mayTakeAll_L2 20000 n))) := by
  refine qs_eq (zf_X3_mayTakeAll_L2.eq_2 ..) ?_
  unfold qf_X3_mayTakeAll_L2_b
  refine qs_gi hS hM pl_1337 ts_1337 (z := 4) rfl rfl (fun v8232 h8232 => ?_)
  refine qs_ite (c_le h8232 ei3) ?_ ?_
  · exact qs_tp2 (show vu _ _ from trivial) hS hM
  · refine qs_ite (c_eq (p_and (p_shr ei2 ei3) k_1) k_0) ?_ ?_
    · exact qs_tk ⟨_, _, _, _, rfl, ei1, ei2, (p_add ei3 k_1), hS, hM⟩
    · refine qs_gr hS pl_1337 ts_1337 rfl ?_
      refine qs_gd (fun g8235 => ?_)
      refine qs_xi hM (pa_p hS pl_2146 ts_2146) ei3 g8235 (fun v8234 h8234 => ?_)
      refine qs_ite (c_eq (p_and (p_shr h8234 ei1) k_1) k_0) ?_ ?_
      · exact qs_tp1 (show vi _ _ from k_0) hS hM
      · exact qs_tk ⟨_, _, _, _, rfl, ei1, ei2, (p_add ei3 k_1), hS, hM⟩
theorem qz_X3_mayTakeAll_L2 (n : Nat) : ∀ {P : Nat → Nat} {S : zm_S} {M : qm} {i1 : Int32} {qi1 : Int} {i2 : Int32} {qi2 : Int} {i3 : Int32} {qi3 : Int} (hS : Sh L xs P S) (hM : qM P S = M) (ei1 : i1.toInt = qi1) (ei2 : i2.toInt = qi2) (ei3 : i3.toInt = qi3), qs (zf_X3_mayTakeAll_L2 20000 n 1337 i1 i2 i3 S) (qf_X3_mayTakeAll_L2 20000 n qi1 qi2 qi3 M) (tO (vs (rp L xs P M vi) (rp L xs P M vu))) := by
  induction n with
  | zero =>
    intros
    exact qs_none
  | succ n ih =>
    intro P S M i1 qi1 i2 qi2 i3 qi3 hS hM ei1 ei2 ei3
    unfold qf_X3_mayTakeAll_L2
    refine qs_loop (C := (qc_X3_mayTakeAll_L2 L xs P M (zf_X3_mayTakeAll_L2 20000 n))) (qz_X3_mayTakeAll_L2_b n hS hM ei1 ei2 ei3) ?_
    rintro x s ⟨_, _, _, _, rfl, u0, u1, u2, hS2, hM2⟩
    exact ih hS2 hM2 u0 u1 u2
set_option maxRecDepth 20000 in
theorem qz_X3_mayTakeAll {P : Nat → Nat} {S : zm_S} {M : qm} {i1 : Int32} {qi1 : Int} {i2 : Int32} {qi2 : Int} (hS : Sh L xs P S) (hM : qM P S = M) (ei1 : i1.toInt = qi1) (ei2 : i2.toInt = qi2) : qs (zf_X3_mayTakeAll 20000 1337 i1 i2 S) (qf_X3_mayTakeAll 20000 qi1 qi2 M) (tO (rp L xs P M vi)) := by
  unfold zf_X3_mayTakeAll qf_X3_mayTakeAll
  refine qs_lp (qz_X3_mayTakeAll_L2 20000 hS hM ei1 ei2 k_0) ?_ ?_
  · intro v8237 S8237 w8237 h8237 hS8237 hM8237
    dsimp only
    exact qs_tp h8237 hS8237 hM8237
  · intro v8237 S8237 w8237 h8237 hS8237 hM8237
    dsimp only
    exact qs_tp (show vi _ _ from k_1) hS8237 hM8237
set_option maxRecDepth 20000 in
theorem qz_X3_mayComeNext {P : Nat → Nat} {S : zm_S} {M : qm} {i1 : Int32} {qi1 : Int} {i2 : Int32} {qi2 : Int} {i3 : Int32} {qi3 : Int} {i4 : Int32} {qi4 : Int} (hS : Sh L xs P S) (hM : qM P S = M) (ei1 : i1.toInt = qi1) (ei2 : i2.toInt = qi2) (ei3 : i3.toInt = qi3) (ei4 : i4.toInt = qi4) : qs (zf_X3_mayComeNext 20000 1337 i1 i2 i3 i4 S) (qf_X3_mayComeNext 20000 qi1 qi2 qi3 qi4 M) (tO (rp L xs P M vi)) := by
  unfold zf_X3_mayComeNext qf_X3_mayComeNext
  refine qs_gr hS pl_1337 ts_1337 rfl ?_
  refine qs_gd (fun g8240 => ?_)
  refine qs_xt hS pl_1338 ts_1338 (Or.inl rfl) ei1 g8240 (fun b8239 r8239 => ?_)
  refine qs_yi (j := 5) hS hM qt_1338 tq_1338 r8239 k_5 (by decide) (fun v8241 h8241 => ?_)
  refine qs_zi hS pl_1337 ts_1337 ?_
  refine qs_bp (qz_X3_placeOfOpen hS hM h8241) (fun v8243 S8243 w8243 h8243 hS8243 hM8243 => ?_)
  refine qs_ite (c_lt k_0 ei4) ?_ ?_
  · exact qs_tp (show vi _ _ from k_1) hS8243 hM8243
  · refine qs_ite (c_eq h8243 k_m1) ?_ ?_
    · exact qs_tp (show vi _ _ from k_1) hS8243 hM8243
    · refine qs_ite (c_eq h8243 ei2) ?_ ?_
      · exact qs_tp (show vi _ _ from k_1) hS8243 hM8243
      · refine qs_ite (c_eq (p_and (p_shr ei3 h8243) k_1) k_0) ?_ ?_
        · exact qs_tp (show vi _ _ from k_1) hS8243 hM8243
        · exact qs_tp (show vi _ _ from k_0) hS8243 hM8243
set_option maxRecDepth 20000 in
theorem qz_X3_weightOf {P : Nat → Nat} {S : zm_S} {M : qm} {a1 : Nat} {qa1 : Int} (hS : Sh L xs P S) (hM : qM P S = M) (ra1 : pr a1 1344 400 qa1) : qs (zf_X3_weightOf 20000 1337 a1 S) (qf_X3_weightOf 20000 qa1 M) (tO (rp L xs P M vl)) := by
  unfold zf_X3_weightOf qf_X3_weightOf
  refine qs_gi hS hM pl_1337 ts_1337 (z := 7) rfl rfl (fun v8244 h8244 => ?_)
  refine qs_yi (j := 2) hS hM qt_1343 tq_1343 ra1 k_2 (by decide) (fun v8245 h8245 => ?_)
  exact qs_tp (show vl _ _ from (p_64 (p_add k_1 (p_div (p_sub h8244 h8245) k_30 (by decide))))) hS hM
set_option maxRecDepth 20000 in
theorem qz_X3_tryRows_B_L49_b (n : Nat) {P : Nat → Nat} {S : zm_S} {M : qm} {i1 : Int32} {qi1 : Int} {i2 : Int32} {qi2 : Int} {i3 : Int32} {qi3 : Int} {i4 : Int32} {qi4 : Int} {i5 : Int32} {qi5 : Int} {j6 : Int64} {qj6 : Int} {i8 : Int32} {qi8 : Int} {i9 : Int32} {qi9 : Int} {K : Nat → Int32 → Int32 → Int32 → Int32 → Int32 → Int64 → zm_S → Option (Unit × zm_S)} {Kq : Int → Int → Int → Int → Int → Int → qm → Option (Unit × qm)} (hK : ∀ {S : zm_S} {M : qm} {x2 : Int32} {y2 : Int} {x3 : Int32} {y3 : Int} {x4 : Int32} {y4 : Int} {x5 : Int32} {y5 : Int} {x6 : Int32} {y6 : Int} {x7 : Int64} {y7 : Int}, Sh L xs P S → qM P S = M → x2.toInt = y2 → x3.toInt = y3 → x4.toInt = y4 → x5.toInt = y5 → x6.toInt = y6 → x7.toInt = y7 → qs (K 1337 x2 x3 x4 x5 x6 x7 S) (Kq y2 y3 y4 y5 y6 y7 M) (tO (rr L xs P vu))) (hS : Sh L xs P S) (hM : qM P S = M) (ei1 : i1.toInt = qi1) (ei2 : i2.toInt = qi2) (ei3 : i3.toInt = qi3) (ei4 : i4.toInt = qi4) (ei5 : i5.toInt = qi5) (ej6 : j6.toInt = qj6) (ei8 : i8.toInt = qi8) (ei9 : i9.toInt = qi9) : qs (zf_X3_tryRows_B_L49 20000 K (n + 1) 1337 i1 i2 i3 i4 i5 j6 i8 i9 S) (qf_X3_tryRows_B_L49_b 20000 Kq qi1 qi2 qi3 qi4 qi5 qj6 qi8 qi9 M) (tk (vs (rr L xs P vu) (rr L xs P vu)) (qc_X3_tryRows_B_L49 L xs P (zf_X3_tryRows_B_L49 20000 K n))) := by
  refine qs_eq (zf_X3_tryRows_B_L49.eq_2 ..) ?_
  unfold qf_X3_tryRows_B_L49_b
  refine qs_gi hS hM pl_1337 ts_1337 (z := 4) rfl rfl (fun v8246 h8246 => ?_)
  refine qs_ite (c_le h8246 ei9) ?_ ?_
  · exact qs_tr2 (show vu _ _ from trivial) hS hM
  · refine qs_ite (c_le k_6 ei3) ?_ ?_
    · exact qs_tr2 (show vu _ _ from trivial) hS hM
    · refine qs_ite (c_eq (p_and (p_shr ei2 ei9) k_1) k_0) ?_ ?_
      · exact qs_tk ⟨_, _, _, _, _, _, _, _, _, rfl, ei1, ei2, ei3, ei4, ei5, ej6, ei8, (p_add ei9 k_1), hS, hM⟩
      · refine qs_zi hS pl_1337 ts_1337 ?_
        refine qs_bp (qz_X3_mayComeNext hS hM ei1 ei9 ei2 ei3) (fun v8248 S8248 w8248 h8248 hS8248 hM8248 => ?_)
        refine qs_ite (c_eq h8248 k_0) ?_ ?_
        · exact qs_tk ⟨_, _, _, _, _, _, _, _, _, rfl, ei1, ei2, ei3, ei4, ei5, ej6, ei8, (p_add ei9 k_1), hS8248, hM8248⟩
        · refine qs_gr hS8248 pl_1337 ts_1337 rfl ?_
          refine qs_gr hS8248 pl_1337 ts_1337 rfl ?_
          refine qs_gd (fun g8252 => ?_)
          refine qs_xi hM8248 (pa_p hS8248 pl_1744 ts_1744) ei9 g8252 (fun v8251 h8251 => ?_)
          refine qs_gd (fun g8254 => ?_)
          refine qs_xt hS8248 pl_1343 ts_1343 (Or.inl rfl) h8251 g8254 (fun b8253 r8253 => ?_)
          refine qs_yi (j := 0) hS8248 hM8248 qt_1343 tq_1343 r8253 k_0 (by decide) (fun v8255 h8255 => ?_)
          refine qs_yi (j := 1) hS8248 hM8248 qt_1343 tq_1343 r8253 k_1 (by decide) (fun v8256 h8256 => ?_)
          refine qs_yi (j := 0) hS8248 hM8248 qt_1343 tq_1343 r8253 k_0 (by decide) (fun v8257 h8257 => ?_)
          refine qs_gr hS8248 pl_1337 ts_1337 rfl ?_
          refine qs_gd (fun g8260 => ?_)
          refine qs_si hS8248 hM8248 (pa_p hS8248 pl_2152 ts_2152) ei3 g8260 ei9 (fun S8259 M8259 hS8259 hM8259 => ?_)
          refine qs_zi hS8259 pl_1337 ts_1337 ?_
          refine qs_bp (qz_X3_weightOf hS8259 hM8259 r8253) (fun v8262 S8262 w8262 h8262 hS8262 hM8262 => ?_)
          refine qs_yi (j := 1) hS8262 hM8262 qt_1343 tq_1343 r8253 k_1 (by decide) (fun v8263 h8263 => ?_)
          refine qs_zi hS8262 pl_1337 ts_1337 ?_
          refine qs_b (hK hS8262 hM8262 ei1 (p_and ei2 (p_xor (p_shl k_1 ei9) k_m1)) (p_add ei3 k_1) h8263 (p_add (p_add (p_add (p_add ei5 (p_mul (p_abs (p_sub ei4 h8255)) ei8)) k_3) (p_mul (p_abs (p_sub h8256 h8257)) ei8)) k_3) (pl_add (pl_add ej6 (pl_mul h8262 (p_64 (p_add ei5 (p_mul (p_abs (p_sub ei4 h8255)) ei8))))) (p_64 (p_add (p_add (p_add ei5 (p_mul (p_abs (p_sub ei4 h8255)) ei8)) k_3) (p_mul (p_abs (p_sub h8256 h8257)) ei8))))) (fun v8265 S8265 w8265 M8265 h8265 hS8265 hM8265 => ?_)
          exact qs_tk ⟨_, _, _, _, _, _, _, _, _, rfl, ei1, ei2, ei3, ei4, ei5, ej6, ei8, (p_add ei9 k_1), hS8265, hM8265⟩
theorem qz_X3_tryRows_B_L49 (n : Nat) : ∀ {P : Nat → Nat} {S : zm_S} {M : qm} {i1 : Int32} {qi1 : Int} {i2 : Int32} {qi2 : Int} {i3 : Int32} {qi3 : Int} {i4 : Int32} {qi4 : Int} {i5 : Int32} {qi5 : Int} {j6 : Int64} {qj6 : Int} {i8 : Int32} {qi8 : Int} {i9 : Int32} {qi9 : Int} {K : Nat → Int32 → Int32 → Int32 → Int32 → Int32 → Int64 → zm_S → Option (Unit × zm_S)} {Kq : Int → Int → Int → Int → Int → Int → qm → Option (Unit × qm)} (hK : ∀ {S : zm_S} {M : qm} {x2 : Int32} {y2 : Int} {x3 : Int32} {y3 : Int} {x4 : Int32} {y4 : Int} {x5 : Int32} {y5 : Int} {x6 : Int32} {y6 : Int} {x7 : Int64} {y7 : Int}, Sh L xs P S → qM P S = M → x2.toInt = y2 → x3.toInt = y3 → x4.toInt = y4 → x5.toInt = y5 → x6.toInt = y6 → x7.toInt = y7 → qs (K 1337 x2 x3 x4 x5 x6 x7 S) (Kq y2 y3 y4 y5 y6 y7 M) (tO (rr L xs P vu))) (hS : Sh L xs P S) (hM : qM P S = M) (ei1 : i1.toInt = qi1) (ei2 : i2.toInt = qi2) (ei3 : i3.toInt = qi3) (ei4 : i4.toInt = qi4) (ei5 : i5.toInt = qi5) (ej6 : j6.toInt = qj6) (ei8 : i8.toInt = qi8) (ei9 : i9.toInt = qi9), qs (zf_X3_tryRows_B_L49 20000 K n 1337 i1 i2 i3 i4 i5 j6 i8 i9 S) (qf_X3_tryRows_B_L49 20000 Kq n qi1 qi2 qi3 qi4 qi5 qj6 qi8 qi9 M) (tO (vs (rr L xs P vu) (rr L xs P vu))) := by
  induction n with
  | zero =>
    intros
    exact qs_none
  | succ n ih =>
    intro P S M i1 qi1 i2 qi2 i3 qi3 i4 qi4 i5 qi5 j6 qj6 i8 qi8 i9 qi9 K Kq hK hS hM ei1 ei2 ei3 ei4 ei5 ej6 ei8 ei9
    unfold qf_X3_tryRows_B_L49
    refine qs_loop (C := (qc_X3_tryRows_B_L49 L xs P (zf_X3_tryRows_B_L49 20000 K n))) (qz_X3_tryRows_B_L49_b n hK hS hM ei1 ei2 ei3 ei4 ei5 ej6 ei8 ei9) ?_
    rintro x s ⟨_, _, _, _, _, _, _, _, _, rfl, u0, u1, u2, u3, u4, u5, u6, u7, hS2, hM2⟩
    exact ih hK hS2 hM2 u0 u1 u2 u3 u4 u5 u6 u7
end QZ
