/-! ===== each function over memories is the one over plain states, by program (wip/tools/q) ===== -/
section QZ
variable {L : Nat} {xs : Nat → Int32}
set_option maxRecDepth 20000 in
theorem qz_X16_findRings {P : Nat → Nat} {S : zm_S} {M : qm}  (hS : Sh L xs P S) (hM : qM P S = M)  : qs (zf_X16_findRings 20000 2157 S) (qf_X16_findRings 20000 M) (tO (rr L xs P vu)) := by
  unfold zf_X16_findRings qf_X16_findRings
  refine qs_pi hS hM pl_2157 ts_2157 (z := 35) rfl rfl k_0 (fun S1113 M1113 hS1113 hM1113 => ?_)
  refine qs_lr (qz_X16_findRings_L7 20000 hS1113 hM1113 k_0) ?_ ?_
  · intro v1115 S1115 w1115 M1115 h1115 hS1115 hM1115
    dsimp only
    exact qs_tr h1115 hS1115 hM1115
  · intro v1115 S1115 w1115 M1115 h1115 hS1115 hM1115
    dsimp only
    refine qs_lr (qz_X16_findRings_L32 20000 hS1115 hM1115 k_0) ?_ ?_
    · intro v1117 S1117 w1117 M1117 h1117 hS1117 hM1117
      dsimp only
      exact qs_tr h1117 hS1117 hM1117
    · intro v1117 S1117 w1117 M1117 h1117 hS1117 hM1117
      dsimp only
      exact qs_tr (show vu _ _ from trivial) hS1117 hM1117
set_option maxRecDepth 20000 in
theorem qz_X16_number_L14_b (n : Nat) {P : Nat → Nat} {S : zm_S} {M : qm} {i1 : Int32} {qi1 : Int} {i2 : Int32} {qi2 : Int} (hS : Sh L xs P S) (hM : qM P S = M) (ei1 : i1.toInt = qi1) (ei2 : i2.toInt = qi2) : qs (zf_X16_number_L14 20000 (n + 1) 2157 i1 i2 S) (qf_X16_number_L14_b 20000 qi1 qi2 M) (tk (vs (rr L xs P vu) (rr L xs P vu)) (qc_X16_number_L14 L xs P (zf_X16_number_L14 20000 n))) := by
  refine qs_eq (zf_X16_number_L14.eq_2 ..) ?_
  unfold qf_X16_number_L14_b
  refine qs_ite (c_le k_1764 ei2) ?_ ?_
  · exact qs_tr2 (show vu _ _ from trivial) hS hM
  · refine qs_gr hS pl_2157 ts_2157 rfl ?_
    refine qs_gd (fun g1120 => ?_)
    refine qs_si hS hM (pa_p hS pl_2182 ts_2182) ei2 g1120 k_m2 (fun S1119 M1119 hS1119 hM1119 => ?_)
    exact qs_tk ⟨_, _, _, rfl, ei1, (p_add ei2 k_1), hS1119, hM1119⟩
theorem qz_X16_number_L14 (n : Nat) : ∀ {P : Nat → Nat} {S : zm_S} {M : qm} {i1 : Int32} {qi1 : Int} {i2 : Int32} {qi2 : Int} (hS : Sh L xs P S) (hM : qM P S = M) (ei1 : i1.toInt = qi1) (ei2 : i2.toInt = qi2), qs (zf_X16_number_L14 20000 n 2157 i1 i2 S) (qf_X16_number_L14 20000 n qi1 qi2 M) (tO (vs (rr L xs P vu) (rr L xs P vu))) := by
  induction n with
  | zero =>
    intros
    exact qs_none
  | succ n ih =>
    intro P S M i1 qi1 i2 qi2 hS hM ei1 ei2
    unfold qf_X16_number_L14
    refine qs_loop (C := (qc_X16_number_L14 L xs P (zf_X16_number_L14 20000 n))) (qz_X16_number_L14_b n hS hM ei1 ei2) ?_
    rintro x s ⟨_, _, _, rfl, u0, u1, hS2, hM2⟩
    exact ih hS2 hM2 u0 u1
set_option maxRecDepth 20000 in
theorem qz_X16_indexOf_L2_b (n : Nat) {P : Nat → Nat} {S : zm_S} {M : qm} {i1 : Int32} {qi1 : Int} {i2 : Int32} {qi2 : Int} (hS : Sh L xs P S) (hM : qM P S = M) (ei1 : i1.toInt = qi1) (ei2 : i2.toInt = qi2) : qs (zf_X16_indexOf_L2 20000 (n + 1) (P 2166) i1 i2 S) (qf_X16_indexOf_L2_b 20000 qi1 qi2 M) (tk (vs (rp L xs P M vi) (rp L xs P M vi)) (qc_X16_indexOf_L2 L xs P M (zf_X16_indexOf_L2 20000 n))) := by
  refine qs_eq (zf_X16_indexOf_L2.eq_2 ..) ?_
  unfold qf_X16_indexOf_L2_b
  refine qs_gd (fun g1122 => ?_)
  refine qs_xi hM (pa_s hS (d := 2166) rfl (by decide) (by decide) sf_2166) ei2 g1122 (fun v1121 h1121 => ?_)
  refine qs_ite (c_eq h1121 ei1) ?_ ?_
  · exact qs_tp2 (show vi _ _ from ei2) hS hM
  · exact qs_tk ⟨_, _, _, rfl, ei1, (p_add ei2 k_1), hS, hM⟩
theorem qz_X16_indexOf_L2 (n : Nat) : ∀ {P : Nat → Nat} {S : zm_S} {M : qm} {i1 : Int32} {qi1 : Int} {i2 : Int32} {qi2 : Int} (hS : Sh L xs P S) (hM : qM P S = M) (ei1 : i1.toInt = qi1) (ei2 : i2.toInt = qi2), qs (zf_X16_indexOf_L2 20000 n (P 2166) i1 i2 S) (qf_X16_indexOf_L2 20000 n qi1 qi2 M) (tO (vs (rp L xs P M vi) (rp L xs P M vi))) := by
  induction n with
  | zero =>
    intros
    exact qs_none
  | succ n ih =>
    intro P S M i1 qi1 i2 qi2 hS hM ei1 ei2
    unfold qf_X16_indexOf_L2
    refine qs_loop (C := (qc_X16_indexOf_L2 L xs P M (zf_X16_indexOf_L2 20000 n))) (qz_X16_indexOf_L2_b n hS hM ei1 ei2) ?_
    rintro x s ⟨_, _, _, rfl, u0, u1, hS2, hM2⟩
    exact ih hS2 hM2 u0 u1
set_option maxRecDepth 20000 in
theorem qz_X16_indexOf {P : Nat → Nat} {S : zm_S} {M : qm} {i1 : Int32} {qi1 : Int} (hS : Sh L xs P S) (hM : qM P S = M) (ei1 : i1.toInt = qi1) : qs (zf_X16_indexOf 20000 (P 2166) i1 S) (qf_X16_indexOf 20000 qi1 M) (tO (rp L xs P M vi)) := by
  unfold zf_X16_indexOf qf_X16_indexOf
  refine qs_lp (qz_X16_indexOf_L2 20000 hS hM ei1 k_0) ?_ ?_
  · intro v1124 S1124 w1124 h1124 hS1124 hM1124
    dsimp only
    exact qs_tp h1124 hS1124 hM1124
  · intro v1124 S1124 w1124 h1124 hS1124 hM1124
    dsimp only
    exact qs_tp (show vi _ _ from h1124) hS1124 hM1124
set_option maxRecDepth 20000 in
theorem qz_X16_indexOf_L2_s1_b (n : Nat) {P : Nat → Nat} {S : zm_S} {M : qm} {i1 : Int32} {qi1 : Int} {i2 : Int32} {qi2 : Int} (hS : Sh L xs P S) (hM : qM P S = M) (ei1 : i1.toInt = qi1) (ei2 : i2.toInt = qi2) : qs (zf_X16_indexOf_L2 20000 (n + 1) (P 2167) i1 i2 S) (qf_X16_indexOf_L2_s1_b 20000 qi1 qi2 M) (tk (vs (rp L xs P M vi) (rp L xs P M vi)) (qc_X16_indexOf_L2_s1 L xs P M (zf_X16_indexOf_L2 20000 n))) := by
  refine qs_eq (zf_X16_indexOf_L2.eq_2 ..) ?_
  unfold qf_X16_indexOf_L2_s1_b
  refine qs_gd (fun g1126 => ?_)
  refine qs_xi hM (pa_s hS (d := 2167) rfl (by decide) (by decide) sf_2167) ei2 g1126 (fun v1125 h1125 => ?_)
  refine qs_ite (c_eq h1125 ei1) ?_ ?_
  · exact qs_tp2 (show vi _ _ from ei2) hS hM
  · exact qs_tk ⟨_, _, _, rfl, ei1, (p_add ei2 k_1), hS, hM⟩
theorem qz_X16_indexOf_L2_s1 (n : Nat) : ∀ {P : Nat → Nat} {S : zm_S} {M : qm} {i1 : Int32} {qi1 : Int} {i2 : Int32} {qi2 : Int} (hS : Sh L xs P S) (hM : qM P S = M) (ei1 : i1.toInt = qi1) (ei2 : i2.toInt = qi2), qs (zf_X16_indexOf_L2 20000 n (P 2167) i1 i2 S) (qf_X16_indexOf_L2_s1 20000 n qi1 qi2 M) (tO (vs (rp L xs P M vi) (rp L xs P M vi))) := by
  induction n with
  | zero =>
    intros
    exact qs_none
  | succ n ih =>
    intro P S M i1 qi1 i2 qi2 hS hM ei1 ei2
    unfold qf_X16_indexOf_L2_s1
    refine qs_loop (C := (qc_X16_indexOf_L2_s1 L xs P M (zf_X16_indexOf_L2 20000 n))) (qz_X16_indexOf_L2_s1_b n hS hM ei1 ei2) ?_
    rintro x s ⟨_, _, _, rfl, u0, u1, hS2, hM2⟩
    exact ih hS2 hM2 u0 u1
set_option maxRecDepth 20000 in
theorem qz_X16_indexOf_s1 {P : Nat → Nat} {S : zm_S} {M : qm} {i1 : Int32} {qi1 : Int} (hS : Sh L xs P S) (hM : qM P S = M) (ei1 : i1.toInt = qi1) : qs (zf_X16_indexOf 20000 (P 2167) i1 S) (qf_X16_indexOf_s1 20000 qi1 M) (tO (rp L xs P M vi)) := by
  unfold zf_X16_indexOf qf_X16_indexOf_s1
  refine qs_lp (qz_X16_indexOf_L2_s1 20000 hS hM ei1 k_0) ?_ ?_
  · intro v1128 S1128 w1128 h1128 hS1128 hM1128
    dsimp only
    exact qs_tp h1128 hS1128 hM1128
  · intro v1128 S1128 w1128 h1128 hS1128 hM1128
    dsimp only
    exact qs_tp (show vi _ _ from h1128) hS1128 hM1128
set_option maxRecDepth 20000 in
theorem qz_X16_left {P : Nat → Nat} {S : zm_S} {M : qm} {i1 : Int32} {qi1 : Int} (hS : Sh L xs P S) (hM : qM P S = M) (ei1 : i1.toInt = qi1) : qs (zf_X16_left 20000 2157 i1 S) (qf_X16_left 20000 qi1 M) (tO (rp L xs P M vi)) := by
  unfold zf_X16_left qf_X16_left
  refine qs_gr hS pl_2157 ts_2157 rfl ?_
  refine qs_gd (fun g1131 => ?_)
  refine qs_xi hM (pa_p hS pl_2177 ts_2177) (p_div ei1 k_2 (by decide)) g1131 (fun v1130 h1130 => ?_)
  refine qs_gr hS pl_2157 ts_2157 rfl ?_
  refine qs_gr hS pl_2157 ts_2157 rfl ?_
  refine qs_gd (fun g1135 => ?_)
  refine qs_xi hM (pa_p hS pl_2174 ts_2174) h1130 g1135 (fun v1134 h1134 => ?_)
  refine qs_bp (qz_X16_indexOf hS hM h1134) (fun v1136 S1136 w1136 h1136 hS1136 hM1136 => ?_)
  refine qs_gr hS1136 pl_2157 ts_2157 rfl ?_
  refine qs_gr hS1136 pl_2157 ts_2157 rfl ?_
  refine qs_gd (fun g1140 => ?_)
  refine qs_xi hM1136 (pa_p hS1136 pl_2175 ts_2175) h1130 g1140 (fun v1139 h1139 => ?_)
  refine qs_bp (qz_X16_indexOf_s1 hS1136 hM1136 h1139) (fun v1141 S1141 w1141 h1141 hS1141 hM1141 => ?_)
  refine qs_zi hS1141 pl_2157 ts_2157 ?_
  refine qs_bp (qz_X16_sideWay hS1141 hM1141 ei1) (fun v1143 S1143 w1143 h1143 hS1143 hM1143 => ?_)
  refine qs_ite (z_eq h1143) ?_ ?_
  · refine qs_gr hS1143 pl_2157 ts_2157 rfl ?_
    refine qs_gd (fun g1146 => ?_)
    refine qs_xi hM1143 (pa_s hS1143 (d := 2168) rfl (by decide) (by decide) sf_2168) (p_add (p_add (p_mul k_42 (p_add h1141 k_1)) h1136) k_1) g1146 (fun v1145 h1145 => ?_)
    exact qs_tp (show vi _ _ from h1145) hS1143 hM1143
  · refine qs_ite (z_eq h1143) ?_ ?_
    · refine qs_gr hS1143 pl_2157 ts_2157 rfl ?_
      refine qs_gd (fun g1149 => ?_)
      refine qs_xi hM1143 (pa_s hS1143 (d := 2168) rfl (by decide) (by decide) sf_2168) (p_add (p_mul k_42 (p_add h1141 k_1)) h1136) g1149 (fun v1148 h1148 => ?_)
      exact qs_tp (show vi _ _ from h1148) hS1143 hM1143
    · refine qs_ite (z_eq h1143) ?_ ?_
      · refine qs_gr hS1143 pl_2157 ts_2157 rfl ?_
        refine qs_gd (fun g1152 => ?_)
        refine qs_xi hM1143 (pa_s hS1143 (d := 2168) rfl (by decide) (by decide) sf_2168) (p_add (p_add (p_mul k_42 h1141) h1136) k_1) g1152 (fun v1151 h1151 => ?_)
        exact qs_tp (show vi _ _ from h1151) hS1143 hM1143
      · refine qs_gr hS1143 pl_2157 ts_2157 rfl ?_
        refine qs_gd (fun g1155 => ?_)
        refine qs_xi hM1143 (pa_s hS1143 (d := 2168) rfl (by decide) (by decide) sf_2168) (p_add (p_add (p_mul k_42 (p_add h1141 k_1)) h1136) k_1) g1155 (fun v1154 h1154 => ?_)
        exact qs_tp (show vi _ _ from h1154) hS1143 hM1143
set_option maxRecDepth 20000 in
theorem qz_X16_number_L44_b (n : Nat) {P : Nat → Nat} {S : zm_S} {M : qm} {i2 : Int32} {qi2 : Int} (hS : Sh L xs P S) (hM : qM P S = M) (ei2 : i2.toInt = qi2) : qs (zf_X16_number_L44 20000 (n + 1) 2157 i2 S) (qf_X16_number_L44_b 20000 qi2 M) (tk (vs (rr L xs P vu) (rr L xs P vu)) (qc_X16_number_L44 L xs P (zf_X16_number_L44 20000 n))) := by
  refine qs_eq (zf_X16_number_L44.eq_2 ..) ?_
  unfold qf_X16_number_L44_b
  refine qs_gi hS hM pl_2157 ts_2157 (z := 35) rfl rfl (fun v1156 h1156 => ?_)
  refine qs_ite (c_le h1156 ei2) ?_ ?_
  · exact qs_tr2 (show vu _ _ from trivial) hS hM
  · refine qs_gr hS pl_2157 ts_2157 rfl ?_
    refine qs_gd (fun g1159 => ?_)
    refine qs_xi hM (pa_p hS pl_2180 ts_2180) ei2 g1159 (fun v1158 h1158 => ?_)
    refine qs_zi hS pl_2157 ts_2157 ?_
    refine qs_bp (qz_X16_left hS hM h1158) (fun v1161 S1161 w1161 h1161 hS1161 hM1161 => ?_)
    refine qs_gr hS1161 pl_2157 ts_2157 rfl ?_
    refine qs_gd (fun g1164 => ?_)
    refine qs_xi hM1161 (pa_p hS1161 pl_2182 ts_2182) h1161 g1164 (fun v1163 h1163 => ?_)
    refine qs_ite (c_eq h1163 k_m2) ?_ ?_
    · refine qs_gr hS1161 pl_2157 ts_2157 rfl ?_
      refine qs_gi hS1161 hM1161 pl_2157 ts_2157 (z := 17) rfl rfl (fun v1166 h1166 => ?_)
      refine qs_gd (fun g1168 => ?_)
      refine qs_si hS1161 hM1161 (pa_p hS1161 pl_2182 ts_2182) h1161 g1168 h1166 (fun S1167 M1167 hS1167 hM1167 => ?_)
      refine qs_gi hS1167 hM1167 pl_2157 ts_2157 (z := 17) rfl rfl (fun v1169 h1169 => ?_)
      refine qs_pi hS1167 hM1167 pl_2157 ts_2157 (z := 17) rfl rfl (p_add h1169 k_1) (fun S1170 M1170 hS1170 hM1170 => ?_)
      exact qs_tk ⟨_, _, rfl, (p_add ei2 k_1), hS1170, hM1170⟩
    · exact qs_tk ⟨_, _, rfl, (p_add ei2 k_1), hS1161, hM1161⟩
theorem qz_X16_number_L44 (n : Nat) : ∀ {P : Nat → Nat} {S : zm_S} {M : qm} {i2 : Int32} {qi2 : Int} (hS : Sh L xs P S) (hM : qM P S = M) (ei2 : i2.toInt = qi2), qs (zf_X16_number_L44 20000 n 2157 i2 S) (qf_X16_number_L44 20000 n qi2 M) (tO (vs (rr L xs P vu) (rr L xs P vu))) := by
  induction n with
  | zero =>
    intros
    exact qs_none
  | succ n ih =>
    intro P S M i2 qi2 hS hM ei2
    unfold qf_X16_number_L44
    refine qs_loop (C := (qc_X16_number_L44 L xs P (zf_X16_number_L44 20000 n))) (qz_X16_number_L44_b n hS hM ei2) ?_
    rintro x s ⟨_, _, rfl, u0, hS2, hM2⟩
    exact ih hS2 hM2 u0
set_option maxRecDepth 20000 in
theorem qz_X16_number_L112_b (n : Nat) {P : Nat → Nat} {S : zm_S} {M : qm} {i2 : Int32} {qi2 : Int} {i3 : Int32} {qi3 : Int} (hS : Sh L xs P S) (hM : qM P S = M) (ei2 : i2.toInt = qi2) (ei3 : i3.toInt = qi3) : qs (zf_X16_number_L112 20000 (n + 1) 2157 i2 i3 S) (qf_X16_number_L112_b 20000 qi2 qi3 M) (tk (vs (rr L xs P vu) (rr L xs P vu)) (qc_X16_number_L112 L xs P (zf_X16_number_L112 20000 n))) := by
  refine qs_eq (zf_X16_number_L112.eq_2 ..) ?_
  unfold qf_X16_number_L112_b
  refine qs_gi hS hM pl_2157 ts_2157 (z := 12) rfl rfl (fun v1171 h1171 => ?_)
  refine qs_ite (c_lt h1171 ei3) ?_ ?_
  · exact qs_tr2 (show vu _ _ from trivial) hS hM
  · refine qs_gr hS pl_2157 ts_2157 rfl ?_
    refine qs_gr hS pl_2157 ts_2157 rfl ?_
    refine qs_gr hS pl_2157 ts_2157 rfl ?_
    refine qs_gd (fun g1176 => ?_)
    refine qs_xi hM (pa_s hS (d := 2168) rfl (by decide) (by decide) sf_2168) (p_add (p_mul k_42 ei2) ei3) g1176 (fun v1175 h1175 => ?_)
    refine qs_gd (fun g1178 => ?_)
    refine qs_xi hM (pa_p hS pl_2182 ts_2182) h1175 g1178 (fun v1177 h1177 => ?_)
    refine qs_gd (fun g1180 => ?_)
    refine qs_si hS hM (pa_s hS (d := 2168) rfl (by decide) (by decide) sf_2168) (p_add (p_mul k_42 ei2) ei3) g1180 h1177 (fun S1179 M1179 hS1179 hM1179 => ?_)
    exact qs_tk ⟨_, _, _, rfl, ei2, (p_add ei3 k_1), hS1179, hM1179⟩
theorem qz_X16_number_L112 (n : Nat) : ∀ {P : Nat → Nat} {S : zm_S} {M : qm} {i2 : Int32} {qi2 : Int} {i3 : Int32} {qi3 : Int} (hS : Sh L xs P S) (hM : qM P S = M) (ei2 : i2.toInt = qi2) (ei3 : i3.toInt = qi3), qs (zf_X16_number_L112 20000 n 2157 i2 i3 S) (qf_X16_number_L112 20000 n qi2 qi3 M) (tO (vs (rr L xs P vu) (rr L xs P vu))) := by
  induction n with
  | zero =>
    intros
    exact qs_none
  | succ n ih =>
    intro P S M i2 qi2 i3 qi3 hS hM ei2 ei3
    unfold qf_X16_number_L112
    refine qs_loop (C := (qc_X16_number_L112 L xs P (zf_X16_number_L112 20000 n))) (qz_X16_number_L112_b n hS hM ei2 ei3) ?_
    rintro x s ⟨_, _, _, rfl, u0, u1, hS2, hM2⟩
    exact ih hS2 hM2 u0 u1
set_option maxRecDepth 20000 in
theorem qz_X16_number_L102_b (n : Nat) {P : Nat → Nat} {S : zm_S} {M : qm} {i2 : Int32} {qi2 : Int} (hS : Sh L xs P S) (hM : qM P S = M) (ei2 : i2.toInt = qi2) : qs (zf_X16_number_L102 20000 (n + 1) 2157 i2 S) (qf_X16_number_L102_b 20000 qi2 M) (tk (vs (rr L xs P vu) (rr L xs P vu)) (qc_X16_number_L102 L xs P (zf_X16_number_L102 20000 n))) := by
  refine qs_eq (zf_X16_number_L102.eq_2 ..) ?_
  unfold qf_X16_number_L102_b
  refine qs_gi hS hM pl_2157 ts_2157 (z := 13) rfl rfl (fun v1181 h1181 => ?_)
  refine qs_ite (c_lt h1181 ei2) ?_ ?_
  · exact qs_tr2 (show vu _ _ from trivial) hS hM
  · refine qs_lr (qz_X16_number_L112 20000 hS hM ei2 k_0) ?_ ?_
    · intro v1183 S1183 w1183 M1183 h1183 hS1183 hM1183
      dsimp only
      exact qs_tr1 h1183 hS1183 hM1183
    · intro v1183 S1183 w1183 M1183 h1183 hS1183 hM1183
      dsimp only
      exact qs_tk ⟨_, _, rfl, (p_add ei2 k_1), hS1183, hM1183⟩
theorem qz_X16_number_L102 (n : Nat) : ∀ {P : Nat → Nat} {S : zm_S} {M : qm} {i2 : Int32} {qi2 : Int} (hS : Sh L xs P S) (hM : qM P S = M) (ei2 : i2.toInt = qi2), qs (zf_X16_number_L102 20000 n 2157 i2 S) (qf_X16_number_L102 20000 n qi2 M) (tO (vs (rr L xs P vu) (rr L xs P vu))) := by
  induction n with
  | zero =>
    intros
    exact qs_none
  | succ n ih =>
    intro P S M i2 qi2 hS hM ei2
    unfold qf_X16_number_L102
    refine qs_loop (C := (qc_X16_number_L102 L xs P (zf_X16_number_L102 20000 n))) (qz_X16_number_L102_b n hS hM ei2) ?_
    rintro x s ⟨_, _, rfl, u0, hS2, hM2⟩
    exact ih hS2 hM2 u0
set_option maxRecDepth 20000 in
theorem qz_X16_number {P : Nat → Nat} {S : zm_S} {M : qm}  (hS : Sh L xs P S) (hM : qM P S = M)  : qs (zf_X16_number 20000 2157 S) (qf_X16_number 20000 M) (tO (rr L xs P vu)) := by
  unfold zf_X16_number qf_X16_number
  refine qs_pi hS hM pl_2157 ts_2157 (z := 17) rfl rfl k_0 (fun S1184 M1184 hS1184 hM1184 => ?_)
  refine qs_gr hS1184 pl_2157 ts_2157 rfl ?_
  refine qs_xi (i := 0) hM1184 (pa_s hS1184 (d := 2168) rfl (by decide) (by decide) sf_2168) k_0 (by decide) (fun v1186 h1186 => ?_)
  refine qs_lr (qz_X16_number_L14 20000 hS1184 hM1184 h1186 k_0) ?_ ?_
  · intro v1188 S1188 w1188 M1188 h1188 hS1188 hM1188
    dsimp only
    exact qs_tr h1188 hS1188 hM1188
  · intro v1188 S1188 w1188 M1188 h1188 hS1188 hM1188
    dsimp only
    refine qs_gr hS1188 pl_2157 ts_2157 rfl ?_
    refine qs_gd (fun g1191 => ?_)
    refine qs_si hS1188 hM1188 (pa_p hS1188 pl_2182 ts_2182) h1186 g1191 k_m1 (fun S1190 M1190 hS1190 hM1190 => ?_)
    refine qs_lr (qz_X16_number_L44 20000 hS1190 hM1190 k_0) ?_ ?_
    · intro v1193 S1193 w1193 M1193 h1193 hS1193 hM1193
      dsimp only
      exact qs_tr h1193 hS1193 hM1193
    · intro v1193 S1193 w1193 M1193 h1193 hS1193 hM1193
      dsimp only
      refine qs_lr (qz_X16_number_L102 20000 hS1193 hM1193 k_0) ?_ ?_
      · intro v1195 S1195 w1195 M1195 h1195 hS1195 hM1195
        dsimp only
        exact qs_tr h1195 hS1195 hM1195
      · intro v1195 S1195 w1195 M1195 h1195 hS1195 hM1195
        dsimp only
        exact qs_tr (show vu _ _ from trivial) hS1195 hM1195
set_option maxRecDepth 20000 in
theorem qz_X16_run_L140_b (n : Nat) {P : Nat → Nat} {S : zm_S} {M : qm} {i1 : Int32} {qi1 : Int} (hS : Sh L xs P S) (hM : qM P S = M) (ei1 : i1.toInt = qi1) : qs (zf_X16_run_L140 20000 (n + 1) 2157 i1 S) (qf_X16_run_L140_b 20000 qi1 M) (tk (vs (rr L xs P vi) (rr L xs P vu)) (qc_X16_run_L140 L xs P (zf_X16_run_L140 20000 n))) := by
  refine qs_eq (zf_X16_run_L140.eq_2 ..) ?_
  unfold qf_X16_run_L140_b
  refine qs_ite (c_le k_400 ei1) ?_ ?_
  · exact qs_tr2 (show vu _ _ from trivial) hS hM
  · refine qs_gr hS pl_2157 ts_2157 rfl ?_
    refine qs_gd (fun g1198 => ?_)
    refine qs_si hS hM (pa_s hS (d := 2172) rfl (by decide) (by decide) sf_2172) ei1 g1198 k_0 (fun S1197 M1197 hS1197 hM1197 => ?_)
    exact qs_tk ⟨_, _, rfl, (p_add ei1 k_1), hS1197, hM1197⟩
theorem qz_X16_run_L140 (n : Nat) : ∀ {P : Nat → Nat} {S : zm_S} {M : qm} {i1 : Int32} {qi1 : Int} (hS : Sh L xs P S) (hM : qM P S = M) (ei1 : i1.toInt = qi1), qs (zf_X16_run_L140 20000 n 2157 i1 S) (qf_X16_run_L140 20000 n qi1 M) (tO (vs (rr L xs P vi) (rr L xs P vu))) := by
  induction n with
  | zero =>
    intros
    exact qs_none
  | succ n ih =>
    intro P S M i1 qi1 hS hM ei1
    unfold qf_X16_run_L140
    refine qs_loop (C := (qc_X16_run_L140 L xs P (zf_X16_run_L140 20000 n))) (qz_X16_run_L140_b n hS hM ei1) ?_
    rintro x s ⟨_, _, rfl, u0, hS2, hM2⟩
    exact ih hS2 hM2 u0
set_option maxRecDepth 20000 in
theorem qz_X16_run_J171 {P : Nat → Nat} {S : zm_S} {M : qm}  (hS : Sh L xs P S) (hM : qM P S = M)  : qs (zf_X16_run_J171 20000 2157 S) (qf_X16_run_J171 20000 M) (tO (re L xs vi)) := by
  unfold zf_X16_run_J171 qf_X16_run_J171
  refine qs_pi hS hM pl_2157 ts_2157 (z := 9) rfl rfl k_1 (fun S1199 M1199 hS1199 hM1199 => ?_)
  refine qs_pi hS1199 hM1199 pl_2157 ts_2157 (z := 10) rfl rfl k_1 (fun S1200 M1200 hS1200 hM1200 => ?_)
  refine qs_gi hS1200 hM1200 pl_2157 ts_2157 (z := 17) rfl rfl (fun v1201 h1201 => ?_)
  exact qs_te (show vi _ _ from h1201) hS1200 hM1200
set_option maxRecDepth 20000 in
theorem qz_X16_carry_L2_b (n : Nat) {P : Nat → Nat} {S : zm_S} {M : qm} {i1 : Int32} {qi1 : Int} (hS : Sh L xs P S) (hM : qM P S = M) (ei1 : i1.toInt = qi1) : qs (zf_X16_carry_L2 20000 (n + 1) 2157 i1 S) (qf_X16_carry_L2_b 20000 qi1 M) (tk (vs (rr L xs P vu) (rr L xs P vu)) (qc_X16_carry_L2 L xs P (zf_X16_carry_L2 20000 n))) := by
  refine qs_eq (zf_X16_carry_L2.eq_2 ..) ?_
  unfold qf_X16_carry_L2_b
  refine qs_gi hS hM pl_2157 ts_2157 (z := 17) rfl rfl (fun v1202 h1202 => ?_)
  refine qs_ite (c_le h1202 ei1) ?_ ?_
  · exact qs_tr2 (show vu _ _ from trivial) hS hM
  · refine qs_gr hS pl_2157 ts_2157 rfl ?_
    refine qs_gd (fun g1205 => ?_)
    refine qs_si hS hM (pa_p hS pl_2183 ts_2183) ei1 g1205 k_0 (fun S1204 M1204 hS1204 hM1204 => ?_)
    exact qs_tk ⟨_, _, rfl, (p_add ei1 k_1), hS1204, hM1204⟩
theorem qz_X16_carry_L2 (n : Nat) : ∀ {P : Nat → Nat} {S : zm_S} {M : qm} {i1 : Int32} {qi1 : Int} (hS : Sh L xs P S) (hM : qM P S = M) (ei1 : i1.toInt = qi1), qs (zf_X16_carry_L2 20000 n 2157 i1 S) (qf_X16_carry_L2 20000 n qi1 M) (tO (vs (rr L xs P vu) (rr L xs P vu))) := by
  induction n with
  | zero =>
    intros
    exact qs_none
  | succ n ih =>
    intro P S M i1 qi1 hS hM ei1
    unfold qf_X16_carry_L2
    refine qs_loop (C := (qc_X16_carry_L2 L xs P (zf_X16_carry_L2 20000 n))) (qz_X16_carry_L2_b n hS hM ei1) ?_
    rintro x s ⟨_, _, rfl, u0, hS2, hM2⟩
    exact ih hS2 hM2 u0
set_option maxRecDepth 20000 in
theorem qz_X16_shared_J22 {P : Nat → Nat} {S : zm_S} {M : qm} {i4 : Int32} {qi4 : Int} {t0 : Int32} {qt0 : Int} (hS : Sh L xs P S) (hM : qM P S = M) (ei4 : i4.toInt = qi4) (et0 : t0.toInt = qt0) : qs (zf_X16_shared_J22 20000 i4 t0 S) (qf_X16_shared_J22 20000 qi4 qt0 M) (tO (rp L xs P M vi)) := by
  unfold zf_X16_shared_J22 qf_X16_shared_J22
  refine qs_ite (c_le et0 ei4) ?_ ?_
  · exact qs_tp (show vi _ _ from k_0) hS hM
  · exact qs_tp (show vi _ _ from (p_sub et0 ei4)) hS hM
set_option maxRecDepth 20000 in
theorem qz_X16_shared_J10 {P : Nat → Nat} {S : zm_S} {M : qm} {i1 : Int32} {qi1 : Int} {i3 : Int32} {qi3 : Int} {t0 : Int32} {qt0 : Int} (hS : Sh L xs P S) (hM : qM P S = M) (ei1 : i1.toInt = qi1) (ei3 : i3.toInt = qi3) (et0 : t0.toInt = qt0) : qs (zf_X16_shared_J10 20000 i1 i3 t0 S) (qf_X16_shared_J10 20000 qi1 qi3 qt0 M) (tO (rp L xs P M vi)) := by
  unfold zf_X16_shared_J10 qf_X16_shared_J10
  refine qs_ite (c_le ei3 ei1) ?_ ?_
  · exact (qz_X16_shared_J22 hS hM et0 ei3)
  · exact (qz_X16_shared_J22 hS hM et0 ei1)
set_option maxRecDepth 20000 in
theorem qz_X16_shared {P : Nat → Nat} {S : zm_S} {M : qm} {i0 : Int32} {qi0 : Int} {i1 : Int32} {qi1 : Int} {i2 : Int32} {qi2 : Int} {i3 : Int32} {qi3 : Int} (hS : Sh L xs P S) (hM : qM P S = M) (ei0 : i0.toInt = qi0) (ei1 : i1.toInt = qi1) (ei2 : i2.toInt = qi2) (ei3 : i3.toInt = qi3) : qs (zf_X16_shared 20000 i0 i1 i2 i3 S) (qf_X16_shared 20000 qi0 qi1 qi2 qi3 M) (tO (rp L xs P M vi)) := by
  unfold zf_X16_shared qf_X16_shared
  refine qs_ite (c_le ei0 ei2) ?_ ?_
  · exact (qz_X16_shared_J10 hS hM ei1 ei3 ei2)
  · exact (qz_X16_shared_J10 hS hM ei1 ei3 ei0)
set_option maxRecDepth 20000 in
theorem qz_X16_common_J169 {P : Nat → Nat} {S : zm_S} {M : qm} {i1 : Int32} {qi1 : Int} {i2 : Int32} {qi2 : Int} {i4 : Int32} {qi4 : Int} {i5 : Int32} {qi5 : Int} {i6 : Int32} {qi6 : Int} {i7 : Int32} {qi7 : Int} {i8 : Int32} {qi8 : Int} {t0 : Int32} {qt0 : Int} {t1 : Int32} {qt1 : Int} (hS : Sh L xs P S) (hM : qM P S = M) (ei1 : i1.toInt = qi1) (ei2 : i2.toInt = qi2) (ei4 : i4.toInt = qi4) (ei5 : i5.toInt = qi5) (ei6 : i6.toInt = qi6) (ei7 : i7.toInt = qi7) (ei8 : i8.toInt = qi8) (et0 : t0.toInt = qt0) (et1 : t1.toInt = qt1) {k : Nat → Int32 → Int32 → Int32 → Int32 → Int32 → Int32 → Int32 → Int32 → zm_S → Option ((Int32 × zm_S) ⊕ ((Int32) × zm_S))} : qs (zf_X16_common_J169 20000 k 2157 i1 i2 i4 i5 i6 i7 i8 t0 t1 S) (qf_X16_common_J169 20000 qi1 qi2 qi4 qi5 qi6 qi7 qi8 qt0 qt1 M) (tk (vs (rp L xs P M vi) (rp L xs P M vi)) (qc_X16_common_L95 L xs P M k)) := by
  unfold zf_X16_common_J169 qf_X16_common_J169
  exact qs_tk ⟨_, _, _, _, _, _, _, _, _, rfl, ei1, ei2, (p_add et0 et1), ei4, ei5, ei6, ei7, (p_add ei8 k_1), hS, hM⟩
set_option maxRecDepth 20000 in
theorem qz_X16_common_L95_b (n : Nat) {P : Nat → Nat} {S : zm_S} {M : qm} {i1 : Int32} {qi1 : Int} {i2 : Int32} {qi2 : Int} {i3 : Int32} {qi3 : Int} {i4 : Int32} {qi4 : Int} {i5 : Int32} {qi5 : Int} {i6 : Int32} {qi6 : Int} {i7 : Int32} {qi7 : Int} {i8 : Int32} {qi8 : Int} (hS : Sh L xs P S) (hM : qM P S = M) (ei1 : i1.toInt = qi1) (ei2 : i2.toInt = qi2) (ei3 : i3.toInt = qi3) (ei4 : i4.toInt = qi4) (ei5 : i5.toInt = qi5) (ei6 : i6.toInt = qi6) (ei7 : i7.toInt = qi7) (ei8 : i8.toInt = qi8) : qs (zf_X16_common_L95 20000 (n + 1) 2157 i1 i2 i3 i4 i5 i6 i7 i8 S) (qf_X16_common_L95_b 20000 qi1 qi2 qi3 qi4 qi5 qi6 qi7 qi8 M) (tk (vs (rp L xs P M vi) (rp L xs P M vi)) (qc_X16_common_L95 L xs P M (zf_X16_common_L95 20000 n))) := by
  refine qs_eq (zf_X16_common_L95.eq_2 ..) ?_
  unfold qf_X16_common_L95_b
  refine qs_gi hS hM pl_2157 ts_2157 (z := 19) rfl rfl (fun v1206 h1206 => ?_)
  refine qs_ite (c_le h1206 ei8) ?_ ?_
  · exact qs_tp2 (show vi _ _ from ei3) hS hM
  · refine qs_ite (c_le ei7 k_0) ?_ ?_
    · exact qs_tp2 (show vi _ _ from ei3) hS hM
    · refine qs_gr hS pl_2157 ts_2157 rfl ?_
      refine qs_gd (fun g1209 => ?_)
      refine qs_xi hM (pa_s hS (d := 2171) rfl (by decide) (by decide) sf_2171) (p_add (p_mul k_42 ei6) ei8) g1209 (fun v1208 h1208 => ?_)
      refine qs_ite (c_eq h1208 ei1) ?_ ?_
      · refine qs_gr hS pl_2157 ts_2157 rfl ?_
        refine qs_gd (fun g1212 => ?_)
        refine qs_xi hM (pa_s hS (d := 2166) rfl (by decide) (by decide) sf_2166) (p_sub ei5 k_1) g1212 (fun v1211 h1211 => ?_)
        refine qs_gr hS pl_2157 ts_2157 rfl ?_
        refine qs_gd (fun g1215 => ?_)
        refine qs_xi hM (pa_s hS (d := 2166) rfl (by decide) (by decide) sf_2166) ei5 g1215 (fun v1214 h1214 => ?_)
        refine qs_gr hS pl_2157 ts_2157 rfl ?_
        refine qs_gd (fun g1218 => ?_)
        refine qs_xi hM (pa_s hS (d := 2169) rfl (by decide) (by decide) sf_2169) (p_sub ei8 k_1) g1218 (fun v1217 h1217 => ?_)
        refine qs_gr hS pl_2157 ts_2157 rfl ?_
        refine qs_gd (fun g1221 => ?_)
        refine qs_xi hM (pa_s hS (d := 2169) rfl (by decide) (by decide) sf_2169) ei8 g1221 (fun v1220 h1220 => ?_)
        refine qs_bp (qz_X16_shared hS hM h1211 h1214 h1217 h1220) (fun v1222 S1222 w1222 h1222 hS1222 hM1222 => ?_)
        exact (qz_X16_common_J169 hS1222 hM1222 ei1 ei2 ei4 ei5 ei6 ei7 ei8 ei3 (p_mul ei7 h1222))
      · exact (qz_X16_common_J169 hS hM ei1 ei2 ei4 ei5 ei6 ei7 ei8 ei3 k_0)
theorem qz_X16_common_L95 (n : Nat) : ∀ {P : Nat → Nat} {S : zm_S} {M : qm} {i1 : Int32} {qi1 : Int} {i2 : Int32} {qi2 : Int} {i3 : Int32} {qi3 : Int} {i4 : Int32} {qi4 : Int} {i5 : Int32} {qi5 : Int} {i6 : Int32} {qi6 : Int} {i7 : Int32} {qi7 : Int} {i8 : Int32} {qi8 : Int} (hS : Sh L xs P S) (hM : qM P S = M) (ei1 : i1.toInt = qi1) (ei2 : i2.toInt = qi2) (ei3 : i3.toInt = qi3) (ei4 : i4.toInt = qi4) (ei5 : i5.toInt = qi5) (ei6 : i6.toInt = qi6) (ei7 : i7.toInt = qi7) (ei8 : i8.toInt = qi8), qs (zf_X16_common_L95 20000 n 2157 i1 i2 i3 i4 i5 i6 i7 i8 S) (qf_X16_common_L95 20000 n qi1 qi2 qi3 qi4 qi5 qi6 qi7 qi8 M) (tO (vs (rp L xs P M vi) (rp L xs P M vi))) := by
  induction n with
  | zero =>
    intros
    exact qs_none
  | succ n ih =>
    intro P S M i1 qi1 i2 qi2 i3 qi3 i4 qi4 i5 qi5 i6 qi6 i7 qi7 i8 qi8 hS hM ei1 ei2 ei3 ei4 ei5 ei6 ei7 ei8
    unfold qf_X16_common_L95
    refine qs_loop (C := (qc_X16_common_L95 L xs P M (zf_X16_common_L95 20000 n))) (qz_X16_common_L95_b n hS hM ei1 ei2 ei3 ei4 ei5 ei6 ei7 ei8) ?_
    rintro x s ⟨_, _, _, _, _, _, _, _, _, rfl, u0, u1, u2, u3, u4, u5, u6, u7, hS2, hM2⟩
    exact ih hS2 hM2 u0 u1 u2 u3 u4 u5 u6 u7
set_option maxRecDepth 20000 in
theorem qz_X16_common_L29_b (n : Nat) {P : Nat → Nat} {S : zm_S} {M : qm} {i1 : Int32} {qi1 : Int} {i2 : Int32} {qi2 : Int} {i3 : Int32} {qi3 : Int} {i4 : Int32} {qi4 : Int} {i5 : Int32} {qi5 : Int} {i6 : Int32} {qi6 : Int} (hS : Sh L xs P S) (hM : qM P S = M) (ei1 : i1.toInt = qi1) (ei2 : i2.toInt = qi2) (ei3 : i3.toInt = qi3) (ei4 : i4.toInt = qi4) (ei5 : i5.toInt = qi5) (ei6 : i6.toInt = qi6) : qs (zf_X16_common_L29 20000 (n + 1) 2157 i1 i2 i3 i4 i5 i6 S) (qf_X16_common_L29_b 20000 qi1 qi2 qi3 qi4 qi5 qi6 M) (tk (vs (rp L xs P M vi) (rp L xs P M vi)) (qc_X16_common_L29 L xs P M (zf_X16_common_L29 20000 n))) := by
  refine qs_eq (zf_X16_common_L29.eq_2 ..) ?_
  unfold qf_X16_common_L29_b
  refine qs_gi hS hM pl_2157 ts_2157 (z := 20) rfl rfl (fun v1223 h1223 => ?_)
  refine qs_ite (c_le h1223 ei6) ?_ ?_
  · exact qs_tp2 (show vi _ _ from ei3) hS hM
  · refine qs_gr hS pl_2157 ts_2157 rfl ?_
    refine qs_gd (fun g1226 => ?_)
    refine qs_xi hM (pa_s hS (d := 2168) rfl (by decide) (by decide) sf_2168) (p_add (p_mul k_42 ei4) ei5) g1226 (fun v1225 h1225 => ?_)
    refine qs_ite (c_eq h1225 ei2) ?_ ?_
    · refine qs_gr hS pl_2157 ts_2157 rfl ?_
      refine qs_gd (fun g1229 => ?_)
      refine qs_xi hM (pa_s hS (d := 2167) rfl (by decide) (by decide) sf_2167) (p_sub ei4 k_1) g1229 (fun v1228 h1228 => ?_)
      refine qs_gr hS pl_2157 ts_2157 rfl ?_
      refine qs_gd (fun g1232 => ?_)
      refine qs_xi hM (pa_s hS (d := 2167) rfl (by decide) (by decide) sf_2167) ei4 g1232 (fun v1231 h1231 => ?_)
      refine qs_gr hS pl_2157 ts_2157 rfl ?_
      refine qs_gd (fun g1235 => ?_)
      refine qs_xi hM (pa_s hS (d := 2170) rfl (by decide) (by decide) sf_2170) (p_sub ei6 k_1) g1235 (fun v1234 h1234 => ?_)
      refine qs_gr hS pl_2157 ts_2157 rfl ?_
      refine qs_gd (fun g1238 => ?_)
      refine qs_xi hM (pa_s hS (d := 2170) rfl (by decide) (by decide) sf_2170) ei6 g1238 (fun v1237 h1237 => ?_)
      refine qs_bp (qz_X16_shared hS hM h1228 h1231 h1234 h1237) (fun v1239 S1239 w1239 h1239 hS1239 hM1239 => ?_)
      refine qs_lp (qz_X16_common_L95 20000 hS1239 hM1239 ei1 ei2 ei3 ei4 ei5 ei6 h1239 k_1) ?_ ?_
      · intro v1241 S1241 w1241 h1241 hS1241 hM1241
        dsimp only
        exact qs_tp1 h1241 hS1241 hM1241
      · intro v1241 S1241 w1241 h1241 hS1241 hM1241
        dsimp only
        exact qs_tk ⟨_, _, _, _, _, _, _, rfl, ei1, ei2, h1241, ei4, ei5, (p_add ei6 k_1), hS1241, hM1241⟩
    · exact qs_tp2 (show vi _ _ from ei3) hS hM
theorem qz_X16_common_L29 (n : Nat) : ∀ {P : Nat → Nat} {S : zm_S} {M : qm} {i1 : Int32} {qi1 : Int} {i2 : Int32} {qi2 : Int} {i3 : Int32} {qi3 : Int} {i4 : Int32} {qi4 : Int} {i5 : Int32} {qi5 : Int} {i6 : Int32} {qi6 : Int} (hS : Sh L xs P S) (hM : qM P S = M) (ei1 : i1.toInt = qi1) (ei2 : i2.toInt = qi2) (ei3 : i3.toInt = qi3) (ei4 : i4.toInt = qi4) (ei5 : i5.toInt = qi5) (ei6 : i6.toInt = qi6), qs (zf_X16_common_L29 20000 n 2157 i1 i2 i3 i4 i5 i6 S) (qf_X16_common_L29 20000 n qi1 qi2 qi3 qi4 qi5 qi6 M) (tO (vs (rp L xs P M vi) (rp L xs P M vi))) := by
  induction n with
  | zero =>
    intros
    exact qs_none
  | succ n ih =>
    intro P S M i1 qi1 i2 qi2 i3 qi3 i4 qi4 i5 qi5 i6 qi6 hS hM ei1 ei2 ei3 ei4 ei5 ei6
    unfold qf_X16_common_L29
    refine qs_loop (C := (qc_X16_common_L29 L xs P M (zf_X16_common_L29 20000 n))) (qz_X16_common_L29_b n hS hM ei1 ei2 ei3 ei4 ei5 ei6) ?_
    rintro x s ⟨_, _, _, _, _, _, _, rfl, u0, u1, u2, u3, u4, u5, hS2, hM2⟩
    exact ih hS2 hM2 u0 u1 u2 u3 u4 u5
set_option maxRecDepth 20000 in
theorem qz_X16_common_L17_b (n : Nat) {P : Nat → Nat} {S : zm_S} {M : qm} {i1 : Int32} {qi1 : Int} {i2 : Int32} {qi2 : Int} {i3 : Int32} {qi3 : Int} {i4 : Int32} {qi4 : Int} {i5 : Int32} {qi5 : Int} (hS : Sh L xs P S) (hM : qM P S = M) (ei1 : i1.toInt = qi1) (ei2 : i2.toInt = qi2) (ei3 : i3.toInt = qi3) (ei4 : i4.toInt = qi4) (ei5 : i5.toInt = qi5) : qs (zf_X16_common_L17 20000 (n + 1) 2157 i1 i2 i3 i4 i5 S) (qf_X16_common_L17_b 20000 qi1 qi2 qi3 qi4 qi5 M) (tk (vs (rp L xs P M vi) (rp L xs P M vi)) (qc_X16_common_L17 L xs P M (zf_X16_common_L17 20000 n))) := by
  refine qs_eq (zf_X16_common_L17.eq_2 ..) ?_
  unfold qf_X16_common_L17_b
  refine qs_gi hS hM pl_2157 ts_2157 (z := 12) rfl rfl (fun v1242 h1242 => ?_)
  refine qs_ite (c_le h1242 ei5) ?_ ?_
  · exact qs_tp2 (show vi _ _ from ei3) hS hM
  · refine qs_lp (qz_X16_common_L29 20000 hS hM ei1 ei2 ei3 ei4 ei5 k_1) ?_ ?_
    · intro v1244 S1244 w1244 h1244 hS1244 hM1244
      dsimp only
      exact qs_tp1 h1244 hS1244 hM1244
    · intro v1244 S1244 w1244 h1244 hS1244 hM1244
      dsimp only
      exact qs_tk ⟨_, _, _, _, _, _, rfl, ei1, ei2, h1244, ei4, (p_add ei5 k_1), hS1244, hM1244⟩
theorem qz_X16_common_L17 (n : Nat) : ∀ {P : Nat → Nat} {S : zm_S} {M : qm} {i1 : Int32} {qi1 : Int} {i2 : Int32} {qi2 : Int} {i3 : Int32} {qi3 : Int} {i4 : Int32} {qi4 : Int} {i5 : Int32} {qi5 : Int} (hS : Sh L xs P S) (hM : qM P S = M) (ei1 : i1.toInt = qi1) (ei2 : i2.toInt = qi2) (ei3 : i3.toInt = qi3) (ei4 : i4.toInt = qi4) (ei5 : i5.toInt = qi5), qs (zf_X16_common_L17 20000 n 2157 i1 i2 i3 i4 i5 S) (qf_X16_common_L17 20000 n qi1 qi2 qi3 qi4 qi5 M) (tO (vs (rp L xs P M vi) (rp L xs P M vi))) := by
  induction n with
  | zero =>
    intros
    exact qs_none
  | succ n ih =>
    intro P S M i1 qi1 i2 qi2 i3 qi3 i4 qi4 i5 qi5 hS hM ei1 ei2 ei3 ei4 ei5
    unfold qf_X16_common_L17
    refine qs_loop (C := (qc_X16_common_L17 L xs P M (zf_X16_common_L17 20000 n))) (qz_X16_common_L17_b n hS hM ei1 ei2 ei3 ei4 ei5) ?_
    rintro x s ⟨_, _, _, _, _, _, rfl, u0, u1, u2, u3, u4, hS2, hM2⟩
    exact ih hS2 hM2 u0 u1 u2 u3 u4
set_option maxRecDepth 20000 in
theorem qz_X16_common_L5_b (n : Nat) {P : Nat → Nat} {S : zm_S} {M : qm} {i1 : Int32} {qi1 : Int} {i2 : Int32} {qi2 : Int} {i3 : Int32} {qi3 : Int} {i4 : Int32} {qi4 : Int} (hS : Sh L xs P S) (hM : qM P S = M) (ei1 : i1.toInt = qi1) (ei2 : i2.toInt = qi2) (ei3 : i3.toInt = qi3) (ei4 : i4.toInt = qi4) : qs (zf_X16_common_L5 20000 (n + 1) 2157 i1 i2 i3 i4 S) (qf_X16_common_L5_b 20000 qi1 qi2 qi3 qi4 M) (tk (vs (rp L xs P M vi) (rp L xs P M vi)) (qc_X16_common_L5 L xs P M (zf_X16_common_L5 20000 n))) := by
  refine qs_eq (zf_X16_common_L5.eq_2 ..) ?_
  unfold qf_X16_common_L5_b
  refine qs_gi hS hM pl_2157 ts_2157 (z := 13) rfl rfl (fun v1245 h1245 => ?_)
  refine qs_ite (c_le h1245 ei4) ?_ ?_
  · exact qs_tp2 (show vi _ _ from ei3) hS hM
  · refine qs_lp (qz_X16_common_L17 20000 hS hM ei1 ei2 ei3 ei4 k_1) ?_ ?_
    · intro v1247 S1247 w1247 h1247 hS1247 hM1247
      dsimp only
      exact qs_tp1 h1247 hS1247 hM1247
    · intro v1247 S1247 w1247 h1247 hS1247 hM1247
      dsimp only
      exact qs_tk ⟨_, _, _, _, _, rfl, ei1, ei2, h1247, (p_add ei4 k_1), hS1247, hM1247⟩
theorem qz_X16_common_L5 (n : Nat) : ∀ {P : Nat → Nat} {S : zm_S} {M : qm} {i1 : Int32} {qi1 : Int} {i2 : Int32} {qi2 : Int} {i3 : Int32} {qi3 : Int} {i4 : Int32} {qi4 : Int} (hS : Sh L xs P S) (hM : qM P S = M) (ei1 : i1.toInt = qi1) (ei2 : i2.toInt = qi2) (ei3 : i3.toInt = qi3) (ei4 : i4.toInt = qi4), qs (zf_X16_common_L5 20000 n 2157 i1 i2 i3 i4 S) (qf_X16_common_L5 20000 n qi1 qi2 qi3 qi4 M) (tO (vs (rp L xs P M vi) (rp L xs P M vi))) := by
  induction n with
  | zero =>
    intros
    exact qs_none
  | succ n ih =>
    intro P S M i1 qi1 i2 qi2 i3 qi3 i4 qi4 hS hM ei1 ei2 ei3 ei4
    unfold qf_X16_common_L5
    refine qs_loop (C := (qc_X16_common_L5 L xs P M (zf_X16_common_L5 20000 n))) (qz_X16_common_L5_b n hS hM ei1 ei2 ei3 ei4) ?_
    rintro x s ⟨_, _, _, _, _, rfl, u0, u1, u2, u3, hS2, hM2⟩
    exact ih hS2 hM2 u0 u1 u2 u3
set_option maxRecDepth 20000 in
theorem qz_X16_common {P : Nat → Nat} {S : zm_S} {M : qm} {i1 : Int32} {qi1 : Int} {i2 : Int32} {qi2 : Int} (hS : Sh L xs P S) (hM : qM P S = M) (ei1 : i1.toInt = qi1) (ei2 : i2.toInt = qi2) : qs (zf_X16_common 20000 2157 i1 i2 S) (qf_X16_common 20000 qi1 qi2 M) (tO (rp L xs P M vi)) := by
  unfold zf_X16_common qf_X16_common
  refine qs_lp (qz_X16_common_L5 20000 hS hM ei1 ei2 k_0 k_1) ?_ ?_
  · intro v1249 S1249 w1249 h1249 hS1249 hM1249
    dsimp only
    exact qs_tp h1249 hS1249 hM1249
  · intro v1249 S1249 w1249 h1249 hS1249 hM1249
    dsimp only
    exact qs_tp (show vi _ _ from h1249) hS1249 hM1249
set_option maxRecDepth 20000 in
theorem qz_X16_carry_J79 {P : Nat → Nat} {S : zm_S} {M : qm} {i1 : Int32} {qi1 : Int} {i3 : Int32} {qi3 : Int} {i4 : Int32} {qi4 : Int} {i5 : Int32} {qi5 : Int} {t0 : Int32} {qt0 : Int} (hS : Sh L xs P S) (hM : qM P S = M) (ei1 : i1.toInt = qi1) (ei3 : i3.toInt = qi3) (ei4 : i4.toInt = qi4) (ei5 : i5.toInt = qi5) (et0 : t0.toInt = qt0) {k : Nat → Int32 → Int32 → Int32 → Int32 → zm_S → Option ((Unit × zm_S) ⊕ ((Int32 × Int32) × zm_S))} : qs (zf_X16_carry_J79 20000 k 2157 i1 i3 i4 i5 t0 S) (qf_X16_carry_J79 20000 qi1 qi3 qi4 qi5 qt0 M) (tk (vs (rp L xs P M vu) (rp L xs P M (vp vi vi))) (qc_X16_carry_L40 L xs P M k)) := by
  unfold zf_X16_carry_J79 qf_X16_carry_J79
  refine qs_ite (c_le ei5 ei3) ?_ ?_
  · exact qs_tk ⟨_, _, _, _, _, rfl, ei1, et0, ei3, (p_add ei4 k_1), hS, hM⟩
  · exact qs_tk ⟨_, _, _, _, _, rfl, ei1, et0, ei5, (p_add ei4 k_1), hS, hM⟩
set_option maxRecDepth 20000 in
theorem qz_X16_carry_L40_b (n : Nat) {P : Nat → Nat} {S : zm_S} {M : qm} {i1 : Int32} {qi1 : Int} {i2 : Int32} {qi2 : Int} {i3 : Int32} {qi3 : Int} {i4 : Int32} {qi4 : Int} (hS : Sh L xs P S) (hM : qM P S = M) (ei1 : i1.toInt = qi1) (ei2 : i2.toInt = qi2) (ei3 : i3.toInt = qi3) (ei4 : i4.toInt = qi4) : qs (zf_X16_carry_L40 20000 (n + 1) 2157 i1 i2 i3 i4 S) (qf_X16_carry_L40_b 20000 qi1 qi2 qi3 qi4 M) (tk (vs (rp L xs P M vu) (rp L xs P M (vp vi vi))) (qc_X16_carry_L40 L xs P M (zf_X16_carry_L40 20000 n))) := by
  refine qs_eq (zf_X16_carry_L40.eq_2 ..) ?_
  unfold qf_X16_carry_L40_b
  refine qs_gi hS hM pl_2157 ts_2157 (z := 17) rfl rfl (fun v1250 h1250 => ?_)
  refine qs_ite (c_le h1250 ei4) ?_ ?_
  · exact qs_tp2 (show (vp vi vi) _ _ from ⟨ei2, ei3⟩) hS hM
  · refine qs_gr hS pl_2157 ts_2157 rfl ?_
    refine qs_gd (fun g1253 => ?_)
    refine qs_xi hM (pa_s hS (d := 2173) rfl (by decide) (by decide) sf_2173) ei1 g1253 (fun v1252 h1252 => ?_)
    refine qs_ite (c_le h1252 k_0) ?_ ?_
    · exact qs_tp2 (show (vp vi vi) _ _ from ⟨ei2, ei3⟩) hS hM
    · refine qs_zi hS pl_2157 ts_2157 ?_
      refine qs_bp (qz_X16_common hS hM ei1 ei4) (fun v1255 S1255 w1255 h1255 hS1255 hM1255 => ?_)
      refine qs_ite (c_le h1255 ei3) ?_ ?_
      · exact (qz_X16_carry_J79 hS1255 hM1255 ei1 ei3 ei4 h1255 ei2)
      · exact (qz_X16_carry_J79 hS1255 hM1255 ei1 ei3 ei4 h1255 ei4)
theorem qz_X16_carry_L40 (n : Nat) : ∀ {P : Nat → Nat} {S : zm_S} {M : qm} {i1 : Int32} {qi1 : Int} {i2 : Int32} {qi2 : Int} {i3 : Int32} {qi3 : Int} {i4 : Int32} {qi4 : Int} (hS : Sh L xs P S) (hM : qM P S = M) (ei1 : i1.toInt = qi1) (ei2 : i2.toInt = qi2) (ei3 : i3.toInt = qi3) (ei4 : i4.toInt = qi4), qs (zf_X16_carry_L40 20000 n 2157 i1 i2 i3 i4 S) (qf_X16_carry_L40 20000 n qi1 qi2 qi3 qi4 M) (tO (vs (rp L xs P M vu) (rp L xs P M (vp vi vi)))) := by
  induction n with
  | zero =>
    intros
    exact qs_none
  | succ n ih =>
    intro P S M i1 qi1 i2 qi2 i3 qi3 i4 qi4 hS hM ei1 ei2 ei3 ei4
    unfold qf_X16_carry_L40
    refine qs_loop (C := (qc_X16_carry_L40 L xs P M (zf_X16_carry_L40 20000 n))) (qz_X16_carry_L40_b n hS hM ei1 ei2 ei3 ei4) ?_
    rintro x s ⟨_, _, _, _, _, rfl, u0, u1, u2, u3, hS2, hM2⟩
    exact ih hS2 hM2 u0 u1 u2 u3
set_option maxRecDepth 20000 in
theorem qz_X16_carry_J99 {P : Nat → Nat} {S : zm_S} {M : qm} {i1 : Int32} {qi1 : Int} {i2 : Int32} {qi2 : Int} {i3 : Int32} {qi3 : Int} (hS : Sh L xs P S) (hM : qM P S = M) (ei1 : i1.toInt = qi1) (ei2 : i2.toInt = qi2) (ei3 : i3.toInt = qi3) {k : Nat → Int32 → zm_S → Option ((Unit × zm_S) ⊕ ((Unit) × zm_S))} : qs (zf_X16_carry_J99 20000 k 2157 i1 i2 i3 S) (qf_X16_carry_J99 20000 qi1 qi2 qi3 M) (tk (vs (rr L xs P vu) (rr L xs P vu)) (qc_X16_carry_L25 L xs P k)) := by
  unfold zf_X16_carry_J99 qf_X16_carry_J99
  refine qs_ite (c_lt ei2 k_0) ?_ ?_
  · exact qs_tk ⟨_, _, rfl, (p_add ei1 k_1), hS, hM⟩
  · refine qs_gr hS pl_2157 ts_2157 rfl ?_
    refine qs_gd (fun g1258 => ?_)
    refine qs_xi hM (pa_p hS pl_2183 ts_2183) ei2 g1258 (fun v1257 h1257 => ?_)
    refine qs_ite (c_le ei3 h1257) ?_ ?_
    · exact qs_tk ⟨_, _, rfl, (p_add ei1 k_1), hS, hM⟩
    · refine qs_gr hS pl_2157 ts_2157 rfl ?_
      refine qs_gd (fun g1261 => ?_)
      refine qs_si hS hM (pa_p hS pl_2183 ts_2183) ei2 g1261 ei3 (fun S1260 M1260 hS1260 hM1260 => ?_)
      refine qs_gr hS1260 pl_2157 ts_2157 rfl ?_
      refine qs_gr hS1260 pl_2157 ts_2157 rfl ?_
      refine qs_gd (fun g1265 => ?_)
      refine qs_xi hM1260 (pa_s hS1260 (d := 2173) rfl (by decide) (by decide) sf_2173) ei1 g1265 (fun v1264 h1264 => ?_)
      refine qs_gd (fun g1267 => ?_)
      refine qs_si hS1260 hM1260 (pa_s hS1260 (d := 2172) rfl (by decide) (by decide) sf_2172) ei2 g1267 h1264 (fun S1266 M1266 hS1266 hM1266 => ?_)
      exact qs_tk ⟨_, _, rfl, (p_add ei1 k_1), hS1266, hM1266⟩
set_option maxRecDepth 20000 in
theorem qz_X16_carry_L25_b (n : Nat) {P : Nat → Nat} {S : zm_S} {M : qm} {i1 : Int32} {qi1 : Int} (hS : Sh L xs P S) (hM : qM P S = M) (ei1 : i1.toInt = qi1) : qs (zf_X16_carry_L25 20000 (n + 1) 2157 i1 S) (qf_X16_carry_L25_b 20000 qi1 M) (tk (vs (rr L xs P vu) (rr L xs P vu)) (qc_X16_carry_L25 L xs P (zf_X16_carry_L25 20000 n))) := by
  refine qs_eq (zf_X16_carry_L25.eq_2 ..) ?_
  unfold qf_X16_carry_L25_b
  refine qs_gi hS hM pl_2157 ts_2157 (z := 24) rfl rfl (fun v1268 h1268 => ?_)
  refine qs_ite (c_le h1268 ei1) ?_ ?_
  · exact qs_tr2 (show vu _ _ from trivial) hS hM
  · refine qs_lp (qz_X16_carry_L40 20000 hS hM ei1 k_m1 k_0 k_0) ?_ ?_
    · intro v1270 S1270 w1270 h1270 hS1270 hM1270
      dsimp only
      exact qs_tr1 h1270 hS1270 hM1270
    · intro v1270 S1270 w1270 h1270 hS1270 hM1270
      dsimp only
      exact (qz_X16_carry_J99 hS1270 hM1270 ei1 h1270.1 h1270.2)
theorem qz_X16_carry_L25 (n : Nat) : ∀ {P : Nat → Nat} {S : zm_S} {M : qm} {i1 : Int32} {qi1 : Int} (hS : Sh L xs P S) (hM : qM P S = M) (ei1 : i1.toInt = qi1), qs (zf_X16_carry_L25 20000 n 2157 i1 S) (qf_X16_carry_L25 20000 n qi1 M) (tO (vs (rr L xs P vu) (rr L xs P vu))) := by
  induction n with
  | zero =>
    intros
    exact qs_none
  | succ n ih =>
    intro P S M i1 qi1 hS hM ei1
    unfold qf_X16_carry_L25
    refine qs_loop (C := (qc_X16_carry_L25 L xs P (zf_X16_carry_L25 20000 n))) (qz_X16_carry_L25_b n hS hM ei1) ?_
    rintro x s ⟨_, _, rfl, u0, hS2, hM2⟩
    exact ih hS2 hM2 u0
set_option maxRecDepth 20000 in
theorem qz_X16_carry {P : Nat → Nat} {S : zm_S} {M : qm}  (hS : Sh L xs P S) (hM : qM P S = M)  : qs (zf_X16_carry 20000 2157 S) (qf_X16_carry 20000 M) (tO (rr L xs P vu)) := by
  unfold zf_X16_carry qf_X16_carry
  refine qs_lr (qz_X16_carry_L2 20000 hS hM k_0) ?_ ?_
  · intro v1272 S1272 w1272 M1272 h1272 hS1272 hM1272
    dsimp only
    exact qs_tr h1272 hS1272 hM1272
  · intro v1272 S1272 w1272 M1272 h1272 hS1272 hM1272
    dsimp only
    refine qs_lr (qz_X16_carry_L25 20000 hS1272 hM1272 k_0) ?_ ?_
    · intro v1274 S1274 w1274 M1274 h1274 hS1274 hM1274
      dsimp only
      exact qs_tr h1274 hS1274 hM1274
    · intro v1274 S1274 w1274 M1274 h1274 hS1274 hM1274
      dsimp only
      exact qs_tr (show vu _ _ from trivial) hS1274 hM1274
set_option maxRecDepth 20000 in
theorem qz_X16_run {P : Nat → Nat} {S : zm_S} {M : qm}  (hS : Sh L xs P S) (hM : qM P S = M)  : qs (zf_X16_run 20000 2157 S) (qf_X16_run 20000 M) (tO (re L xs vi)) := by
  unfold zf_X16_run qf_X16_run
  refine qs_gi hS hM pl_2157 ts_2157 (z := 11) rfl rfl (fun v1275 h1275 => ?_)
  refine qs_pi hS hM pl_2157 ts_2157 (z := 11) rfl rfl (p_add h1275 k_1) (fun S1276 M1276 hS1276 hM1276 => ?_)
  refine qs_zi hS1276 pl_2157 ts_2157 ?_
  refine qs_be (qz_X16_turn hS1276 hM1276 ) (fun v1278 S1278 w1278 M1278 P1278 h1278 hS1278 hM1278 => ?_)
  refine qs_pi hS1278 hM1278 pl_2157 ts_2157 (z := 12) rfl rfl k_0 (fun S1279 M1279 hS1279 hM1279 => ?_)
  refine qs_pi hS1279 hM1279 pl_2157 ts_2157 (z := 13) rfl rfl k_0 (fun S1280 M1280 hS1280 hM1280 => ?_)
  refine qs_lr (qz_X16_run_L26 20000 hS1280 hM1280 k_0) ?_ ?_
  · intro v1282 S1282 w1282 M1282 h1282 hS1282 hM1282
    dsimp only
    exact qs_te h1282 hS1282 hM1282
  · intro v1282 S1282 w1282 M1282 h1282 hS1282 hM1282
    dsimp only
    refine qs_zi hS1282 pl_2157 ts_2157 ?_
    refine qs_b (qz_X16_fill hS1282 hM1282 ) (fun v1284 S1284 w1284 M1284 h1284 hS1284 hM1284 => ?_)
    refine qs_zi hS1284 pl_2157 ts_2157 ?_
    refine qs_b (qz_X16_findPoints hS1284 hM1284 ) (fun v1286 S1286 w1286 M1286 h1286 hS1286 hM1286 => ?_)
    refine qs_zi hS1286 pl_2157 ts_2157 ?_
    refine qs_b (qz_X16_findRings hS1286 hM1286 ) (fun v1288 S1288 w1288 M1288 h1288 hS1288 hM1288 => ?_)
    refine qs_zi hS1288 pl_2157 ts_2157 ?_
    refine qs_b (qz_X16_number hS1288 hM1288 ) (fun v1290 S1290 w1290 M1290 h1290 hS1290 hM1290 => ?_)
    refine qs_lr (qz_X16_run_L140 20000 hS1290 hM1290 k_0) ?_ ?_
    · intro v1292 S1292 w1292 M1292 h1292 hS1292 hM1292
      dsimp only
      exact qs_te h1292 hS1292 hM1292
    · intro v1292 S1292 w1292 M1292 h1292 hS1292 hM1292
      dsimp only
      refine qs_gi hS1292 hM1292 pl_2157 ts_2157 (z := 18) rfl rfl (fun v1293 h1293 => ?_)
      refine qs_ite (c_eq h1293 k_0) ?_ ?_
      · exact (qz_X16_run_J171 hS1292 hM1292 )
      · refine qs_zi hS1292 pl_2157 ts_2157 ?_
        refine qs_b (qz_X16_carry hS1292 hM1292 ) (fun v1295 S1295 w1295 M1295 h1295 hS1295 hM1295 => ?_)
        exact (qz_X16_run_J171 hS1295 hM1295 )
set_option maxRecDepth 20000 in
theorem qz_X18_find_J25 {P : Nat → Nat} {S : zm_S} {M : qm} {t1 : Int32} {qt1 : Int} (hS : Sh L xs P S) (hM : qM P S = M) (et1 : t1.toInt = qt1) : qs (zf_X18_find_J25 20000 2156 2156 t1 S) (qf_X18_find_J25 20000 qt1 M) (tO (re L xs vi)) := by
  unfold zf_X18_find_J25 qf_X18_find_J25
  refine qs_zi hS pl_2156 ts_2156 ?_
  refine qs_b (qz_X18_stays hS hM et1) (fun v1297 S1297 w1297 M1297 h1297 hS1297 hM1297 => ?_)
  refine qs_ite (c_eq h1297 k_0) ?_ ?_
  · exact qs_te (show vi _ _ from k_0) hS1297 hM1297
  · refine qs_gr hS1297 pl_2156 ts_2156 rfl ?_
    refine qs_zi hS1297 pl_2157 ts_2157 ?_
    refine qs_be (qz_X16_run hS1297 hM1297 ) (fun v1300 S1300 w1300 M1300 P1300 h1300 hS1300 hM1300 => ?_)
    exact qs_te (show vi _ _ from h1300) hS1300 hM1300
set_option maxRecDepth 20000 in
theorem qz_X18_find_J24 {P : Nat → Nat} {S : zm_S} {M : qm}  (hS : Sh L xs P S) (hM : qM P S = M)  : qs (zf_X18_find_J24 20000 2156 2156 S) (qf_X18_find_J24 20000 M) (tO (re L xs vi)) := by
  unfold zf_X18_find_J24 qf_X18_find_J24
  exact (qz_X18_find_J25 hS hM k_0)
set_option maxRecDepth 20000 in
theorem qz_X18_find {P : Nat → Nat} {S : zm_S} {M : qm}  (hS : Sh L xs P S) (hM : qM P S = M)  : qs (zf_X18_find 20000 2156 S) (qf_X18_find 20000 M) (tO (re L xs vi)) := by
  unfold zf_X18_find qf_X18_find
  refine qs_gi hS hM pl_2156 ts_2156 (z := 1) rfl rfl (fun v1301 h1301 => ?_)
  refine qs_ite (c_eq h1301 k_0) ?_ ?_
  · refine qs_gr hS pl_2156 ts_2156 rfl ?_
    refine qs_gi hS hM pl_2157 ts_2157 (z := 11) rfl rfl (fun v1303 h1303 => ?_)
    refine qs_ite (c_le k_60 h1303) ?_ ?_
    · exact (qz_X18_find_J24 hS hM )
    · exact (qz_X18_find_J25 hS hM k_1)
  · exact (qz_X18_find_J24 hS hM )
set_option maxRecDepth 20000 in
theorem qz_X2_countPoints_J26 {P : Nat → Nat} {S : zm_S} {M : qm} {i2 : Int32} {qi2 : Int} {t0 : Int32} {qt0 : Int} {t1 : Int32} {qt1 : Int} (hS : Sh L xs P S) (hM : qM P S = M) (ei2 : i2.toInt = qi2) (et0 : t0.toInt = qt0) (et1 : t1.toInt = qt1) {k : Nat → Int32 → Int32 → zm_S → Option ((Int32 × zm_S) ⊕ ((Int32) × zm_S))} : qs (zf_X2_countPoints_J26 20000 k 51 i2 t0 t1 S) (qf_X2_countPoints_J26 20000 qi2 qt0 qt1 M) (tk (vs (rp L xs P M vi) (rp L xs P M vi)) (qc_X2_countPoints_L4 L xs P M k)) := by
  unfold zf_X2_countPoints_J26 qf_X2_countPoints_J26
  exact qs_tk ⟨_, _, _, rfl, (p_add et0 et1), (p_add ei2 k_1), hS, hM⟩
set_option maxRecDepth 20000 in
theorem qz_X2_countPoints_L4_b (n : Nat) {P : Nat → Nat} {S : zm_S} {M : qm} {i1 : Int32} {qi1 : Int} {i2 : Int32} {qi2 : Int} (hS : Sh L xs P S) (hM : qM P S = M) (ei1 : i1.toInt = qi1) (ei2 : i2.toInt = qi2) : qs (zf_X2_countPoints_L4 20000 (n + 1) 51 i1 i2 S) (qf_X2_countPoints_L4_b 20000 qi1 qi2 M) (tk (vs (rp L xs P M vi) (rp L xs P M vi)) (qc_X2_countPoints_L4 L xs P M (zf_X2_countPoints_L4 20000 n))) := by
  refine qs_eq (zf_X2_countPoints_L4.eq_2 ..) ?_
  unfold qf_X2_countPoints_L4_b
  refine qs_ite (c_le k_625 ei2) ?_ ?_
  · exact qs_tp2 (show vi _ _ from ei1) hS hM
  · refine qs_gr hS pl_51 ts_51 rfl ?_
    refine qs_gd (fun g1306 => ?_)
    refine qs_xi hM (pa_p hS pl_55 ts_55) ei2 g1306 (fun v1305 h1305 => ?_)
    refine qs_ite (c_eq h1305 k_0) ?_ ?_
    · exact (qz_X2_countPoints_J26 hS hM ei2 ei1 k_0)
    · exact (qz_X2_countPoints_J26 hS hM ei2 ei1 k_1)
theorem qz_X2_countPoints_L4 (n : Nat) : ∀ {P : Nat → Nat} {S : zm_S} {M : qm} {i1 : Int32} {qi1 : Int} {i2 : Int32} {qi2 : Int} (hS : Sh L xs P S) (hM : qM P S = M) (ei1 : i1.toInt = qi1) (ei2 : i2.toInt = qi2), qs (zf_X2_countPoints_L4 20000 n 51 i1 i2 S) (qf_X2_countPoints_L4 20000 n qi1 qi2 M) (tO (vs (rp L xs P M vi) (rp L xs P M vi))) := by
  induction n with
  | zero =>
    intros
    exact qs_none
  | succ n ih =>
    intro P S M i1 qi1 i2 qi2 hS hM ei1 ei2
    unfold qf_X2_countPoints_L4
    refine qs_loop (C := (qc_X2_countPoints_L4 L xs P M (zf_X2_countPoints_L4 20000 n))) (qz_X2_countPoints_L4_b n hS hM ei1 ei2) ?_
    rintro x s ⟨_, _, _, rfl, u0, u1, hS2, hM2⟩
    exact ih hS2 hM2 u0 u1
set_option maxRecDepth 20000 in
theorem qz_X2_countPoints {P : Nat → Nat} {S : zm_S} {M : qm}  (hS : Sh L xs P S) (hM : qM P S = M)  : qs (zf_X2_countPoints 20000 51 S) (qf_X2_countPoints 20000 M) (tO (rp L xs P M vi)) := by
  unfold zf_X2_countPoints qf_X2_countPoints
  refine qs_lp (qz_X2_countPoints_L4 20000 hS hM k_0 k_0) ?_ ?_
  · intro v1308 S1308 w1308 h1308 hS1308 hM1308
    dsimp only
    exact qs_tp h1308 hS1308 hM1308
  · intro v1308 S1308 w1308 h1308 hS1308 hM1308
    dsimp only
    exact qs_tp (show vi _ _ from h1308) hS1308 hM1308
set_option maxRecDepth 20000 in
theorem qz_X2_countPieces {P : Nat → Nat} {S : zm_S} {M : qm}  (hS : Sh L xs P S) (hM : qM P S = M)  : qs (zf_X2_countPieces 20000 51 S) (qf_X2_countPieces 20000 M) (tO (rp L xs P M vi)) := by
  unfold zf_X2_countPieces qf_X2_countPieces
  refine qs_gi hS hM pl_51 ts_51 (z := 14) rfl rfl (fun v1309 h1309 => ?_)
  exact qs_tp (show vi _ _ from (p_div h1309 k_2 (by decide))) hS hM
set_option maxRecDepth 20000 in
theorem qz_X2_countOutsideSides_J37 {P : Nat → Nat} {S : zm_S} {M : qm} {i2 : Int32} {qi2 : Int} {t0 : Int32} {qt0 : Int} {t1 : Int32} {qt1 : Int} (hS : Sh L xs P S) (hM : qM P S = M) (ei2 : i2.toInt = qi2) (et0 : t0.toInt = qt0) (et1 : t1.toInt = qt1) {k : Nat → Int32 → Int32 → zm_S → Option ((Int32 × zm_S) ⊕ ((Int32) × zm_S))} : qs (zf_X2_countOutsideSides_J37 20000 k 51 i2 t0 t1 S) (qf_X2_countOutsideSides_J37 20000 qi2 qt0 qt1 M) (tk (vs (rp L xs P M vi) (rp L xs P M vi)) (qc_X2_countOutsideSides_L4 L xs P M k)) := by
  unfold zf_X2_countOutsideSides_J37 qf_X2_countOutsideSides_J37
  exact qs_tk ⟨_, _, _, rfl, (p_add et0 et1), (p_add ei2 k_1), hS, hM⟩
set_option maxRecDepth 20000 in
theorem qz_X2_countOutsideSides_L4_b (n : Nat) {P : Nat → Nat} {S : zm_S} {M : qm} {i1 : Int32} {qi1 : Int} {i2 : Int32} {qi2 : Int} (hS : Sh L xs P S) (hM : qM P S = M) (ei1 : i1.toInt = qi1) (ei2 : i2.toInt = qi2) : qs (zf_X2_countOutsideSides_L4 20000 (n + 1) 51 i1 i2 S) (qf_X2_countOutsideSides_L4_b 20000 qi1 qi2 M) (tk (vs (rp L xs P M vi) (rp L xs P M vi)) (qc_X2_countOutsideSides_L4 L xs P M (zf_X2_countOutsideSides_L4 20000 n))) := by
  refine qs_eq (zf_X2_countOutsideSides_L4.eq_2 ..) ?_
  unfold qf_X2_countOutsideSides_L4_b
  refine qs_gi hS hM pl_51 ts_51 (z := 12) rfl rfl (fun v1310 h1310 => ?_)
  refine qs_ite (c_le h1310 ei2) ?_ ?_
  · exact qs_tp2 (show vi _ _ from ei1) hS hM
  · refine qs_gr hS pl_51 ts_51 rfl ?_
    refine qs_gd (fun g1313 => ?_)
    refine qs_xt hS pl_62 ts_62 (Or.inl rfl) ei2 g1313 (fun b1312 r1312 => ?_)
    refine qs_yi (j := 0) hS hM qt_62 tq_62 r1312 k_0 (by decide) (fun v1314 h1314 => ?_)
    refine qs_ite (c_eq h1314 k_m1) ?_ ?_
    · refine qs_gr hS pl_51 ts_51 rfl ?_
      refine qs_gd (fun g1317 => ?_)
      refine qs_xt hS pl_62 ts_62 (Or.inl rfl) ei2 g1317 (fun b1316 r1316 => ?_)
      refine qs_yi (j := 2) hS hM qt_62 tq_62 r1316 k_2 (by decide) (fun v1318 h1318 => ?_)
      exact (qz_X2_countOutsideSides_J37 hS hM ei2 ei1 h1318)
    · exact (qz_X2_countOutsideSides_J37 hS hM ei2 ei1 k_0)
theorem qz_X2_countOutsideSides_L4 (n : Nat) : ∀ {P : Nat → Nat} {S : zm_S} {M : qm} {i1 : Int32} {qi1 : Int} {i2 : Int32} {qi2 : Int} (hS : Sh L xs P S) (hM : qM P S = M) (ei1 : i1.toInt = qi1) (ei2 : i2.toInt = qi2), qs (zf_X2_countOutsideSides_L4 20000 n 51 i1 i2 S) (qf_X2_countOutsideSides_L4 20000 n qi1 qi2 M) (tO (vs (rp L xs P M vi) (rp L xs P M vi))) := by
  induction n with
  | zero =>
    intros
    exact qs_none
  | succ n ih =>
    intro P S M i1 qi1 i2 qi2 hS hM ei1 ei2
    unfold qf_X2_countOutsideSides_L4
    refine qs_loop (C := (qc_X2_countOutsideSides_L4 L xs P M (zf_X2_countOutsideSides_L4 20000 n))) (qz_X2_countOutsideSides_L4_b n hS hM ei1 ei2) ?_
    rintro x s ⟨_, _, _, rfl, u0, u1, hS2, hM2⟩
    exact ih hS2 hM2 u0 u1
set_option maxRecDepth 20000 in
theorem qz_X2_countOutsideSides {P : Nat → Nat} {S : zm_S} {M : qm}  (hS : Sh L xs P S) (hM : qM P S = M)  : qs (zf_X2_countOutsideSides 20000 51 S) (qf_X2_countOutsideSides 20000 M) (tO (rp L xs P M vi)) := by
  unfold zf_X2_countOutsideSides qf_X2_countOutsideSides
  refine qs_lp (qz_X2_countOutsideSides_L4 20000 hS hM k_0 k_0) ?_ ?_
  · intro v1320 S1320 w1320 h1320 hS1320 hM1320
    dsimp only
    exact qs_tp h1320 hS1320 hM1320
  · intro v1320 S1320 w1320 h1320 hS1320 hM1320
    dsimp only
    exact qs_tp (show vi _ _ from h1320) hS1320 hM1320
set_option maxRecDepth 20000 in
theorem qz_X11_count {P : Nat → Nat} {S : zm_S} {M : qm} {i1 : Int32} {qi1 : Int} (hS : Sh L xs P S) (hM : qM P S = M) (ei1 : i1.toInt = qi1) : qs (zf_X11_count 20000 6 i1 S) (qf_X11_count 20000 qi1 M) (tO (rp L xs P M (vs vi ve))) := by
  unfold zf_X11_count qf_X11_count
  refine qs_bp (qz_X11_isWithin hS hM ei1 k_0 k_3) (fun v1321 S1321 w1321 h1321 hS1321 hM1321 => ?_)
  refine qs_xp (qz_X11_needArgument hS1321 hM1321 h1321) ?_ ?_
  · intro v1323 S1323 w1323 h1323 hS1323 hM1323
    dsimp only
    refine qs_gr hS1323 pl_6 ts_6 rfl ?_
    refine qs_gi hS1323 hM1323 pl_51 ts_51 (z := 2) rfl rfl (fun v1325 h1325 => ?_)
    refine qs_xp (qz_X11_needState hS1323 hM1323 h1325) ?_ ?_
    · intro v1327 S1327 w1327 h1327 hS1327 hM1327
      dsimp only
      refine qs_ite (z_eq ei1) ?_ ?_
      · refine qs_gr hS1327 pl_6 ts_6 rfl ?_
        refine qs_gi hS1327 hM1327 pl_51 ts_51 (z := 3) rfl rfl (fun v1329 h1329 => ?_)
        exact qs_tp (show (vs vi ve) _ _ from h1329) hS1327 hM1327
      · refine qs_ite (z_eq ei1) ?_ ?_
        · refine qs_gr hS1327 pl_6 ts_6 rfl ?_
          refine qs_zi hS1327 pl_51 ts_51 ?_
          refine qs_bp (qz_X2_countPoints hS1327 hM1327 ) (fun v1332 S1332 w1332 h1332 hS1332 hM1332 => ?_)
          exact qs_tp (show (vs vi ve) _ _ from h1332) hS1332 hM1332
        · refine qs_ite (z_eq ei1) ?_ ?_
          · refine qs_gr hS1327 pl_6 ts_6 rfl ?_
            refine qs_zi hS1327 pl_51 ts_51 ?_
            refine qs_bp (qz_X2_countPieces hS1327 hM1327 ) (fun v1335 S1335 w1335 h1335 hS1335 hM1335 => ?_)
            exact qs_tp (show (vs vi ve) _ _ from h1335) hS1335 hM1335
          · refine qs_gr hS1327 pl_6 ts_6 rfl ?_
            refine qs_zi hS1327 pl_51 ts_51 ?_
            refine qs_bp (qz_X2_countOutsideSides hS1327 hM1327 ) (fun v1338 S1338 w1338 h1338 hS1338 hM1338 => ?_)
            exact qs_tp (show (vs vi ve) _ _ from h1338) hS1338 hM1338
    · intro v1327 S1327 hS1327 hM1327
      dsimp only
      exact qs_tp (show (vs vi ve) _ _ from rfl) hS1327 hM1327
  · intro v1323 S1323 hS1323 hM1323
    dsimp only
    exact qs_tp (show (vs vi ve) _ _ from rfl) hS1323 hM1323
set_option maxRecDepth 20000 in
theorem qz_L_count {P : Nat → Nat} {S : zm_S} {M : qm} {i1 : Int32} {qi1 : Int} (hS : Sh L xs P S) (hM : qM P S = M) (ei1 : i1.toInt = qi1) : qs (zf_L_count 20000 6 i1 2332 S) (qf_L_count 20000 qi1 M) (tO (rr L xs P vi)) := by
  unfold zf_L_count qf_L_count
  refine qs_zi hS pl_6 ts_6 ?_
  refine qs_xp (qz_X11_count hS hM ei1) ?_ ?_
  · intro v1341 S1341 w1341 h1341 hS1341 hM1341
    dsimp only
    refine qs_sl hS1341 hM1341 (pa_p hS1341 pl_2332 ts_2332) k_0 (by decide) (p_64 h1341) (fun S1342 M1342 hS1342 hM1342 => ?_)
    exact qs_tr (show vi _ _ from k_0) hS1342 hM1342
  · intro v1341 S1341 hS1341 hM1341
    dsimp only
    refine qs_ite Iff.rfl ?_ ?_
    · exact qs_tr (show vi _ _ from k_1) hS1341 hM1341
    · refine qs_ite Iff.rfl ?_ ?_
      · exact qs_tr (show vi _ _ from k_2) hS1341 hM1341
      · exact qs_none
set_option maxRecDepth 20000 in
theorem qz_X16_outerSides_J28 {P : Nat → Nat} {S : zm_S} {M : qm} {i2 : Int32} {qi2 : Int} {t0 : Int32} {qt0 : Int} {t1 : Int32} {qt1 : Int} (hS : Sh L xs P S) (hM : qM P S = M) (ei2 : i2.toInt = qi2) (et0 : t0.toInt = qt0) (et1 : t1.toInt = qt1) {k : Nat → Int32 → Int32 → zm_S → Option ((Int32 × zm_S) ⊕ ((Int32) × zm_S))} : qs (zf_X16_outerSides_J28 20000 k 2157 i2 t0 t1 S) (qf_X16_outerSides_J28 20000 qi2 qt0 qt1 M) (tk (vs (rp L xs P M vi) (rp L xs P M vi)) (qc_X16_outerSides_L4 L xs P M k)) := by
  unfold zf_X16_outerSides_J28 qf_X16_outerSides_J28
  exact qs_tk ⟨_, _, _, rfl, (p_add et0 et1), (p_add ei2 k_1), hS, hM⟩
set_option maxRecDepth 20000 in
theorem qz_X16_outerSides_L4_b (n : Nat) {P : Nat → Nat} {S : zm_S} {M : qm} {i1 : Int32} {qi1 : Int} {i2 : Int32} {qi2 : Int} (hS : Sh L xs P S) (hM : qM P S = M) (ei1 : i1.toInt = qi1) (ei2 : i2.toInt = qi2) : qs (zf_X16_outerSides_L4 20000 (n + 1) 2157 i1 i2 S) (qf_X16_outerSides_L4_b 20000 qi1 qi2 M) (tk (vs (rp L xs P M vi) (rp L xs P M vi)) (qc_X16_outerSides_L4 L xs P M (zf_X16_outerSides_L4 20000 n))) := by
  refine qs_eq (zf_X16_outerSides_L4.eq_2 ..) ?_
  unfold qf_X16_outerSides_L4_b
  refine qs_gi hS hM pl_2157 ts_2157 (z := 30) rfl rfl (fun v1343 h1343 => ?_)
  refine qs_ite (c_le (p_mul k_2 h1343) ei2) ?_ ?_
  · exact qs_tp2 (show vi _ _ from ei1) hS hM
  · refine qs_zi hS pl_2157 ts_2157 ?_
    refine qs_bp (qz_X16_left hS hM ei2) (fun v1345 S1345 w1345 h1345 hS1345 hM1345 => ?_)
    refine qs_ite (c_le k_0 h1345) ?_ ?_
    · exact (qz_X16_outerSides_J28 hS1345 hM1345 ei2 ei1 k_0)
    · exact (qz_X16_outerSides_J28 hS1345 hM1345 ei2 ei1 k_1)
theorem qz_X16_outerSides_L4 (n : Nat) : ∀ {P : Nat → Nat} {S : zm_S} {M : qm} {i1 : Int32} {qi1 : Int} {i2 : Int32} {qi2 : Int} (hS : Sh L xs P S) (hM : qM P S = M) (ei1 : i1.toInt = qi1) (ei2 : i2.toInt = qi2), qs (zf_X16_outerSides_L4 20000 n 2157 i1 i2 S) (qf_X16_outerSides_L4 20000 n qi1 qi2 M) (tO (vs (rp L xs P M vi) (rp L xs P M vi))) := by
  induction n with
  | zero =>
    intros
    exact qs_none
  | succ n ih =>
    intro P S M i1 qi1 i2 qi2 hS hM ei1 ei2
    unfold qf_X16_outerSides_L4
    refine qs_loop (C := (qc_X16_outerSides_L4 L xs P M (zf_X16_outerSides_L4 20000 n))) (qz_X16_outerSides_L4_b n hS hM ei1 ei2) ?_
    rintro x s ⟨_, _, _, rfl, u0, u1, hS2, hM2⟩
    exact ih hS2 hM2 u0 u1
set_option maxRecDepth 20000 in
theorem qz_X16_outerSides {P : Nat → Nat} {S : zm_S} {M : qm}  (hS : Sh L xs P S) (hM : qM P S = M)  : qs (zf_X16_outerSides 20000 2157 S) (qf_X16_outerSides 20000 M) (tO (rp L xs P M vi)) := by
  unfold zf_X16_outerSides qf_X16_outerSides
  refine qs_lp (qz_X16_outerSides_L4 20000 hS hM k_0 k_0) ?_ ?_
  · intro v1347 S1347 w1347 h1347 hS1347 hM1347
    dsimp only
    exact qs_tp h1347 hS1347 hM1347
  · intro v1347 S1347 w1347 h1347 hS1347 hM1347
    dsimp only
    exact qs_tp (show vi _ _ from h1347) hS1347 hM1347
set_option maxRecDepth 20000 in
theorem qz_X18_count {P : Nat → Nat} {S : zm_S} {M : qm} {i1 : Int32} {qi1 : Int} (hS : Sh L xs P S) (hM : qM P S = M) (ei1 : i1.toInt = qi1) : qs (zf_X18_count 20000 2156 i1 S) (qf_X18_count 20000 qi1 M) (tO (rr L xs P vi)) := by
  unfold zf_X18_count qf_X18_count
  refine qs_bp (qz_X18_isIn hS hM ei1 k_4) (fun v1348 S1348 w1348 h1348 hS1348 hM1348 => ?_)
  refine qs_gr hS1348 pl_2156 ts_2156 rfl ?_
  refine qs_gi hS1348 hM1348 pl_2157 ts_2157 (z := 10) rfl rfl (fun v1350 h1350 => ?_)
  refine qs_zi hS1348 pl_2156 ts_2156 ?_
  refine qs_b (qz_X18_goes hS1348 hM1348 h1348 h1350) (fun v1352 S1352 w1352 M1352 h1352 hS1352 hM1352 => ?_)
  refine qs_ite (c_eq h1352 k_0) ?_ ?_
  · exact qs_tr (show vi _ _ from k_0) hS1352 hM1352
  · refine qs_ite (c_eq ei1 k_0) ?_ ?_
    · refine qs_gr hS1352 pl_2156 ts_2156 rfl ?_
      refine qs_gi hS1352 hM1352 pl_2157 ts_2157 (z := 17) rfl rfl (fun v1354 h1354 => ?_)
      exact qs_tr (show vi _ _ from h1354) hS1352 hM1352
    · refine qs_ite (c_eq ei1 k_1) ?_ ?_
      · refine qs_gr hS1352 pl_2156 ts_2156 rfl ?_
        refine qs_gi hS1352 hM1352 pl_2157 ts_2157 (z := 27) rfl rfl (fun v1356 h1356 => ?_)
        exact qs_tr (show vi _ _ from h1356) hS1352 hM1352
      · refine qs_ite (c_eq ei1 k_2) ?_ ?_
        · refine qs_gr hS1352 pl_2156 ts_2156 rfl ?_
          refine qs_gi hS1352 hM1352 pl_2157 ts_2157 (z := 30) rfl rfl (fun v1358 h1358 => ?_)
          exact qs_tr (show vi _ _ from h1358) hS1352 hM1352
        · refine qs_gr hS1352 pl_2156 ts_2156 rfl ?_
          refine qs_zi hS1352 pl_2157 ts_2157 ?_
          refine qs_bp (qz_X16_outerSides hS1352 hM1352 ) (fun v1361 S1361 w1361 h1361 hS1361 hM1361 => ?_)
          exact qs_tr (show vi _ _ from h1361) hS1361 hM1361
set_option maxRecDepth 20000 in
theorem qz_X11_isSpace {P : Nat → Nat} {S : zm_S} {M : qm} {i1 : Int32} {qi1 : Int} (hS : Sh L xs P S) (hM : qM P S = M) (ei1 : i1.toInt = qi1) : qs (zf_X11_isSpace 20000 6 i1 S) (qf_X11_isSpace 20000 qi1 M) (tO (rp L xs P M vi)) := by
  unfold zf_X11_isSpace qf_X11_isSpace
  refine qs_gr hS pl_6 ts_6 rfl ?_
  refine qs_gi hS hM pl_51 ts_51 (z := 3) rfl rfl (fun v1363 h1363 => ?_)
  refine qs_bp (qz_X11_isWithin hS hM ei1 k_0 (p_sub h1363 k_1)) (fun v1364 S1364 w1364 h1364 hS1364 hM1364 => ?_)
  refine qs_ite (or_congr (c_eq h1364 k_0) (c_eq h1364 k_1)) ?_ ?_
  · exact qs_tp (show vi _ _ from h1364) hS1364 hM1364
  · exact qs_none
set_option maxRecDepth 20000 in
theorem qz_X2_findRing_L5_b (n : Nat) {P : Nat → Nat} {S : zm_S} {M : qm} {i1 : Int32} {qi1 : Int} {i2 : Int32} {qi2 : Int} {i3 : Int32} {qi3 : Int} {i4 : Int32} {qi4 : Int} (hS : Sh L xs P S) (hM : qM P S = M) (ei1 : i1.toInt = qi1) (ei2 : i2.toInt = qi2) (ei3 : i3.toInt = qi3) (ei4 : i4.toInt = qi4) : qs (zf_X2_findRing_L5 20000 (n + 1) 51 i1 i2 i3 i4 S) (qf_X2_findRing_L5_b 20000 qi1 qi2 qi3 qi4 M) (tk (vs (rp L xs P M vi) (rp L xs P M vu)) (qc_X2_findRing_L5 L xs P M (zf_X2_findRing_L5 20000 n))) := by
  refine qs_eq (zf_X2_findRing_L5.eq_2 ..) ?_
  unfold qf_X2_findRing_L5_b
  refine qs_gi hS hM pl_51 ts_51 (z := 12) rfl rfl (fun v1365 h1365 => ?_)
  refine qs_ite (c_le h1365 ei4) ?_ ?_
  · exact qs_tp2 (show vu _ _ from trivial) hS hM
  · refine qs_gr hS pl_51 ts_51 rfl ?_
    refine qs_gd (fun g1368 => ?_)
    refine qs_xt hS pl_62 ts_62 (Or.inl rfl) ei4 g1368 (fun b1367 r1367 => ?_)
    refine qs_yi (j := 0) hS hM qt_62 tq_62 r1367 k_0 (by decide) (fun v1369 h1369 => ?_)
    refine qs_ite (c_eq h1369 ei1) ?_ ?_
    · refine qs_ite (c_eq ei3 ei2) ?_ ?_
      · exact qs_tp1 (show vi _ _ from ei4) hS hM
      · exact qs_tk ⟨_, _, _, _, _, rfl, ei1, ei2, (p_add ei3 k_1), (p_add ei4 k_1), hS, hM⟩
    · exact qs_tk ⟨_, _, _, _, _, rfl, ei1, ei2, ei3, (p_add ei4 k_1), hS, hM⟩
theorem qz_X2_findRing_L5 (n : Nat) : ∀ {P : Nat → Nat} {S : zm_S} {M : qm} {i1 : Int32} {qi1 : Int} {i2 : Int32} {qi2 : Int} {i3 : Int32} {qi3 : Int} {i4 : Int32} {qi4 : Int} (hS : Sh L xs P S) (hM : qM P S = M) (ei1 : i1.toInt = qi1) (ei2 : i2.toInt = qi2) (ei3 : i3.toInt = qi3) (ei4 : i4.toInt = qi4), qs (zf_X2_findRing_L5 20000 n 51 i1 i2 i3 i4 S) (qf_X2_findRing_L5 20000 n qi1 qi2 qi3 qi4 M) (tO (vs (rp L xs P M vi) (rp L xs P M vu))) := by
  induction n with
  | zero =>
    intros
    exact qs_none
  | succ n ih =>
    intro P S M i1 qi1 i2 qi2 i3 qi3 i4 qi4 hS hM ei1 ei2 ei3 ei4
    unfold qf_X2_findRing_L5
    refine qs_loop (C := (qc_X2_findRing_L5 L xs P M (zf_X2_findRing_L5 20000 n))) (qz_X2_findRing_L5_b n hS hM ei1 ei2 ei3 ei4) ?_
    rintro x s ⟨_, _, _, _, _, rfl, u0, u1, u2, u3, hS2, hM2⟩
    exact ih hS2 hM2 u0 u1 u2 u3
set_option maxRecDepth 20000 in
theorem qz_X2_findRing {P : Nat → Nat} {S : zm_S} {M : qm} {i1 : Int32} {qi1 : Int} {i2 : Int32} {qi2 : Int} (hS : Sh L xs P S) (hM : qM P S = M) (ei1 : i1.toInt = qi1) (ei2 : i2.toInt = qi2) : qs (zf_X2_findRing 20000 51 i1 i2 S) (qf_X2_findRing 20000 qi1 qi2 M) (tO (rp L xs P M vi)) := by
  unfold zf_X2_findRing qf_X2_findRing
  refine qs_lp (qz_X2_findRing_L5 20000 hS hM ei1 ei2 k_0 k_0) ?_ ?_
  · intro v1371 S1371 w1371 h1371 hS1371 hM1371
    dsimp only
    exact qs_tp h1371 hS1371 hM1371
  · intro v1371 S1371 w1371 h1371 hS1371 hM1371
    dsimp only
    exact qs_tp (show vi _ _ from k_m1) hS1371 hM1371
set_option maxRecDepth 20000 in
theorem qz_X2_sidesOf {P : Nat → Nat} {S : zm_S} {M : qm} {i1 : Int32} {qi1 : Int} {i2 : Int32} {qi2 : Int} (hS : Sh L xs P S) (hM : qM P S = M) (ei1 : i1.toInt = qi1) (ei2 : i2.toInt = qi2) : qs (zf_X2_sidesOf 20000 51 i1 i2 S) (qf_X2_sidesOf 20000 qi1 qi2 M) (tO (rp L xs P M vi)) := by
  unfold zf_X2_sidesOf qf_X2_sidesOf
  refine qs_zi hS pl_51 ts_51 ?_
  refine qs_bp (qz_X2_findRing hS hM ei1 ei2) (fun v1373 S1373 w1373 h1373 hS1373 hM1373 => ?_)
  refine qs_ite (c_eq h1373 k_m1) ?_ ?_
  · exact qs_tp (show vi _ _ from k_0) hS1373 hM1373
  · refine qs_gr hS1373 pl_51 ts_51 rfl ?_
    refine qs_gd (fun g1376 => ?_)
    refine qs_xt hS1373 pl_62 ts_62 (Or.inl rfl) h1373 g1376 (fun b1375 r1375 => ?_)
    refine qs_yi (j := 2) hS1373 hM1373 qt_62 tq_62 r1375 k_2 (by decide) (fun v1377 h1377 => ?_)
    exact qs_tp (show vi _ _ from h1377) hS1373 hM1373
set_option maxRecDepth 20000 in
theorem qz_X11_sides_J17 {P : Nat → Nat} {S : zm_S} {M : qm} {i1 : Int32} {qi1 : Int} {i2 : Int32} {qi2 : Int} {t0 : Int32} {qt0 : Int} (hS : Sh L xs P S) (hM : qM P S = M) (ei1 : i1.toInt = qi1) (ei2 : i2.toInt = qi2) (et0 : t0.toInt = qt0) : qs (zf_X11_sides_J17 20000 6 i1 i2 t0 S) (qf_X11_sides_J17 20000 qi1 qi2 qt0 M) (tO (rp L xs P M (vs vi ve))) := by
  unfold zf_X11_sides_J17 qf_X11_sides_J17
  refine qs_xp (qz_X11_needArgument hS hM et0) ?_ ?_
  · intro v1379 S1379 w1379 h1379 hS1379 hM1379
    dsimp only
    refine qs_gr hS1379 pl_6 ts_6 rfl ?_
    refine qs_gi hS1379 hM1379 pl_51 ts_51 (z := 2) rfl rfl (fun v1381 h1381 => ?_)
    refine qs_xp (qz_X11_needState hS1379 hM1379 h1381) ?_ ?_
    · intro v1383 S1383 w1383 h1383 hS1383 hM1383
      dsimp only
      refine qs_gr hS1383 pl_6 ts_6 rfl ?_
      refine qs_zi hS1383 pl_51 ts_51 ?_
      refine qs_bp (qz_X2_sidesOf hS1383 hM1383 ei1 ei2) (fun v1386 S1386 w1386 h1386 hS1386 hM1386 => ?_)
      exact qs_tp (show (vs vi ve) _ _ from h1386) hS1386 hM1386
    · intro v1383 S1383 hS1383 hM1383
      dsimp only
      exact qs_tp (show (vs vi ve) _ _ from rfl) hS1383 hM1383
  · intro v1379 S1379 hS1379 hM1379
    dsimp only
    exact qs_tp (show (vs vi ve) _ _ from rfl) hS1379 hM1379
set_option maxRecDepth 20000 in
theorem qz_X11_sides_J16 {P : Nat → Nat} {S : zm_S} {M : qm} {i1 : Int32} {qi1 : Int} {i2 : Int32} {qi2 : Int} (hS : Sh L xs P S) (hM : qM P S = M) (ei1 : i1.toInt = qi1) (ei2 : i2.toInt = qi2) : qs (zf_X11_sides_J16 20000 6 i1 i2 S) (qf_X11_sides_J16 20000 qi1 qi2 M) (tO (rp L xs P M (vs vi ve))) := by
  unfold zf_X11_sides_J16 qf_X11_sides_J16
  exact (qz_X11_sides_J17 hS hM ei1 ei2 k_0)
set_option maxRecDepth 20000 in
theorem qz_X11_sides {P : Nat → Nat} {S : zm_S} {M : qm} {i1 : Int32} {qi1 : Int} {i2 : Int32} {qi2 : Int} (hS : Sh L xs P S) (hM : qM P S = M) (ei1 : i1.toInt = qi1) (ei2 : i2.toInt = qi2) : qs (zf_X11_sides 20000 6 i1 i2 S) (qf_X11_sides 20000 qi1 qi2 M) (tO (rp L xs P M (vs vi ve))) := by
  unfold zf_X11_sides qf_X11_sides
  refine qs_zi hS pl_6 ts_6 ?_
  refine qs_bp (qz_X11_isSpace hS hM ei1) (fun v1388 S1388 w1388 h1388 hS1388 hM1388 => ?_)
  refine qs_ite (c_eq h1388 k_0) ?_ ?_
  · exact (qz_X11_sides_J16 hS1388 hM1388 ei1 ei2)
  · refine qs_ite (c_lt ei2 k_0) ?_ ?_
    · exact (qz_X11_sides_J16 hS1388 hM1388 ei1 ei2)
    · exact (qz_X11_sides_J17 hS1388 hM1388 ei1 ei2 k_1)
set_option maxRecDepth 20000 in
theorem qz_L_sides {P : Nat → Nat} {S : zm_S} {M : qm} {i1 : Int32} {qi1 : Int} {i2 : Int32} {qi2 : Int} (hS : Sh L xs P S) (hM : qM P S = M) (ei1 : i1.toInt = qi1) (ei2 : i2.toInt = qi2) : qs (zf_L_sides 20000 6 i1 i2 2332 S) (qf_L_sides 20000 qi1 qi2 M) (tO (rr L xs P vi)) := by
  unfold zf_L_sides qf_L_sides
  refine qs_zi hS pl_6 ts_6 ?_
  refine qs_xp (qz_X11_sides hS hM ei1 ei2) ?_ ?_
  · intro v1391 S1391 w1391 h1391 hS1391 hM1391
    dsimp only
    refine qs_sl hS1391 hM1391 (pa_p hS1391 pl_2332 ts_2332) k_0 (by decide) (p_64 h1391) (fun S1392 M1392 hS1392 hM1392 => ?_)
    exact qs_tr (show vi _ _ from k_0) hS1392 hM1392
  · intro v1391 S1391 hS1391 hM1391
    dsimp only
    refine qs_ite Iff.rfl ?_ ?_
    · exact qs_tr (show vi _ _ from k_1) hS1391 hM1391
    · refine qs_ite Iff.rfl ?_ ?_
      · exact qs_tr (show vi _ _ from k_2) hS1391 hM1391
      · exact qs_none
set_option maxRecDepth 20000 in
theorem qz_X16_isSpace {P : Nat → Nat} {S : zm_S} {M : qm} {i1 : Int32} {qi1 : Int} (hS : Sh L xs P S) (hM : qM P S = M) (ei1 : i1.toInt = qi1) : qs (zf_X16_isSpace 20000 2157 i1 S) (qf_X16_isSpace 20000 qi1 M) (tO (rp L xs P M vi)) := by
  unfold zf_X16_isSpace qf_X16_isSpace
  refine qs_gi hS hM pl_2157 ts_2157 (z := 9) rfl rfl (fun v1393 h1393 => ?_)
  refine qs_ite (c_eq h1393 k_0) ?_ ?_
  · exact qs_tp (show vi _ _ from k_0) hS hM
  · refine qs_ite (c_lt ei1 k_0) ?_ ?_
    · exact qs_tp (show vi _ _ from k_0) hS hM
    · refine qs_gi hS hM pl_2157 ts_2157 (z := 17) rfl rfl (fun v1394 h1394 => ?_)
      refine qs_ite (c_le h1394 ei1) ?_ ?_
      · exact qs_tp (show vi _ _ from k_0) hS hM
      · exact qs_tp (show vi _ _ from k_1) hS hM
set_option maxRecDepth 20000 in
theorem qz_X16_ringOf_L5_b (n : Nat) {P : Nat → Nat} {S : zm_S} {M : qm} {i1 : Int32} {qi1 : Int} {i2 : Int32} {qi2 : Int} {i3 : Int32} {qi3 : Int} {i4 : Int32} {qi4 : Int} (hS : Sh L xs P S) (hM : qM P S = M) (ei1 : i1.toInt = qi1) (ei2 : i2.toInt = qi2) (ei3 : i3.toInt = qi3) (ei4 : i4.toInt = qi4) : qs (zf_X16_ringOf_L5 20000 (n + 1) 2157 i1 i2 i3 i4 S) (qf_X16_ringOf_L5_b 20000 qi1 qi2 qi3 qi4 M) (tk (vs (rp L xs P M vi) (rp L xs P M vu)) (qc_X16_ringOf_L5 L xs P M (zf_X16_ringOf_L5 20000 n))) := by
  refine qs_eq (zf_X16_ringOf_L5.eq_2 ..) ?_
  unfold qf_X16_ringOf_L5_b
  refine qs_gi hS hM pl_2157 ts_2157 (z := 35) rfl rfl (fun v1395 h1395 => ?_)
  refine qs_ite (c_le h1395 ei4) ?_ ?_
  · exact qs_tp2 (show vu _ _ from trivial) hS hM
  · refine qs_zi hS pl_2157 ts_2157 ?_
    refine qs_bp (qz_X16_isSpace hS hM ei1) (fun v1397 S1397 w1397 h1397 hS1397 hM1397 => ?_)
    refine qs_ite (c_eq h1397 k_0) ?_ ?_
    · exact qs_tp2 (show vu _ _ from trivial) hS1397 hM1397
    · refine qs_ite (c_lt ei2 k_0) ?_ ?_
      · exact qs_tp2 (show vu _ _ from trivial) hS1397 hM1397
      · refine qs_gr hS1397 pl_2157 ts_2157 rfl ?_
        refine qs_gd (fun g1400 => ?_)
        refine qs_xi hM1397 (pa_p hS1397 pl_2180 ts_2180) ei4 g1400 (fun v1399 h1399 => ?_)
        refine qs_zi hS1397 pl_2157 ts_2157 ?_
        refine qs_bp (qz_X16_left hS1397 hM1397 h1399) (fun v1402 S1402 w1402 h1402 hS1402 hM1402 => ?_)
        refine qs_ite (c_eq h1402 ei1) ?_ ?_
        · refine qs_ite (c_eq ei3 k_0) ?_ ?_
          · exact qs_tp1 (show vi _ _ from ei4) hS1402 hM1402
          · exact qs_tk ⟨_, _, _, _, _, rfl, ei1, ei2, (p_addm ei3 k_m1), (p_add ei4 k_1), hS1402, hM1402⟩
        · exact qs_tk ⟨_, _, _, _, _, rfl, ei1, ei2, ei3, (p_add ei4 k_1), hS1402, hM1402⟩
theorem qz_X16_ringOf_L5 (n : Nat) : ∀ {P : Nat → Nat} {S : zm_S} {M : qm} {i1 : Int32} {qi1 : Int} {i2 : Int32} {qi2 : Int} {i3 : Int32} {qi3 : Int} {i4 : Int32} {qi4 : Int} (hS : Sh L xs P S) (hM : qM P S = M) (ei1 : i1.toInt = qi1) (ei2 : i2.toInt = qi2) (ei3 : i3.toInt = qi3) (ei4 : i4.toInt = qi4), qs (zf_X16_ringOf_L5 20000 n 2157 i1 i2 i3 i4 S) (qf_X16_ringOf_L5 20000 n qi1 qi2 qi3 qi4 M) (tO (vs (rp L xs P M vi) (rp L xs P M vu))) := by
  induction n with
  | zero =>
    intros
    exact qs_none
  | succ n ih =>
    intro P S M i1 qi1 i2 qi2 i3 qi3 i4 qi4 hS hM ei1 ei2 ei3 ei4
    unfold qf_X16_ringOf_L5
    refine qs_loop (C := (qc_X16_ringOf_L5 L xs P M (zf_X16_ringOf_L5 20000 n))) (qz_X16_ringOf_L5_b n hS hM ei1 ei2 ei3 ei4) ?_
    rintro x s ⟨_, _, _, _, _, rfl, u0, u1, u2, u3, hS2, hM2⟩
    exact ih hS2 hM2 u0 u1 u2 u3
set_option maxRecDepth 20000 in
theorem qz_X16_ringOf {P : Nat → Nat} {S : zm_S} {M : qm} {i1 : Int32} {qi1 : Int} {i2 : Int32} {qi2 : Int} (hS : Sh L xs P S) (hM : qM P S = M) (ei1 : i1.toInt = qi1) (ei2 : i2.toInt = qi2) : qs (zf_X16_ringOf 20000 2157 i1 i2 S) (qf_X16_ringOf 20000 qi1 qi2 M) (tO (rp L xs P M vi)) := by
  unfold zf_X16_ringOf qf_X16_ringOf
  refine qs_lp (qz_X16_ringOf_L5 20000 hS hM ei1 ei2 ei2 k_0) ?_ ?_
  · intro v1404 S1404 w1404 h1404 hS1404 hM1404
    dsimp only
    exact qs_tp h1404 hS1404 hM1404
  · intro v1404 S1404 w1404 h1404 hS1404 hM1404
    dsimp only
    exact qs_tp (show vi _ _ from k_m1) hS1404 hM1404
set_option maxRecDepth 20000 in
theorem qz_X16_sides {P : Nat → Nat} {S : zm_S} {M : qm} {i1 : Int32} {qi1 : Int} {i2 : Int32} {qi2 : Int} (hS : Sh L xs P S) (hM : qM P S = M) (ei1 : i1.toInt = qi1) (ei2 : i2.toInt = qi2) : qs (zf_X16_sides 20000 2157 i1 i2 S) (qf_X16_sides 20000 qi1 qi2 M) (tO (rp L xs P M vi)) := by
  unfold zf_X16_sides qf_X16_sides
  refine qs_zi hS pl_2157 ts_2157 ?_
  refine qs_bp (qz_X16_ringOf hS hM ei1 ei2) (fun v1406 S1406 w1406 h1406 hS1406 hM1406 => ?_)
  refine qs_ite (c_le k_0 h1406) ?_ ?_
  · refine qs_gr hS1406 pl_2157 ts_2157 rfl ?_
    refine qs_gd (fun g1409 => ?_)
    refine qs_xi hM1406 (pa_p hS1406 pl_2181 ts_2181) h1406 g1409 (fun v1408 h1408 => ?_)
    exact qs_tp (show vi _ _ from h1408) hS1406 hM1406
  · exact qs_tp (show vi _ _ from k_0) hS1406 hM1406
set_option maxRecDepth 20000 in
theorem qz_X18_sides_J21 {P : Nat → Nat} {S : zm_S} {M : qm} {i1 : Int32} {qi1 : Int} {i2 : Int32} {qi2 : Int} {t1 : Int32} {qt1 : Int} (hS : Sh L xs P S) (hM : qM P S = M) (ei1 : i1.toInt = qi1) (ei2 : i2.toInt = qi2) (et1 : t1.toInt = qt1) : qs (zf_X18_sides_J21 20000 2156 i1 i2 2156 t1 S) (qf_X18_sides_J21 20000 qi1 qi2 qt1 M) (tO (rr L xs P vi)) := by
  unfold zf_X18_sides_J21 qf_X18_sides_J21
  refine qs_gr hS pl_2156 ts_2156 rfl ?_
  refine qs_gi hS hM pl_2157 ts_2157 (z := 10) rfl rfl (fun v1411 h1411 => ?_)
  refine qs_zi hS pl_2156 ts_2156 ?_
  refine qs_b (qz_X18_goes hS hM et1 h1411) (fun v1413 S1413 w1413 M1413 h1413 hS1413 hM1413 => ?_)
  refine qs_ite (c_eq h1413 k_0) ?_ ?_
  · exact qs_tr (show vi _ _ from k_0) hS1413 hM1413
  · refine qs_gr hS1413 pl_2156 ts_2156 rfl ?_
    refine qs_zi hS1413 pl_2157 ts_2157 ?_
    refine qs_bp (qz_X16_sides hS1413 hM1413 ei1 ei2) (fun v1416 S1416 w1416 h1416 hS1416 hM1416 => ?_)
    exact qs_tr (show vi _ _ from h1416) hS1416 hM1416
set_option maxRecDepth 20000 in
theorem qz_X18_sides_J20 {P : Nat → Nat} {S : zm_S} {M : qm} {i1 : Int32} {qi1 : Int} {i2 : Int32} {qi2 : Int} (hS : Sh L xs P S) (hM : qM P S = M) (ei1 : i1.toInt = qi1) (ei2 : i2.toInt = qi2) : qs (zf_X18_sides_J20 20000 2156 i1 i2 2156 S) (qf_X18_sides_J20 20000 qi1 qi2 M) (tO (rr L xs P vi)) := by
  unfold zf_X18_sides_J20 qf_X18_sides_J20
  exact (qz_X18_sides_J21 hS hM ei1 ei2 k_0)
set_option maxRecDepth 20000 in
theorem qz_X18_sides {P : Nat → Nat} {S : zm_S} {M : qm} {i1 : Int32} {qi1 : Int} {i2 : Int32} {qi2 : Int} (hS : Sh L xs P S) (hM : qM P S = M) (ei1 : i1.toInt = qi1) (ei2 : i2.toInt = qi2) : qs (zf_X18_sides 20000 2156 i1 i2 S) (qf_X18_sides 20000 qi1 qi2 M) (tO (rr L xs P vi)) := by
  unfold zf_X18_sides qf_X18_sides
  refine qs_gr hS pl_2156 ts_2156 rfl ?_
  refine qs_zi hS pl_2157 ts_2157 ?_
  refine qs_bp (qz_X16_isSpace hS hM ei1) (fun v1419 S1419 w1419 h1419 hS1419 hM1419 => ?_)
  refine qs_ite (c_eq h1419 k_0) ?_ ?_
  · exact (qz_X18_sides_J20 hS1419 hM1419 ei1 ei2)
  · refine qs_ite (c_lt ei2 k_0) ?_ ?_
    · exact (qz_X18_sides_J20 hS1419 hM1419 ei1 ei2)
    · exact (qz_X18_sides_J21 hS1419 hM1419 ei1 ei2 k_1)
set_option maxRecDepth 20000 in
theorem qz_X2_sideOf {P : Nat → Nat} {S : zm_S} {M : qm} {i1 : Int32} {qi1 : Int} {i2 : Int32} {qi2 : Int} {i3 : Int32} {qi3 : Int} {i4 : Int32} {qi4 : Int} (hS : Sh L xs P S) (hM : qM P S = M) (ei1 : i1.toInt = qi1) (ei2 : i2.toInt = qi2) (ei3 : i3.toInt = qi3) (ei4 : i4.toInt = qi4) : qs (zf_X2_sideOf 20000 51 i1 i2 i3 i4 S) (qf_X2_sideOf 20000 qi1 qi2 qi3 qi4 M) (tO (rp L xs P M vi)) := by
  unfold zf_X2_sideOf qf_X2_sideOf
  refine qs_zi hS pl_51 ts_51 ?_
  refine qs_bp (qz_X2_findRing hS hM ei1 ei2) (fun v1421 S1421 w1421 h1421 hS1421 hM1421 => ?_)
  refine qs_ite (c_eq h1421 k_m1) ?_ ?_
  · exact qs_tp (show vi _ _ from k_m1) hS1421 hM1421
  · refine qs_gr hS1421 pl_51 ts_51 rfl ?_
    refine qs_gr hS1421 pl_51 ts_51 rfl ?_
    refine qs_gd (fun g1425 => ?_)
    refine qs_xt hS1421 pl_62 ts_62 (Or.inl rfl) h1421 g1425 (fun b1424 r1424 => ?_)
    refine qs_yi (j := 1) hS1421 hM1421 qt_62 tq_62 r1424 k_1 (by decide) (fun v1426 h1426 => ?_)
    refine qs_gd (fun g1428 => ?_)
    refine qs_xt hS1421 pl_283 ts_283 (Or.inl rfl) (p_add h1426 ei3) g1428 (fun b1427 r1427 => ?_)
    refine qs_gd (fun g1430 => ?_)
    refine qs_yi hS1421 hM1421 qt_283 tq_283 r1427 ei4 g1430 (fun v1429 h1429 => ?_)
    exact qs_tp (show vi _ _ from h1429) hS1421 hM1421
set_option maxRecDepth 20000 in
theorem qz_X11_side_J44 {P : Nat → Nat} {S : zm_S} {M : qm} {i1 : Int32} {qi1 : Int} {i2 : Int32} {qi2 : Int} {i3 : Int32} {qi3 : Int} {i4 : Int32} {qi4 : Int} {t0 : Int32} {qt0 : Int} (hS : Sh L xs P S) (hM : qM P S = M) (ei1 : i1.toInt = qi1) (ei2 : i2.toInt = qi2) (ei3 : i3.toInt = qi3) (ei4 : i4.toInt = qi4) (et0 : t0.toInt = qt0) : qs (zf_X11_side_J44 20000 6 i1 i2 i3 i4 t0 S) (qf_X11_side_J44 20000 qi1 qi2 qi3 qi4 qt0 M) (tO (rp L xs P M (vs vi ve))) := by
  unfold zf_X11_side_J44 qf_X11_side_J44
  refine qs_xp (qz_X11_needArgument hS hM et0) ?_ ?_
  · intro v1432 S1432 w1432 h1432 hS1432 hM1432
    dsimp only
    refine qs_gr hS1432 pl_6 ts_6 rfl ?_
    refine qs_gi hS1432 hM1432 pl_51 ts_51 (z := 2) rfl rfl (fun v1434 h1434 => ?_)
    refine qs_xp (qz_X11_needState hS1432 hM1432 h1434) ?_ ?_
    · intro v1436 S1436 w1436 h1436 hS1436 hM1436
      dsimp only
      refine qs_gr hS1436 pl_6 ts_6 rfl ?_
      refine qs_zi hS1436 pl_51 ts_51 ?_
      refine qs_bp (qz_X2_sideOf hS1436 hM1436 ei1 ei2 ei3 ei4) (fun v1439 S1439 w1439 h1439 hS1439 hM1439 => ?_)
      exact qs_tp (show (vs vi ve) _ _ from h1439) hS1439 hM1439
    · intro v1436 S1436 hS1436 hM1436
      dsimp only
      exact qs_tp (show (vs vi ve) _ _ from rfl) hS1436 hM1436
  · intro v1432 S1432 hS1432 hM1432
    dsimp only
    exact qs_tp (show (vs vi ve) _ _ from rfl) hS1432 hM1432
set_option maxRecDepth 20000 in
theorem qz_X11_side_J43 {P : Nat → Nat} {S : zm_S} {M : qm} {i1 : Int32} {qi1 : Int} {i2 : Int32} {qi2 : Int} {i3 : Int32} {qi3 : Int} {i4 : Int32} {qi4 : Int} (hS : Sh L xs P S) (hM : qM P S = M) (ei1 : i1.toInt = qi1) (ei2 : i2.toInt = qi2) (ei3 : i3.toInt = qi3) (ei4 : i4.toInt = qi4) : qs (zf_X11_side_J43 20000 6 i1 i2 i3 i4 S) (qf_X11_side_J43 20000 qi1 qi2 qi3 qi4 M) (tO (rp L xs P M (vs vi ve))) := by
  unfold zf_X11_side_J43 qf_X11_side_J43
  exact (qz_X11_side_J44 hS hM ei1 ei2 ei3 ei4 k_0)
set_option maxRecDepth 20000 in
theorem qz_X11_side {P : Nat → Nat} {S : zm_S} {M : qm} {i1 : Int32} {qi1 : Int} {i2 : Int32} {qi2 : Int} {i3 : Int32} {qi3 : Int} {i4 : Int32} {qi4 : Int} (hS : Sh L xs P S) (hM : qM P S = M) (ei1 : i1.toInt = qi1) (ei2 : i2.toInt = qi2) (ei3 : i3.toInt = qi3) (ei4 : i4.toInt = qi4) : qs (zf_X11_side 20000 6 i1 i2 i3 i4 S) (qf_X11_side 20000 qi1 qi2 qi3 qi4 M) (tO (rp L xs P M (vs vi ve))) := by
  unfold zf_X11_side qf_X11_side
  refine qs_zi hS pl_6 ts_6 ?_
  refine qs_bp (qz_X11_isSpace hS hM ei1) (fun v1441 S1441 w1441 h1441 hS1441 hM1441 => ?_)
  refine qs_ite (c_eq h1441 k_0) ?_ ?_
  · exact (qz_X11_side_J43 hS1441 hM1441 ei1 ei2 ei3 ei4)
  · refine qs_ite (c_lt ei2 k_0) ?_ ?_
    · exact (qz_X11_side_J43 hS1441 hM1441 ei1 ei2 ei3 ei4)
    · refine qs_ite (c_lt ei3 k_0) ?_ ?_
      · exact (qz_X11_side_J43 hS1441 hM1441 ei1 ei2 ei3 ei4)
      · refine qs_gr hS1441 pl_6 ts_6 rfl ?_
        refine qs_zi hS1441 pl_51 ts_51 ?_
        refine qs_bp (qz_X2_sidesOf hS1441 hM1441 ei1 ei2) (fun v1444 S1444 w1444 h1444 hS1444 hM1444 => ?_)
        refine qs_ite (c_le h1444 ei3) ?_ ?_
        · exact (qz_X11_side_J43 hS1444 hM1444 ei1 ei2 ei3 ei4)
        · refine qs_bp (qz_X11_isWithin hS1444 hM1444 ei4 k_0 k_5) (fun v1445 S1445 w1445 h1445 hS1445 hM1445 => ?_)
          refine qs_ite (c_eq h1445 k_0) ?_ ?_
          · exact (qz_X11_side_J43 hS1445 hM1445 ei1 ei2 ei3 ei4)
          · exact (qz_X11_side_J44 hS1445 hM1445 ei1 ei2 ei3 ei4 k_1)
set_option maxRecDepth 20000 in
theorem qz_L_side {P : Nat → Nat} {S : zm_S} {M : qm} {i1 : Int32} {qi1 : Int} {i2 : Int32} {qi2 : Int} {i3 : Int32} {qi3 : Int} {i4 : Int32} {qi4 : Int} (hS : Sh L xs P S) (hM : qM P S = M) (ei1 : i1.toInt = qi1) (ei2 : i2.toInt = qi2) (ei3 : i3.toInt = qi3) (ei4 : i4.toInt = qi4) : qs (zf_L_side 20000 6 i1 i2 i3 i4 2332 S) (qf_L_side 20000 qi1 qi2 qi3 qi4 M) (tO (rr L xs P vi)) := by
  unfold zf_L_side qf_L_side
  refine qs_zi hS pl_6 ts_6 ?_
  refine qs_xp (qz_X11_side hS hM ei1 ei2 ei3 ei4) ?_ ?_
  · intro v1448 S1448 w1448 h1448 hS1448 hM1448
    dsimp only
    refine qs_sl hS1448 hM1448 (pa_p hS1448 pl_2332 ts_2332) k_0 (by decide) (p_64 h1448) (fun S1449 M1449 hS1449 hM1449 => ?_)
    exact qs_tr (show vi _ _ from k_0) hS1449 hM1449
  · intro v1448 S1448 hS1448 hM1448
    dsimp only
    refine qs_ite Iff.rfl ?_ ?_
    · exact qs_tr (show vi _ _ from k_1) hS1448 hM1448
    · refine qs_ite Iff.rfl ?_ ?_
      · exact qs_tr (show vi _ _ from k_2) hS1448 hM1448
      · exact qs_none
set_option maxRecDepth 20000 in
theorem qz_X16_side_L16_b (n : Nat) {P : Nat → Nat} {S : zm_S} {M : qm} {i3 : Int32} {qi3 : Int} {i4 : Int32} {qi4 : Int} {i5 : Int32} {qi5 : Int} {i6 : Int32} {qi6 : Int} (hS : Sh L xs P S) (hM : qM P S = M) (ei3 : i3.toInt = qi3) (ei4 : i4.toInt = qi4) (ei5 : i5.toInt = qi5) (ei6 : i6.toInt = qi6) : qs (zf_X16_side_L16 20000 (n + 1) 2157 i3 i4 i5 i6 S) (qf_X16_side_L16_b 20000 qi3 qi4 qi5 qi6 M) (tk (vs (rp L xs P M vi) (rp L xs P M vi)) (qc_X16_side_L16 L xs P M (zf_X16_side_L16 20000 n))) := by
  refine qs_eq (zf_X16_side_L16.eq_2 ..) ?_
  unfold qf_X16_side_L16_b
  refine qs_ite (c_le ei3 ei6) ?_ ?_
  · exact qs_tp2 (show vi _ _ from ei5) hS hM
  · refine qs_zi hS pl_2157 ts_2157 ?_
    refine qs_bp (qz_X16_next hS hM ei5) (fun v1451 S1451 w1451 h1451 hS1451 hM1451 => ?_)
    exact qs_tk ⟨_, _, _, _, _, rfl, ei3, ei4, h1451, (p_add ei6 k_1), hS1451, hM1451⟩
theorem qz_X16_side_L16 (n : Nat) : ∀ {P : Nat → Nat} {S : zm_S} {M : qm} {i3 : Int32} {qi3 : Int} {i4 : Int32} {qi4 : Int} {i5 : Int32} {qi5 : Int} {i6 : Int32} {qi6 : Int} (hS : Sh L xs P S) (hM : qM P S = M) (ei3 : i3.toInt = qi3) (ei4 : i4.toInt = qi4) (ei5 : i5.toInt = qi5) (ei6 : i6.toInt = qi6), qs (zf_X16_side_L16 20000 n 2157 i3 i4 i5 i6 S) (qf_X16_side_L16 20000 n qi3 qi4 qi5 qi6 M) (tO (vs (rp L xs P M vi) (rp L xs P M vi))) := by
  induction n with
  | zero =>
    intros
    exact qs_none
  | succ n ih =>
    intro P S M i3 qi3 i4 qi4 i5 qi5 i6 qi6 hS hM ei3 ei4 ei5 ei6
    unfold qf_X16_side_L16
    refine qs_loop (C := (qc_X16_side_L16 L xs P M (zf_X16_side_L16 20000 n))) (qz_X16_side_L16_b n hS hM ei3 ei4 ei5 ei6) ?_
    rintro x s ⟨_, _, _, _, _, rfl, u0, u1, u2, u3, hS2, hM2⟩
    exact ih hS2 hM2 u0 u1 u2 u3
set_option maxRecDepth 20000 in
theorem qz_X16_right {P : Nat → Nat} {S : zm_S} {M : qm} {i1 : Int32} {qi1 : Int} (hS : Sh L xs P S) (hM : qM P S = M) (ei1 : i1.toInt = qi1) : qs (zf_X16_right 20000 2157 i1 S) (qf_X16_right 20000 qi1 M) (tO (rp L xs P M vi)) := by
  unfold zf_X16_right qf_X16_right
  refine qs_ite (c_eq (p_mod ei1 k_2) k_0) ?_ ?_
  · refine qs_zi hS pl_2157 ts_2157 ?_
    refine qs_bp (qz_X16_left hS hM (p_add ei1 k_1)) (fun v1453 S1453 w1453 h1453 hS1453 hM1453 => ?_)
    exact qs_tp (show vi _ _ from h1453) hS1453 hM1453
  · refine qs_zi hS pl_2157 ts_2157 ?_
    refine qs_bp (qz_X16_left hS hM (p_sub ei1 k_1)) (fun v1455 S1455 w1455 h1455 hS1455 hM1455 => ?_)
    exact qs_tp (show vi _ _ from h1455) hS1455 hM1455
set_option maxRecDepth 20000 in
theorem qz_X16_side {P : Nat → Nat} {S : zm_S} {M : qm} {i1 : Int32} {qi1 : Int} {i2 : Int32} {qi2 : Int} {i3 : Int32} {qi3 : Int} {i4 : Int32} {qi4 : Int} (hS : Sh L xs P S) (hM : qM P S = M) (ei1 : i1.toInt = qi1) (ei2 : i2.toInt = qi2) (ei3 : i3.toInt = qi3) (ei4 : i4.toInt = qi4) : qs (zf_X16_side 20000 2157 i1 i2 i3 i4 S) (qf_X16_side 20000 qi1 qi2 qi3 qi4 M) (tO (rp L xs P M vi)) := by
  unfold zf_X16_side qf_X16_side
  refine qs_gr hS pl_2157 ts_2157 rfl ?_
  refine qs_zi hS pl_2157 ts_2157 ?_
  refine qs_bp (qz_X16_ringOf hS hM ei1 ei2) (fun v1458 S1458 w1458 h1458 hS1458 hM1458 => ?_)
  refine qs_gd (fun g1460 => ?_)
  refine qs_xi hM1458 (pa_p hS1458 pl_2180 ts_2180) h1458 g1460 (fun v1459 h1459 => ?_)
  refine qs_lp (qz_X16_side_L16 20000 hS1458 hM1458 ei3 ei4 h1459 k_0) ?_ ?_
  · intro v1462 S1462 w1462 h1462 hS1462 hM1462
    dsimp only
    exact qs_tp h1462 hS1462 hM1462
  · intro v1462 S1462 w1462 h1462 hS1462 hM1462
    dsimp only
    refine qs_ite (z_eq ei4) ?_ ?_
    · refine qs_gr hS1462 pl_2157 ts_2157 rfl ?_
      refine qs_gd (fun g1465 => ?_)
      refine qs_xi hM1462 (pa_p hS1462 pl_2176 ts_2176) (p_div h1462 k_2 (by decide)) g1465 (fun v1464 h1464 => ?_)
      exact qs_tp (show vi _ _ from h1464) hS1462 hM1462
    · refine qs_ite (z_eq ei4) ?_ ?_
      · refine qs_gr hS1462 pl_2157 ts_2157 rfl ?_
        refine qs_zi hS1462 pl_2157 ts_2157 ?_
        refine qs_bp (qz_X16_sideFrom hS1462 hM1462 h1462) (fun v1468 S1468 w1468 h1468 hS1468 hM1468 => ?_)
        refine qs_gd (fun g1470 => ?_)
        refine qs_xi hM1468 (pa_p hS1468 pl_2174 ts_2174) h1468 g1470 (fun v1469 h1469 => ?_)
        exact qs_tp (show vi _ _ from h1469) hS1468 hM1468
      · refine qs_ite (z_eq ei4) ?_ ?_
        · refine qs_gr hS1462 pl_2157 ts_2157 rfl ?_
          refine qs_zi hS1462 pl_2157 ts_2157 ?_
          refine qs_bp (qz_X16_sideFrom hS1462 hM1462 h1462) (fun v1473 S1473 w1473 h1473 hS1473 hM1473 => ?_)
          refine qs_gd (fun g1475 => ?_)
          refine qs_xi hM1473 (pa_p hS1473 pl_2175 ts_2175) h1473 g1475 (fun v1474 h1474 => ?_)
          exact qs_tp (show vi _ _ from h1474) hS1473 hM1473
        · refine qs_ite (z_eq ei4) ?_ ?_
          · refine qs_gr hS1462 pl_2157 ts_2157 rfl ?_
            refine qs_zi hS1462 pl_2157 ts_2157 ?_
            refine qs_bp (qz_X16_sideTo hS1462 hM1462 h1462) (fun v1478 S1478 w1478 h1478 hS1478 hM1478 => ?_)
            refine qs_gd (fun g1480 => ?_)
            refine qs_xi hM1478 (pa_p hS1478 pl_2174 ts_2174) h1478 g1480 (fun v1479 h1479 => ?_)
            exact qs_tp (show vi _ _ from h1479) hS1478 hM1478
          · refine qs_ite (z_eq ei4) ?_ ?_
            · refine qs_gr hS1462 pl_2157 ts_2157 rfl ?_
              refine qs_zi hS1462 pl_2157 ts_2157 ?_
              refine qs_bp (qz_X16_sideTo hS1462 hM1462 h1462) (fun v1483 S1483 w1483 h1483 hS1483 hM1483 => ?_)
              refine qs_gd (fun g1485 => ?_)
              refine qs_xi hM1483 (pa_p hS1483 pl_2175 ts_2175) h1483 g1485 (fun v1484 h1484 => ?_)
              exact qs_tp (show vi _ _ from h1484) hS1483 hM1483
            · refine qs_zi hS1462 pl_2157 ts_2157 ?_
              refine qs_bp (qz_X16_right hS1462 hM1462 h1462) (fun v1487 S1487 w1487 h1487 hS1487 hM1487 => ?_)
              exact qs_tp (show vi _ _ from h1487) hS1487 hM1487
set_option maxRecDepth 20000 in
theorem qz_X18_side_J47 {P : Nat → Nat} {S : zm_S} {M : qm} {i1 : Int32} {qi1 : Int} {i2 : Int32} {qi2 : Int} {i3 : Int32} {qi3 : Int} {i4 : Int32} {qi4 : Int} {t0 : Int32} {qt0 : Int} (hS : Sh L xs P S) (hM : qM P S = M) (ei1 : i1.toInt = qi1) (ei2 : i2.toInt = qi2) (ei3 : i3.toInt = qi3) (ei4 : i4.toInt = qi4) (et0 : t0.toInt = qt0) : qs (zf_X18_side_J47 20000 2156 i1 i2 i3 i4 t0 S) (qf_X18_side_J47 20000 qi1 qi2 qi3 qi4 qt0 M) (tO (rr L xs P vi)) := by
  unfold zf_X18_side_J47 qf_X18_side_J47
  refine qs_gr hS pl_2156 ts_2156 rfl ?_
  refine qs_gi hS hM pl_2157 ts_2157 (z := 10) rfl rfl (fun v1489 h1489 => ?_)
  refine qs_zi hS pl_2156 ts_2156 ?_
  refine qs_b (qz_X18_goes hS hM et0 h1489) (fun v1491 S1491 w1491 M1491 h1491 hS1491 hM1491 => ?_)
  refine qs_ite (c_eq h1491 k_0) ?_ ?_
  · exact qs_tr (show vi _ _ from k_0) hS1491 hM1491
  · refine qs_gr hS1491 pl_2156 ts_2156 rfl ?_
    refine qs_zi hS1491 pl_2157 ts_2157 ?_
    refine qs_bp (qz_X16_side hS1491 hM1491 ei1 ei2 ei3 ei4) (fun v1494 S1494 w1494 h1494 hS1494 hM1494 => ?_)
    exact qs_tr (show vi _ _ from h1494) hS1494 hM1494
set_option maxRecDepth 20000 in
theorem qz_X18_side_J46 {P : Nat → Nat} {S : zm_S} {M : qm} {i1 : Int32} {qi1 : Int} {i2 : Int32} {qi2 : Int} {i3 : Int32} {qi3 : Int} {i4 : Int32} {qi4 : Int} (hS : Sh L xs P S) (hM : qM P S = M) (ei1 : i1.toInt = qi1) (ei2 : i2.toInt = qi2) (ei3 : i3.toInt = qi3) (ei4 : i4.toInt = qi4) : qs (zf_X18_side_J46 20000 2156 i1 i2 i3 i4 S) (qf_X18_side_J46 20000 qi1 qi2 qi3 qi4 M) (tO (rr L xs P vi)) := by
  unfold zf_X18_side_J46 qf_X18_side_J46
  exact (qz_X18_side_J47 hS hM ei1 ei2 ei3 ei4 k_0)
set_option maxRecDepth 20000 in
theorem qz_X18_side {P : Nat → Nat} {S : zm_S} {M : qm} {i1 : Int32} {qi1 : Int} {i2 : Int32} {qi2 : Int} {i3 : Int32} {qi3 : Int} {i4 : Int32} {qi4 : Int} (hS : Sh L xs P S) (hM : qM P S = M) (ei1 : i1.toInt = qi1) (ei2 : i2.toInt = qi2) (ei3 : i3.toInt = qi3) (ei4 : i4.toInt = qi4) : qs (zf_X18_side 20000 2156 i1 i2 i3 i4 S) (qf_X18_side 20000 qi1 qi2 qi3 qi4 M) (tO (rr L xs P vi)) := by
  unfold zf_X18_side qf_X18_side
  refine qs_gr hS pl_2156 ts_2156 rfl ?_
  refine qs_zi hS pl_2157 ts_2157 ?_
  refine qs_bp (qz_X16_isSpace hS hM ei1) (fun v1497 S1497 w1497 h1497 hS1497 hM1497 => ?_)
  refine qs_ite (c_eq h1497 k_0) ?_ ?_
  · exact (qz_X18_side_J46 hS1497 hM1497 ei1 ei2 ei3 ei4)
  · refine qs_ite (c_lt ei2 k_0) ?_ ?_
    · exact (qz_X18_side_J46 hS1497 hM1497 ei1 ei2 ei3 ei4)
    · refine qs_ite (c_lt ei3 k_0) ?_ ?_
      · exact (qz_X18_side_J46 hS1497 hM1497 ei1 ei2 ei3 ei4)
      · refine qs_gr hS1497 pl_2156 ts_2156 rfl ?_
        refine qs_zi hS1497 pl_2157 ts_2157 ?_
        refine qs_bp (qz_X16_sides hS1497 hM1497 ei1 ei2) (fun v1500 S1500 w1500 h1500 hS1500 hM1500 => ?_)
        refine qs_ite (c_le h1500 ei3) ?_ ?_
        · exact (qz_X18_side_J46 hS1500 hM1500 ei1 ei2 ei3 ei4)
        · refine qs_bp (qz_X18_isIn hS1500 hM1500 ei4 k_6) (fun v1501 S1501 w1501 h1501 hS1501 hM1501 => ?_)
          refine qs_ite (c_eq h1501 k_0) ?_ ?_
          · exact (qz_X18_side_J46 hS1501 hM1501 ei1 ei2 ei3 ei4)
          · exact (qz_X18_side_J47 hS1501 hM1501 ei1 ei2 ei3 ei4 k_1)
set_option maxRecDepth 20000 in
theorem qz_X2_countRings_J30 {P : Nat → Nat} {S : zm_S} {M : qm} {i1 : Int32} {qi1 : Int} {i3 : Int32} {qi3 : Int} {t0 : Int32} {qt0 : Int} {t1 : Int32} {qt1 : Int} (hS : Sh L xs P S) (hM : qM P S = M) (ei1 : i1.toInt = qi1) (ei3 : i3.toInt = qi3) (et0 : t0.toInt = qt0) (et1 : t1.toInt = qt1) {k : Nat → Int32 → Int32 → Int32 → zm_S → Option ((Int32 × zm_S) ⊕ ((Int32) × zm_S))} : qs (zf_X2_countRings_J30 20000 k 51 i1 i3 t0 t1 S) (qf_X2_countRings_J30 20000 qi1 qi3 qt0 qt1 M) (tk (vs (rp L xs P M vi) (rp L xs P M vi)) (qc_X2_countRings_L4 L xs P M k)) := by
  unfold zf_X2_countRings_J30 qf_X2_countRings_J30
  exact qs_tk ⟨_, _, _, _, rfl, ei1, (p_add et0 et1), (p_add ei3 k_1), hS, hM⟩
set_option maxRecDepth 20000 in
theorem qz_X2_countRings_L4_b (n : Nat) {P : Nat → Nat} {S : zm_S} {M : qm} {i1 : Int32} {qi1 : Int} {i2 : Int32} {qi2 : Int} {i3 : Int32} {qi3 : Int} (hS : Sh L xs P S) (hM : qM P S = M) (ei1 : i1.toInt = qi1) (ei2 : i2.toInt = qi2) (ei3 : i3.toInt = qi3) : qs (zf_X2_countRings_L4 20000 (n + 1) 51 i1 i2 i3 S) (qf_X2_countRings_L4_b 20000 qi1 qi2 qi3 M) (tk (vs (rp L xs P M vi) (rp L xs P M vi)) (qc_X2_countRings_L4 L xs P M (zf_X2_countRings_L4 20000 n))) := by
  refine qs_eq (zf_X2_countRings_L4.eq_2 ..) ?_
  unfold qf_X2_countRings_L4_b
  refine qs_gi hS hM pl_51 ts_51 (z := 12) rfl rfl (fun v1502 h1502 => ?_)
  refine qs_ite (c_le h1502 ei3) ?_ ?_
  · exact qs_tp2 (show vi _ _ from ei2) hS hM
  · refine qs_gr hS pl_51 ts_51 rfl ?_
    refine qs_gd (fun g1505 => ?_)
    refine qs_xt hS pl_62 ts_62 (Or.inl rfl) ei3 g1505 (fun b1504 r1504 => ?_)
    refine qs_yi (j := 0) hS hM qt_62 tq_62 r1504 k_0 (by decide) (fun v1506 h1506 => ?_)
    refine qs_ite (c_eq h1506 ei1) ?_ ?_
    · exact (qz_X2_countRings_J30 hS hM ei1 ei3 ei2 k_1)
    · exact (qz_X2_countRings_J30 hS hM ei1 ei3 ei2 k_0)
theorem qz_X2_countRings_L4 (n : Nat) : ∀ {P : Nat → Nat} {S : zm_S} {M : qm} {i1 : Int32} {qi1 : Int} {i2 : Int32} {qi2 : Int} {i3 : Int32} {qi3 : Int} (hS : Sh L xs P S) (hM : qM P S = M) (ei1 : i1.toInt = qi1) (ei2 : i2.toInt = qi2) (ei3 : i3.toInt = qi3), qs (zf_X2_countRings_L4 20000 n 51 i1 i2 i3 S) (qf_X2_countRings_L4 20000 n qi1 qi2 qi3 M) (tO (vs (rp L xs P M vi) (rp L xs P M vi))) := by
  induction n with
  | zero =>
    intros
    exact qs_none
  | succ n ih =>
    intro P S M i1 qi1 i2 qi2 i3 qi3 hS hM ei1 ei2 ei3
    unfold qf_X2_countRings_L4
    refine qs_loop (C := (qc_X2_countRings_L4 L xs P M (zf_X2_countRings_L4 20000 n))) (qz_X2_countRings_L4_b n hS hM ei1 ei2 ei3) ?_
    rintro x s ⟨_, _, _, _, rfl, u0, u1, u2, hS2, hM2⟩
    exact ih hS2 hM2 u0 u1 u2
set_option maxRecDepth 20000 in
theorem qz_X2_countRings {P : Nat → Nat} {S : zm_S} {M : qm} {i1 : Int32} {qi1 : Int} (hS : Sh L xs P S) (hM : qM P S = M) (ei1 : i1.toInt = qi1) : qs (zf_X2_countRings 20000 51 i1 S) (qf_X2_countRings 20000 qi1 M) (tO (rp L xs P M vi)) := by
  unfold zf_X2_countRings qf_X2_countRings
  refine qs_lp (qz_X2_countRings_L4 20000 hS hM ei1 k_0 k_0) ?_ ?_
  · intro v1508 S1508 w1508 h1508 hS1508 hM1508
    dsimp only
    exact qs_tp h1508 hS1508 hM1508
  · intro v1508 S1508 w1508 h1508 hS1508 hM1508
    dsimp only
    exact qs_tp (show vi _ _ from h1508) hS1508 hM1508
set_option maxRecDepth 20000 in
theorem qz_X2_measureOf {P : Nat → Nat} {S : zm_S} {M : qm} {i1 : Int32} {qi1 : Int} {i2 : Int32} {qi2 : Int} (hS : Sh L xs P S) (hM : qM P S = M) (ei1 : i1.toInt = qi1) (ei2 : i2.toInt = qi2) : qs (zf_X2_measureOf 20000 51 i1 i2 S) (qf_X2_measureOf 20000 qi1 qi2 M) (tO (rp L xs P M vi)) := by
  unfold zf_X2_measureOf qf_X2_measureOf
  refine qs_ite (z_eq ei2) ?_ ?_
  · refine qs_gr hS pl_51 ts_51 rfl ?_
    refine qs_gd (fun g1511 => ?_)
    refine qs_xi hM (pa_p hS pl_60 ts_60) ei1 g1511 (fun v1510 h1510 => ?_)
    exact qs_tp (show vi _ _ from h1510) hS hM
  · refine qs_ite (z_eq ei2) ?_ ?_
    · refine qs_gr hS pl_51 ts_51 rfl ?_
      refine qs_gd (fun g1514 => ?_)
      refine qs_xi hM (pa_p hS pl_61 ts_61) ei1 g1514 (fun v1513 h1513 => ?_)
      exact qs_tp (show vi _ _ from h1513) hS hM
    · refine qs_zi hS pl_51 ts_51 ?_
      refine qs_bp (qz_X2_countRings hS hM ei1) (fun v1516 S1516 w1516 h1516 hS1516 hM1516 => ?_)
      exact qs_tp (show vi _ _ from h1516) hS1516 hM1516
set_option maxRecDepth 20000 in
theorem qz_X11_size_J22 {P : Nat → Nat} {S : zm_S} {M : qm} {i1 : Int32} {qi1 : Int} {i2 : Int32} {qi2 : Int} {t0 : Int32} {qt0 : Int} (hS : Sh L xs P S) (hM : qM P S = M) (ei1 : i1.toInt = qi1) (ei2 : i2.toInt = qi2) (et0 : t0.toInt = qt0) : qs (zf_X11_size_J22 20000 6 i1 i2 t0 S) (qf_X11_size_J22 20000 qi1 qi2 qt0 M) (tO (rp L xs P M (vs vi ve))) := by
  unfold zf_X11_size_J22 qf_X11_size_J22
  refine qs_xp (qz_X11_needArgument hS hM et0) ?_ ?_
  · intro v1518 S1518 w1518 h1518 hS1518 hM1518
    dsimp only
    refine qs_gr hS1518 pl_6 ts_6 rfl ?_
    refine qs_gi hS1518 hM1518 pl_51 ts_51 (z := 2) rfl rfl (fun v1520 h1520 => ?_)
    refine qs_xp (qz_X11_needState hS1518 hM1518 h1520) ?_ ?_
    · intro v1522 S1522 w1522 h1522 hS1522 hM1522
      dsimp only
      refine qs_gr hS1522 pl_6 ts_6 rfl ?_
      refine qs_zi hS1522 pl_51 ts_51 ?_
      refine qs_bp (qz_X2_measureOf hS1522 hM1522 ei1 ei2) (fun v1525 S1525 w1525 h1525 hS1525 hM1525 => ?_)
      exact qs_tp (show (vs vi ve) _ _ from h1525) hS1525 hM1525
    · intro v1522 S1522 hS1522 hM1522
      dsimp only
      exact qs_tp (show (vs vi ve) _ _ from rfl) hS1522 hM1522
  · intro v1518 S1518 hS1518 hM1518
    dsimp only
    exact qs_tp (show (vs vi ve) _ _ from rfl) hS1518 hM1518
set_option maxRecDepth 20000 in
theorem qz_X11_size_J21 {P : Nat → Nat} {S : zm_S} {M : qm} {i1 : Int32} {qi1 : Int} {i2 : Int32} {qi2 : Int} (hS : Sh L xs P S) (hM : qM P S = M) (ei1 : i1.toInt = qi1) (ei2 : i2.toInt = qi2) : qs (zf_X11_size_J21 20000 6 i1 i2 S) (qf_X11_size_J21 20000 qi1 qi2 M) (tO (rp L xs P M (vs vi ve))) := by
  unfold zf_X11_size_J21 qf_X11_size_J21
  exact (qz_X11_size_J22 hS hM ei1 ei2 k_0)
set_option maxRecDepth 20000 in
theorem qz_X11_size {P : Nat → Nat} {S : zm_S} {M : qm} {i1 : Int32} {qi1 : Int} {i2 : Int32} {qi2 : Int} (hS : Sh L xs P S) (hM : qM P S = M) (ei1 : i1.toInt = qi1) (ei2 : i2.toInt = qi2) : qs (zf_X11_size 20000 6 i1 i2 S) (qf_X11_size 20000 qi1 qi2 M) (tO (rp L xs P M (vs vi ve))) := by
  unfold zf_X11_size qf_X11_size
  refine qs_zi hS pl_6 ts_6 ?_
  refine qs_bp (qz_X11_isSpace hS hM ei1) (fun v1527 S1527 w1527 h1527 hS1527 hM1527 => ?_)
  refine qs_ite (c_eq h1527 k_0) ?_ ?_
  · exact (qz_X11_size_J21 hS1527 hM1527 ei1 ei2)
  · refine qs_bp (qz_X11_isWithin hS1527 hM1527 ei2 k_0 k_2) (fun v1528 S1528 w1528 h1528 hS1528 hM1528 => ?_)
    refine qs_ite (c_eq h1528 k_0) ?_ ?_
    · exact (qz_X11_size_J21 hS1528 hM1528 ei1 ei2)
    · exact (qz_X11_size_J22 hS1528 hM1528 ei1 ei2 k_1)
set_option maxRecDepth 20000 in
theorem qz_L_size {P : Nat → Nat} {S : zm_S} {M : qm} {i1 : Int32} {qi1 : Int} {i2 : Int32} {qi2 : Int} (hS : Sh L xs P S) (hM : qM P S = M) (ei1 : i1.toInt = qi1) (ei2 : i2.toInt = qi2) : qs (zf_L_size 20000 6 i1 i2 2332 S) (qf_L_size 20000 qi1 qi2 M) (tO (rr L xs P vi)) := by
  unfold zf_L_size qf_L_size
  refine qs_zi hS pl_6 ts_6 ?_
  refine qs_xp (qz_X11_size hS hM ei1 ei2) ?_ ?_
  · intro v1531 S1531 w1531 h1531 hS1531 hM1531
    dsimp only
    refine qs_sl hS1531 hM1531 (pa_p hS1531 pl_2332 ts_2332) k_0 (by decide) (p_64 h1531) (fun S1532 M1532 hS1532 hM1532 => ?_)
    exact qs_tr (show vi _ _ from k_0) hS1532 hM1532
  · intro v1531 S1531 hS1531 hM1531
    dsimp only
    refine qs_ite Iff.rfl ?_ ?_
    · exact qs_tr (show vi _ _ from k_1) hS1531 hM1531
    · refine qs_ite Iff.rfl ?_ ?_
      · exact qs_tr (show vi _ _ from k_2) hS1531 hM1531
      · exact qs_none
set_option maxRecDepth 20000 in
theorem qz_X16_size_J83 {P : Nat → Nat} {S : zm_S} {M : qm} {i1 : Int32} {qi1 : Int} {i2 : Int32} {qi2 : Int} {i4 : Int32} {qi4 : Int} {i5 : Int32} {qi5 : Int} {t0 : Int32} {qt0 : Int} {t1 : Int32} {qt1 : Int} (hS : Sh L xs P S) (hM : qM P S = M) (ei1 : i1.toInt = qi1) (ei2 : i2.toInt = qi2) (ei4 : i4.toInt = qi4) (ei5 : i5.toInt = qi5) (et0 : t0.toInt = qt0) (et1 : t1.toInt = qt1) {k : Nat → Int32 → Int32 → Int32 → Int32 → Int32 → zm_S → Option ((Int32 × zm_S) ⊕ ((Int32) × zm_S))} : qs (zf_X16_size_J83 20000 k 2157 i1 i2 i4 i5 t0 t1 S) (qf_X16_size_J83 20000 qi1 qi2 qi4 qi5 qt0 qt1 M) (tk (vs (rp L xs P M vi) (rp L xs P M vi)) (qc_X16_size_L17 L xs P M k)) := by
  unfold zf_X16_size_J83 qf_X16_size_J83
  exact qs_tk ⟨_, _, _, _, _, _, rfl, ei1, ei2, (p_add et0 et1), ei4, (p_add ei5 k_1), hS, hM⟩
set_option maxRecDepth 20000 in
theorem qz_X16_size_L17_b (n : Nat) {P : Nat → Nat} {S : zm_S} {M : qm} {i1 : Int32} {qi1 : Int} {i2 : Int32} {qi2 : Int} {i3 : Int32} {qi3 : Int} {i4 : Int32} {qi4 : Int} {i5 : Int32} {qi5 : Int} (hS : Sh L xs P S) (hM : qM P S = M) (ei1 : i1.toInt = qi1) (ei2 : i2.toInt = qi2) (ei3 : i3.toInt = qi3) (ei4 : i4.toInt = qi4) (ei5 : i5.toInt = qi5) : qs (zf_X16_size_L17 20000 (n + 1) 2157 i1 i2 i3 i4 i5 S) (qf_X16_size_L17_b 20000 qi1 qi2 qi3 qi4 qi5 M) (tk (vs (rp L xs P M vi) (rp L xs P M vi)) (qc_X16_size_L17 L xs P M (zf_X16_size_L17 20000 n))) := by
  refine qs_eq (zf_X16_size_L17.eq_2 ..) ?_
  unfold qf_X16_size_L17_b
  refine qs_gi hS hM pl_2157 ts_2157 (z := 12) rfl rfl (fun v1533 h1533 => ?_)
  refine qs_ite (c_le h1533 ei5) ?_ ?_
  · exact qs_tp2 (show vi _ _ from ei3) hS hM
  · refine qs_gr hS pl_2157 ts_2157 rfl ?_
    refine qs_gd (fun g1536 => ?_)
    refine qs_xi hM (pa_s hS (d := 2168) rfl (by decide) (by decide) sf_2168) (p_add (p_mul k_42 ei4) ei5) g1536 (fun v1535 h1535 => ?_)
    refine qs_ite (c_eq h1535 ei1) ?_ ?_
    · refine qs_gr hS pl_2157 ts_2157 rfl ?_
      refine qs_gd (fun g1539 => ?_)
      refine qs_xi hM (pa_s hS (d := 2166) rfl (by decide) (by decide) sf_2166) ei5 g1539 (fun v1538 h1538 => ?_)
      refine qs_gr hS pl_2157 ts_2157 rfl ?_
      refine qs_gd (fun g1542 => ?_)
      refine qs_xi hM (pa_s hS (d := 2166) rfl (by decide) (by decide) sf_2166) (p_sub ei5 k_1) g1542 (fun v1541 h1541 => ?_)
      refine qs_gr hS pl_2157 ts_2157 rfl ?_
      refine qs_gd (fun g1545 => ?_)
      refine qs_xi hM (pa_s hS (d := 2167) rfl (by decide) (by decide) sf_2167) ei4 g1545 (fun v1544 h1544 => ?_)
      refine qs_gr hS pl_2157 ts_2157 rfl ?_
      refine qs_gd (fun g1548 => ?_)
      refine qs_xi hM (pa_s hS (d := 2167) rfl (by decide) (by decide) sf_2167) (p_sub ei4 k_1) g1548 (fun v1547 h1547 => ?_)
      exact (qz_X16_size_J83 hS hM ei1 ei2 ei4 ei5 ei3 (p_mul (p_sub h1538 h1541) (p_sub h1544 h1547)))
    · exact (qz_X16_size_J83 hS hM ei1 ei2 ei4 ei5 ei3 k_0)
theorem qz_X16_size_L17 (n : Nat) : ∀ {P : Nat → Nat} {S : zm_S} {M : qm} {i1 : Int32} {qi1 : Int} {i2 : Int32} {qi2 : Int} {i3 : Int32} {qi3 : Int} {i4 : Int32} {qi4 : Int} {i5 : Int32} {qi5 : Int} (hS : Sh L xs P S) (hM : qM P S = M) (ei1 : i1.toInt = qi1) (ei2 : i2.toInt = qi2) (ei3 : i3.toInt = qi3) (ei4 : i4.toInt = qi4) (ei5 : i5.toInt = qi5), qs (zf_X16_size_L17 20000 n 2157 i1 i2 i3 i4 i5 S) (qf_X16_size_L17 20000 n qi1 qi2 qi3 qi4 qi5 M) (tO (vs (rp L xs P M vi) (rp L xs P M vi))) := by
  induction n with
  | zero =>
    intros
    exact qs_none
  | succ n ih =>
    intro P S M i1 qi1 i2 qi2 i3 qi3 i4 qi4 i5 qi5 hS hM ei1 ei2 ei3 ei4 ei5
    unfold qf_X16_size_L17
    refine qs_loop (C := (qc_X16_size_L17 L xs P M (zf_X16_size_L17 20000 n))) (qz_X16_size_L17_b n hS hM ei1 ei2 ei3 ei4 ei5) ?_
    rintro x s ⟨_, _, _, _, _, _, rfl, u0, u1, u2, u3, u4, hS2, hM2⟩
    exact ih hS2 hM2 u0 u1 u2 u3 u4
set_option maxRecDepth 20000 in
theorem qz_X16_size_L5_b (n : Nat) {P : Nat → Nat} {S : zm_S} {M : qm} {i1 : Int32} {qi1 : Int} {i2 : Int32} {qi2 : Int} {i3 : Int32} {qi3 : Int} {i4 : Int32} {qi4 : Int} (hS : Sh L xs P S) (hM : qM P S = M) (ei1 : i1.toInt = qi1) (ei2 : i2.toInt = qi2) (ei3 : i3.toInt = qi3) (ei4 : i4.toInt = qi4) : qs (zf_X16_size_L5 20000 (n + 1) 2157 i1 i2 i3 i4 S) (qf_X16_size_L5_b 20000 qi1 qi2 qi3 qi4 M) (tk (vs (rp L xs P M vi) (rp L xs P M vi)) (qc_X16_size_L5 L xs P M (zf_X16_size_L5 20000 n))) := by
  refine qs_eq (zf_X16_size_L5.eq_2 ..) ?_
  unfold qf_X16_size_L5_b
  refine qs_gi hS hM pl_2157 ts_2157 (z := 13) rfl rfl (fun v1549 h1549 => ?_)
  refine qs_ite (c_le h1549 ei4) ?_ ?_
  · exact qs_tp2 (show vi _ _ from ei3) hS hM
  · refine qs_lp (qz_X16_size_L17 20000 hS hM ei1 ei2 ei3 ei4 k_1) ?_ ?_
    · intro v1551 S1551 w1551 h1551 hS1551 hM1551
      dsimp only
      exact qs_tp1 h1551 hS1551 hM1551
    · intro v1551 S1551 w1551 h1551 hS1551 hM1551
      dsimp only
      exact qs_tk ⟨_, _, _, _, _, rfl, ei1, ei2, h1551, (p_add ei4 k_1), hS1551, hM1551⟩
theorem qz_X16_size_L5 (n : Nat) : ∀ {P : Nat → Nat} {S : zm_S} {M : qm} {i1 : Int32} {qi1 : Int} {i2 : Int32} {qi2 : Int} {i3 : Int32} {qi3 : Int} {i4 : Int32} {qi4 : Int} (hS : Sh L xs P S) (hM : qM P S = M) (ei1 : i1.toInt = qi1) (ei2 : i2.toInt = qi2) (ei3 : i3.toInt = qi3) (ei4 : i4.toInt = qi4), qs (zf_X16_size_L5 20000 n 2157 i1 i2 i3 i4 S) (qf_X16_size_L5 20000 n qi1 qi2 qi3 qi4 M) (tO (vs (rp L xs P M vi) (rp L xs P M vi))) := by
  induction n with
  | zero =>
    intros
    exact qs_none
  | succ n ih =>
    intro P S M i1 qi1 i2 qi2 i3 qi3 i4 qi4 hS hM ei1 ei2 ei3 ei4
    unfold qf_X16_size_L5
    refine qs_loop (C := (qc_X16_size_L5 L xs P M (zf_X16_size_L5 20000 n))) (qz_X16_size_L5_b n hS hM ei1 ei2 ei3 ei4) ?_
    rintro x s ⟨_, _, _, _, _, rfl, u0, u1, u2, u3, hS2, hM2⟩
    exact ih hS2 hM2 u0 u1 u2 u3
set_option maxRecDepth 20000 in
theorem qz_X16_sideLength {P : Nat → Nat} {S : zm_S} {M : qm} {i1 : Int32} {qi1 : Int} (hS : Sh L xs P S) (hM : qM P S = M) (ei1 : i1.toInt = qi1) : qs (zf_X16_sideLength 20000 2157 i1 S) (qf_X16_sideLength 20000 qi1 M) (tO (rp L xs P M vi)) := by
  unfold zf_X16_sideLength qf_X16_sideLength
  refine qs_gr hS pl_2157 ts_2157 rfl ?_
  refine qs_gd (fun g1554 => ?_)
  refine qs_xi hM (pa_p hS pl_2177 ts_2177) (p_div ei1 k_2 (by decide)) g1554 (fun v1553 h1553 => ?_)
  refine qs_gr hS pl_2157 ts_2157 rfl ?_
  refine qs_gd (fun g1557 => ?_)
  refine qs_xi hM (pa_p hS pl_2178 ts_2178) (p_div ei1 k_2 (by decide)) g1557 (fun v1556 h1556 => ?_)
  refine qs_gr hS pl_2157 ts_2157 rfl ?_
  refine qs_gd (fun g1560 => ?_)
  refine qs_xi hM (pa_p hS pl_2174 ts_2174) h1556 g1560 (fun v1559 h1559 => ?_)
  refine qs_gr hS pl_2157 ts_2157 rfl ?_
  refine qs_gd (fun g1563 => ?_)
  refine qs_xi hM (pa_p hS pl_2174 ts_2174) h1553 g1563 (fun v1562 h1562 => ?_)
  refine qs_gr hS pl_2157 ts_2157 rfl ?_
  refine qs_gd (fun g1566 => ?_)
  refine qs_xi hM (pa_p hS pl_2175 ts_2175) h1556 g1566 (fun v1565 h1565 => ?_)
  refine qs_gr hS pl_2157 ts_2157 rfl ?_
  refine qs_gd (fun g1569 => ?_)
  refine qs_xi hM (pa_p hS pl_2175 ts_2175) h1553 g1569 (fun v1568 h1568 => ?_)
  exact qs_tp (show vi _ _ from (p_sub (p_add (p_sub h1559 h1562) h1565) h1568)) hS hM
set_option maxRecDepth 20000 in
theorem qz_X16_size_J136 {P : Nat → Nat} {S : zm_S} {M : qm} {i1 : Int32} {qi1 : Int} {i2 : Int32} {qi2 : Int} {i3 : Int32} {qi3 : Int} {i5 : Int32} {qi5 : Int} {t0 : Int32} {qt0 : Int} {t1 : Int32} {qt1 : Int} (hS : Sh L xs P S) (hM : qM P S = M) (ei1 : i1.toInt = qi1) (ei2 : i2.toInt = qi2) (ei3 : i3.toInt = qi3) (ei5 : i5.toInt = qi5) (et0 : t0.toInt = qt0) (et1 : t1.toInt = qt1) {k : Nat → Int32 → Int32 → Int32 → Int32 → Int32 → zm_S → Option ((Int32 × zm_S) ⊕ ((Int32) × zm_S))} : qs (zf_X16_size_J136 20000 k 2157 i1 i2 i3 i5 t0 t1 S) (qf_X16_size_J136 20000 qi1 qi2 qi3 qi5 qt0 qt1 M) (tk (vs (rp L xs P M vi) (rp L xs P M vi)) (qc_X16_size_L103 L xs P M k)) := by
  unfold zf_X16_size_J136 qf_X16_size_J136
  exact qs_tk ⟨_, _, _, _, _, _, rfl, ei1, ei2, ei3, (p_add et0 et1), (p_add ei5 k_1), hS, hM⟩
set_option maxRecDepth 20000 in
theorem qz_X16_size_L103_b (n : Nat) {P : Nat → Nat} {S : zm_S} {M : qm} {i1 : Int32} {qi1 : Int} {i2 : Int32} {qi2 : Int} {i3 : Int32} {qi3 : Int} {i4 : Int32} {qi4 : Int} {i5 : Int32} {qi5 : Int} (hS : Sh L xs P S) (hM : qM P S = M) (ei1 : i1.toInt = qi1) (ei2 : i2.toInt = qi2) (ei3 : i3.toInt = qi3) (ei4 : i4.toInt = qi4) (ei5 : i5.toInt = qi5) : qs (zf_X16_size_L103 20000 (n + 1) 2157 i1 i2 i3 i4 i5 S) (qf_X16_size_L103_b 20000 qi1 qi2 qi3 qi4 qi5 M) (tk (vs (rp L xs P M vi) (rp L xs P M vi)) (qc_X16_size_L103 L xs P M (zf_X16_size_L103 20000 n))) := by
  refine qs_eq (zf_X16_size_L103.eq_2 ..) ?_
  unfold qf_X16_size_L103_b
  refine qs_gi hS hM pl_2157 ts_2157 (z := 30) rfl rfl (fun v1570 h1570 => ?_)
  refine qs_ite (c_le (p_mul k_2 h1570) ei5) ?_ ?_
  · exact qs_tp2 (show vi _ _ from ei4) hS hM
  · refine qs_zi hS pl_2157 ts_2157 ?_
    refine qs_bp (qz_X16_left hS hM ei5) (fun v1572 S1572 w1572 h1572 hS1572 hM1572 => ?_)
    refine qs_ite (c_eq h1572 ei1) ?_ ?_
    · refine qs_zi hS1572 pl_2157 ts_2157 ?_
      refine qs_bp (qz_X16_sideLength hS1572 hM1572 ei5) (fun v1574 S1574 w1574 h1574 hS1574 hM1574 => ?_)
      exact (qz_X16_size_J136 hS1574 hM1574 ei1 ei2 ei3 ei5 ei4 h1574)
    · exact (qz_X16_size_J136 hS1572 hM1572 ei1 ei2 ei3 ei5 ei4 k_0)
theorem qz_X16_size_L103 (n : Nat) : ∀ {P : Nat → Nat} {S : zm_S} {M : qm} {i1 : Int32} {qi1 : Int} {i2 : Int32} {qi2 : Int} {i3 : Int32} {qi3 : Int} {i4 : Int32} {qi4 : Int} {i5 : Int32} {qi5 : Int} (hS : Sh L xs P S) (hM : qM P S = M) (ei1 : i1.toInt = qi1) (ei2 : i2.toInt = qi2) (ei3 : i3.toInt = qi3) (ei4 : i4.toInt = qi4) (ei5 : i5.toInt = qi5), qs (zf_X16_size_L103 20000 n 2157 i1 i2 i3 i4 i5 S) (qf_X16_size_L103 20000 n qi1 qi2 qi3 qi4 qi5 M) (tO (vs (rp L xs P M vi) (rp L xs P M vi))) := by
  induction n with
  | zero =>
    intros
    exact qs_none
  | succ n ih =>
    intro P S M i1 qi1 i2 qi2 i3 qi3 i4 qi4 i5 qi5 hS hM ei1 ei2 ei3 ei4 ei5
    unfold qf_X16_size_L103
    refine qs_loop (C := (qc_X16_size_L103 L xs P M (zf_X16_size_L103 20000 n))) (qz_X16_size_L103_b n hS hM ei1 ei2 ei3 ei4 ei5) ?_
    rintro x s ⟨_, _, _, _, _, _, rfl, u0, u1, u2, u3, u4, hS2, hM2⟩
    exact ih hS2 hM2 u0 u1 u2 u3 u4
set_option maxRecDepth 20000 in
theorem qz_X16_ringsOf_J32 {P : Nat → Nat} {S : zm_S} {M : qm} {i1 : Int32} {qi1 : Int} {i3 : Int32} {qi3 : Int} {t0 : Int32} {qt0 : Int} {t1 : Int32} {qt1 : Int} (hS : Sh L xs P S) (hM : qM P S = M) (ei1 : i1.toInt = qi1) (ei3 : i3.toInt = qi3) (et0 : t0.toInt = qt0) (et1 : t1.toInt = qt1) {k : Nat → Int32 → Int32 → Int32 → zm_S → Option ((Int32 × zm_S) ⊕ ((Int32) × zm_S))} : qs (zf_X16_ringsOf_J32 20000 k 2157 i1 i3 t0 t1 S) (qf_X16_ringsOf_J32 20000 qi1 qi3 qt0 qt1 M) (tk (vs (rp L xs P M vi) (rp L xs P M vi)) (qc_X16_ringsOf_L4 L xs P M k)) := by
  unfold zf_X16_ringsOf_J32 qf_X16_ringsOf_J32
  exact qs_tk ⟨_, _, _, _, rfl, ei1, (p_add et0 et1), (p_add ei3 k_1), hS, hM⟩
set_option maxRecDepth 20000 in
theorem qz_X16_ringsOf_L4_b (n : Nat) {P : Nat → Nat} {S : zm_S} {M : qm} {i1 : Int32} {qi1 : Int} {i2 : Int32} {qi2 : Int} {i3 : Int32} {qi3 : Int} (hS : Sh L xs P S) (hM : qM P S = M) (ei1 : i1.toInt = qi1) (ei2 : i2.toInt = qi2) (ei3 : i3.toInt = qi3) : qs (zf_X16_ringsOf_L4 20000 (n + 1) 2157 i1 i2 i3 S) (qf_X16_ringsOf_L4_b 20000 qi1 qi2 qi3 M) (tk (vs (rp L xs P M vi) (rp L xs P M vi)) (qc_X16_ringsOf_L4 L xs P M (zf_X16_ringsOf_L4 20000 n))) := by
  refine qs_eq (zf_X16_ringsOf_L4.eq_2 ..) ?_
  unfold qf_X16_ringsOf_L4_b
  refine qs_gi hS hM pl_2157 ts_2157 (z := 35) rfl rfl (fun v1575 h1575 => ?_)
  refine qs_ite (c_le h1575 ei3) ?_ ?_
  · exact qs_tp2 (show vi _ _ from ei2) hS hM
  · refine qs_gr hS pl_2157 ts_2157 rfl ?_
    refine qs_gd (fun g1578 => ?_)
    refine qs_xi hM (pa_p hS pl_2180 ts_2180) ei3 g1578 (fun v1577 h1577 => ?_)
    refine qs_zi hS pl_2157 ts_2157 ?_
    refine qs_bp (qz_X16_left hS hM h1577) (fun v1580 S1580 w1580 h1580 hS1580 hM1580 => ?_)
    refine qs_ite (c_eq h1580 ei1) ?_ ?_
    · exact (qz_X16_ringsOf_J32 hS1580 hM1580 ei1 ei3 ei2 k_1)
    · exact (qz_X16_ringsOf_J32 hS1580 hM1580 ei1 ei3 ei2 k_0)
theorem qz_X16_ringsOf_L4 (n : Nat) : ∀ {P : Nat → Nat} {S : zm_S} {M : qm} {i1 : Int32} {qi1 : Int} {i2 : Int32} {qi2 : Int} {i3 : Int32} {qi3 : Int} (hS : Sh L xs P S) (hM : qM P S = M) (ei1 : i1.toInt = qi1) (ei2 : i2.toInt = qi2) (ei3 : i3.toInt = qi3), qs (zf_X16_ringsOf_L4 20000 n 2157 i1 i2 i3 S) (qf_X16_ringsOf_L4 20000 n qi1 qi2 qi3 M) (tO (vs (rp L xs P M vi) (rp L xs P M vi))) := by
  induction n with
  | zero =>
    intros
    exact qs_none
  | succ n ih =>
    intro P S M i1 qi1 i2 qi2 i3 qi3 hS hM ei1 ei2 ei3
    unfold qf_X16_ringsOf_L4
    refine qs_loop (C := (qc_X16_ringsOf_L4 L xs P M (zf_X16_ringsOf_L4 20000 n))) (qz_X16_ringsOf_L4_b n hS hM ei1 ei2 ei3) ?_
    rintro x s ⟨_, _, _, _, rfl, u0, u1, u2, hS2, hM2⟩
    exact ih hS2 hM2 u0 u1 u2
set_option maxRecDepth 20000 in
theorem qz_X16_ringsOf {P : Nat → Nat} {S : zm_S} {M : qm} {i1 : Int32} {qi1 : Int} (hS : Sh L xs P S) (hM : qM P S = M) (ei1 : i1.toInt = qi1) : qs (zf_X16_ringsOf 20000 2157 i1 S) (qf_X16_ringsOf 20000 qi1 M) (tO (rp L xs P M vi)) := by
  unfold zf_X16_ringsOf qf_X16_ringsOf
  refine qs_lp (qz_X16_ringsOf_L4 20000 hS hM ei1 k_0 k_0) ?_ ?_
  · intro v1582 S1582 w1582 h1582 hS1582 hM1582
    dsimp only
    exact qs_tp h1582 hS1582 hM1582
  · intro v1582 S1582 w1582 h1582 hS1582 hM1582
    dsimp only
    exact qs_tp (show vi _ _ from h1582) hS1582 hM1582
set_option maxRecDepth 20000 in
theorem qz_X16_size {P : Nat → Nat} {S : zm_S} {M : qm} {i1 : Int32} {qi1 : Int} {i2 : Int32} {qi2 : Int} (hS : Sh L xs P S) (hM : qM P S = M) (ei1 : i1.toInt = qi1) (ei2 : i2.toInt = qi2) : qs (zf_X16_size 20000 2157 i1 i2 S) (qf_X16_size 20000 qi1 qi2 M) (tO (rp L xs P M vi)) := by
  unfold zf_X16_size qf_X16_size
  refine qs_lp (qz_X16_size_L5 20000 hS hM ei1 ei2 k_0 k_1) ?_ ?_
  · intro v1584 S1584 w1584 h1584 hS1584 hM1584
    dsimp only
    exact qs_tp h1584 hS1584 hM1584
  · intro v1584 S1584 w1584 h1584 hS1584 hM1584
    dsimp only
    refine qs_lp (qz_X16_size_L103 20000 hS1584 hM1584 ei1 ei2 h1584 k_0 k_0) ?_ ?_
    · intro v1586 S1586 w1586 h1586 hS1586 hM1586
      dsimp only
      exact qs_tp h1586 hS1586 hM1586
    · intro v1586 S1586 w1586 h1586 hS1586 hM1586
      dsimp only
      refine qs_ite (c_eq ei2 k_0) ?_ ?_
      · exact qs_tp (show vi _ _ from h1584) hS1586 hM1586
      · refine qs_ite (c_eq ei2 k_1) ?_ ?_
        · exact qs_tp (show vi _ _ from h1586) hS1586 hM1586
        · refine qs_zi hS1586 pl_2157 ts_2157 ?_
          refine qs_bp (qz_X16_ringsOf hS1586 hM1586 ei1) (fun v1588 S1588 w1588 h1588 hS1588 hM1588 => ?_)
          exact qs_tp (show vi _ _ from h1588) hS1588 hM1588
set_option maxRecDepth 20000 in
theorem qz_X18_size_J25 {P : Nat → Nat} {S : zm_S} {M : qm} {i1 : Int32} {qi1 : Int} {i2 : Int32} {qi2 : Int} {t1 : Int32} {qt1 : Int} (hS : Sh L xs P S) (hM : qM P S = M) (ei1 : i1.toInt = qi1) (ei2 : i2.toInt = qi2) (et1 : t1.toInt = qt1) : qs (zf_X18_size_J25 20000 2156 i1 i2 2156 t1 S) (qf_X18_size_J25 20000 qi1 qi2 qt1 M) (tO (rr L xs P vi)) := by
  unfold zf_X18_size_J25 qf_X18_size_J25
  refine qs_gr hS pl_2156 ts_2156 rfl ?_
  refine qs_gi hS hM pl_2157 ts_2157 (z := 10) rfl rfl (fun v1590 h1590 => ?_)
  refine qs_zi hS pl_2156 ts_2156 ?_
  refine qs_b (qz_X18_goes hS hM et1 h1590) (fun v1592 S1592 w1592 M1592 h1592 hS1592 hM1592 => ?_)
  refine qs_ite (c_eq h1592 k_0) ?_ ?_
  · exact qs_tr (show vi _ _ from k_0) hS1592 hM1592
  · refine qs_gr hS1592 pl_2156 ts_2156 rfl ?_
    refine qs_zi hS1592 pl_2157 ts_2157 ?_
    refine qs_bp (qz_X16_size hS1592 hM1592 ei1 ei2) (fun v1595 S1595 w1595 h1595 hS1595 hM1595 => ?_)
    exact qs_tr (show vi _ _ from h1595) hS1595 hM1595
set_option maxRecDepth 20000 in
theorem qz_X18_size_J24 {P : Nat → Nat} {S : zm_S} {M : qm} {i1 : Int32} {qi1 : Int} {i2 : Int32} {qi2 : Int} (hS : Sh L xs P S) (hM : qM P S = M) (ei1 : i1.toInt = qi1) (ei2 : i2.toInt = qi2) : qs (zf_X18_size_J24 20000 2156 i1 i2 2156 S) (qf_X18_size_J24 20000 qi1 qi2 M) (tO (rr L xs P vi)) := by
  unfold zf_X18_size_J24 qf_X18_size_J24
  exact (qz_X18_size_J25 hS hM ei1 ei2 k_0)
set_option maxRecDepth 20000 in
theorem qz_X18_size {P : Nat → Nat} {S : zm_S} {M : qm} {i1 : Int32} {qi1 : Int} {i2 : Int32} {qi2 : Int} (hS : Sh L xs P S) (hM : qM P S = M) (ei1 : i1.toInt = qi1) (ei2 : i2.toInt = qi2) : qs (zf_X18_size 20000 2156 i1 i2 S) (qf_X18_size 20000 qi1 qi2 M) (tO (rr L xs P vi)) := by
  unfold zf_X18_size qf_X18_size
  refine qs_gr hS pl_2156 ts_2156 rfl ?_
  refine qs_zi hS pl_2157 ts_2157 ?_
  refine qs_bp (qz_X16_isSpace hS hM ei1) (fun v1598 S1598 w1598 h1598 hS1598 hM1598 => ?_)
  refine qs_ite (c_eq h1598 k_0) ?_ ?_
  · exact (qz_X18_size_J24 hS1598 hM1598 ei1 ei2)
  · refine qs_bp (qz_X18_isIn hS1598 hM1598 ei2 k_3) (fun v1599 S1599 w1599 h1599 hS1599 hM1599 => ?_)
    refine qs_ite (c_eq h1599 k_0) ?_ ?_
    · exact (qz_X18_size_J24 hS1599 hM1599 ei1 ei2)
    · exact (qz_X18_size_J25 hS1599 hM1599 ei1 ei2 k_1)
set_option maxRecDepth 20000 in
theorem qz_X11_isCell {P : Nat → Nat} {S : zm_S} {M : qm} {i0 : Int32} {qi0 : Int} {i1 : Int32} {qi1 : Int} (hS : Sh L xs P S) (hM : qM P S = M) (ei0 : i0.toInt = qi0) (ei1 : i1.toInt = qi1) : qs (zf_X11_isCell 20000 i0 i1 S) (qf_X11_isCell 20000 qi0 qi1 M) (tO (rp L xs P M vi)) := by
  unfold zf_X11_isCell qf_X11_isCell
  refine qs_bp (qz_X11_isWithin hS hM ei0 k_0 k_23) (fun v1600 S1600 w1600 h1600 hS1600 hM1600 => ?_)
  refine qs_ite (c_eq h1600 k_0) ?_ ?_
  · exact qs_tp (show vi _ _ from k_0) hS1600 hM1600
  · refine qs_bp (qz_X11_isWithin hS1600 hM1600 ei1 k_0 k_23) (fun v1601 S1601 w1601 h1601 hS1601 hM1601 => ?_)
    refine qs_ite (c_eq h1601 k_0) ?_ ?_
    · exact qs_tp (show vi _ _ from k_0) hS1601 hM1601
    · exact qs_tp (show vi _ _ from k_1) hS1601 hM1601
set_option maxRecDepth 20000 in
theorem qz_X11_at {P : Nat → Nat} {S : zm_S} {M : qm} {i1 : Int32} {qi1 : Int} {i2 : Int32} {qi2 : Int} (hS : Sh L xs P S) (hM : qM P S = M) (ei1 : i1.toInt = qi1) (ei2 : i2.toInt = qi2) : qs (zf_X11_at 20000 6 i1 i2 S) (qf_X11_at 20000 qi1 qi2 M) (tO (rp L xs P M (vs vi ve))) := by
  unfold zf_X11_at qf_X11_at
  refine qs_bp (qz_X11_isCell hS hM ei1 ei2) (fun v1602 S1602 w1602 h1602 hS1602 hM1602 => ?_)
  refine qs_xp (qz_X11_needArgument hS1602 hM1602 h1602) ?_ ?_
  · intro v1604 S1604 w1604 h1604 hS1604 hM1604
    dsimp only
    refine qs_gr hS1604 pl_6 ts_6 rfl ?_
    refine qs_gi hS1604 hM1604 pl_51 ts_51 (z := 2) rfl rfl (fun v1606 h1606 => ?_)
    refine qs_xp (qz_X11_needState hS1604 hM1604 h1606) ?_ ?_
    · intro v1608 S1608 w1608 h1608 hS1608 hM1608
      dsimp only
      refine qs_gr hS1608 pl_6 ts_6 rfl ?_
      refine qs_zi hS1608 pl_51 ts_51 ?_
      refine qs_bp (qz_X2_spaceAt hS1608 hM1608 ei1 ei2) (fun v1611 S1611 w1611 h1611 hS1611 hM1611 => ?_)
      exact qs_tp (show (vs vi ve) _ _ from h1611) hS1611 hM1611
    · intro v1608 S1608 hS1608 hM1608
      dsimp only
      exact qs_tp (show (vs vi ve) _ _ from rfl) hS1608 hM1608
  · intro v1604 S1604 hS1604 hM1604
    dsimp only
    exact qs_tp (show (vs vi ve) _ _ from rfl) hS1604 hM1604
set_option maxRecDepth 20000 in
theorem qz_L_at {P : Nat → Nat} {S : zm_S} {M : qm} {i1 : Int32} {qi1 : Int} {i2 : Int32} {qi2 : Int} (hS : Sh L xs P S) (hM : qM P S = M) (ei1 : i1.toInt = qi1) (ei2 : i2.toInt = qi2) : qs (zf_L_at 20000 6 i1 i2 2332 S) (qf_L_at 20000 qi1 qi2 M) (tO (rr L xs P vi)) := by
  unfold zf_L_at qf_L_at
  refine qs_zi hS pl_6 ts_6 ?_
  refine qs_xp (qz_X11_at hS hM ei1 ei2) ?_ ?_
  · intro v1614 S1614 w1614 h1614 hS1614 hM1614
    dsimp only
    refine qs_sl hS1614 hM1614 (pa_p hS1614 pl_2332 ts_2332) k_0 (by decide) (p_64 h1614) (fun S1615 M1615 hS1615 hM1615 => ?_)
    exact qs_tr (show vi _ _ from k_0) hS1615 hM1615
  · intro v1614 S1614 hS1614 hM1614
    dsimp only
    refine qs_ite Iff.rfl ?_ ?_
    · exact qs_tr (show vi _ _ from k_1) hS1614 hM1614
    · refine qs_ite Iff.rfl ?_ ?_
      · exact qs_tr (show vi _ _ from k_2) hS1614 hM1614
      · exact qs_none
set_option maxRecDepth 20000 in
theorem qz_X18_isCell {P : Nat → Nat} {S : zm_S} {M : qm} {i0 : Int32} {qi0 : Int} {i1 : Int32} {qi1 : Int} (hS : Sh L xs P S) (hM : qM P S = M) (ei0 : i0.toInt = qi0) (ei1 : i1.toInt = qi1) : qs (zf_X18_isCell 20000 i0 i1 S) (qf_X18_isCell 20000 qi0 qi1 M) (tO (rp L xs P M vi)) := by
  unfold zf_X18_isCell qf_X18_isCell
  refine qs_bp (qz_X18_isIn hS hM ei0 k_24) (fun v1616 S1616 w1616 h1616 hS1616 hM1616 => ?_)
  refine qs_ite (c_eq h1616 k_0) ?_ ?_
  · exact qs_tp (show vi _ _ from k_0) hS1616 hM1616
  · refine qs_bp (qz_X18_isIn hS1616 hM1616 ei1 k_24) (fun v1617 S1617 w1617 h1617 hS1617 hM1617 => ?_)
    refine qs_ite (c_eq h1617 k_0) ?_ ?_
    · exact qs_tp (show vi _ _ from k_0) hS1617 hM1617
    · exact qs_tp (show vi _ _ from k_1) hS1617 hM1617
set_option maxRecDepth 20000 in
theorem qz_X16_at_L2_b (n : Nat) {P : Nat → Nat} {S : zm_S} {M : qm} {i1 : Int32} {qi1 : Int} {i2 : Int32} {qi2 : Int} {i3 : Int32} {qi3 : Int} (hS : Sh L xs P S) (hM : qM P S = M) (ei1 : i1.toInt = qi1) (ei2 : i2.toInt = qi2) (ei3 : i3.toInt = qi3) : qs (zf_X16_at_L2 20000 (n + 1) 2157 i1 i2 i3 S) (qf_X16_at_L2_b 20000 qi1 qi2 qi3 M) (tk (vs (rp L xs P M vi) (rp L xs P M vi)) (qc_X16_at_L2 L xs P M (zf_X16_at_L2 20000 n))) := by
  refine qs_eq (zf_X16_at_L2.eq_2 ..) ?_
  unfold qf_X16_at_L2_b
  refine qs_gi hS hM pl_2157 ts_2157 (z := 12) rfl rfl (fun v1618 h1618 => ?_)
  refine qs_ite (c_le h1618 ei3) ?_ ?_
  · exact qs_tp2 (show vi _ _ from ei3) hS hM
  · refine qs_gr hS pl_2157 ts_2157 rfl ?_
    refine qs_gd (fun g1621 => ?_)
    refine qs_xi hM (pa_s hS (d := 2166) rfl (by decide) (by decide) sf_2166) ei3 g1621 (fun v1620 h1620 => ?_)
    refine qs_ite (c_lt ei1 h1620) ?_ ?_
    · exact qs_tp2 (show vi _ _ from ei3) hS hM
    · exact qs_tk ⟨_, _, _, _, rfl, ei1, ei2, (p_add ei3 k_1), hS, hM⟩
theorem qz_X16_at_L2 (n : Nat) : ∀ {P : Nat → Nat} {S : zm_S} {M : qm} {i1 : Int32} {qi1 : Int} {i2 : Int32} {qi2 : Int} {i3 : Int32} {qi3 : Int} (hS : Sh L xs P S) (hM : qM P S = M) (ei1 : i1.toInt = qi1) (ei2 : i2.toInt = qi2) (ei3 : i3.toInt = qi3), qs (zf_X16_at_L2 20000 n 2157 i1 i2 i3 S) (qf_X16_at_L2 20000 n qi1 qi2 qi3 M) (tO (vs (rp L xs P M vi) (rp L xs P M vi))) := by
  induction n with
  | zero =>
    intros
    exact qs_none
  | succ n ih =>
    intro P S M i1 qi1 i2 qi2 i3 qi3 hS hM ei1 ei2 ei3
    unfold qf_X16_at_L2
    refine qs_loop (C := (qc_X16_at_L2 L xs P M (zf_X16_at_L2 20000 n))) (qz_X16_at_L2_b n hS hM ei1 ei2 ei3) ?_
    rintro x s ⟨_, _, _, _, rfl, u0, u1, u2, hS2, hM2⟩
    exact ih hS2 hM2 u0 u1 u2
set_option maxRecDepth 20000 in
theorem qz_X16_at_L29_b (n : Nat) {P : Nat → Nat} {S : zm_S} {M : qm} {i2 : Int32} {qi2 : Int} {i3 : Int32} {qi3 : Int} {i4 : Int32} {qi4 : Int} (hS : Sh L xs P S) (hM : qM P S = M) (ei2 : i2.toInt = qi2) (ei3 : i3.toInt = qi3) (ei4 : i4.toInt = qi4) : qs (zf_X16_at_L29 20000 (n + 1) 2157 i2 i3 i4 S) (qf_X16_at_L29_b 20000 qi2 qi3 qi4 M) (tk (vs (rp L xs P M vi) (rp L xs P M vi)) (qc_X16_at_L29 L xs P M (zf_X16_at_L29 20000 n))) := by
  refine qs_eq (zf_X16_at_L29.eq_2 ..) ?_
  unfold qf_X16_at_L29_b
  refine qs_gi hS hM pl_2157 ts_2157 (z := 13) rfl rfl (fun v1622 h1622 => ?_)
  refine qs_ite (c_le h1622 ei4) ?_ ?_
  · exact qs_tp2 (show vi _ _ from ei4) hS hM
  · refine qs_gr hS pl_2157 ts_2157 rfl ?_
    refine qs_gd (fun g1625 => ?_)
    refine qs_xi hM (pa_s hS (d := 2167) rfl (by decide) (by decide) sf_2167) ei4 g1625 (fun v1624 h1624 => ?_)
    refine qs_ite (c_lt ei2 h1624) ?_ ?_
    · exact qs_tp2 (show vi _ _ from ei4) hS hM
    · exact qs_tk ⟨_, _, _, _, rfl, ei2, ei3, (p_add ei4 k_1), hS, hM⟩
theorem qz_X16_at_L29 (n : Nat) : ∀ {P : Nat → Nat} {S : zm_S} {M : qm} {i2 : Int32} {qi2 : Int} {i3 : Int32} {qi3 : Int} {i4 : Int32} {qi4 : Int} (hS : Sh L xs P S) (hM : qM P S = M) (ei2 : i2.toInt = qi2) (ei3 : i3.toInt = qi3) (ei4 : i4.toInt = qi4), qs (zf_X16_at_L29 20000 n 2157 i2 i3 i4 S) (qf_X16_at_L29 20000 n qi2 qi3 qi4 M) (tO (vs (rp L xs P M vi) (rp L xs P M vi))) := by
  induction n with
  | zero =>
    intros
    exact qs_none
  | succ n ih =>
    intro P S M i2 qi2 i3 qi3 i4 qi4 hS hM ei2 ei3 ei4
    unfold qf_X16_at_L29
    refine qs_loop (C := (qc_X16_at_L29 L xs P M (zf_X16_at_L29 20000 n))) (qz_X16_at_L29_b n hS hM ei2 ei3 ei4) ?_
    rintro x s ⟨_, _, _, _, rfl, u0, u1, u2, hS2, hM2⟩
    exact ih hS2 hM2 u0 u1 u2
set_option maxRecDepth 20000 in
theorem qz_X16_at_J55 {P : Nat → Nat} {S : zm_S} {M : qm} {i3 : Int32} {qi3 : Int} {i4 : Int32} {qi4 : Int} (hS : Sh L xs P S) (hM : qM P S = M) (ei3 : i3.toInt = qi3) (ei4 : i4.toInt = qi4) : qs (zf_X16_at_J55 20000 2157 i3 i4 S) (qf_X16_at_J55 20000 qi3 qi4 M) (tO (rp L xs P M vi)) := by
  unfold zf_X16_at_J55 qf_X16_at_J55
  refine qs_gr hS pl_2157 ts_2157 rfl ?_
  refine qs_gd (fun g1628 => ?_)
  refine qs_xi hM (pa_s hS (d := 2168) rfl (by decide) (by decide) sf_2168) (p_add (p_mul k_42 ei4) ei3) g1628 (fun v1627 h1627 => ?_)
  exact qs_tp (show vi _ _ from h1627) hS hM
set_option maxRecDepth 20000 in
theorem qz_X16_at_J26 {P : Nat → Nat} {S : zm_S} {M : qm} {i2 : Int32} {qi2 : Int} {i3 : Int32} {qi3 : Int} (hS : Sh L xs P S) (hM : qM P S = M) (ei2 : i2.toInt = qi2) (ei3 : i3.toInt = qi3) : qs (zf_X16_at_J26 20000 2157 i2 i3 S) (qf_X16_at_J26 20000 qi2 qi3 M) (tO (rp L xs P M vi)) := by
  unfold zf_X16_at_J26 qf_X16_at_J26
  refine qs_lp (qz_X16_at_L29 20000 hS hM ei2 ei3 k_0) ?_ ?_
  · intro v1630 S1630 w1630 h1630 hS1630 hM1630
    dsimp only
    exact qs_tp h1630 hS1630 hM1630
  · intro v1630 S1630 w1630 h1630 hS1630 hM1630
    dsimp only
    exact (qz_X16_at_J55 hS1630 hM1630 ei3 h1630)
set_option maxRecDepth 20000 in
theorem qz_X16_at {P : Nat → Nat} {S : zm_S} {M : qm} {i1 : Int32} {qi1 : Int} {i2 : Int32} {qi2 : Int} (hS : Sh L xs P S) (hM : qM P S = M) (ei1 : i1.toInt = qi1) (ei2 : i2.toInt = qi2) : qs (zf_X16_at 20000 2157 i1 i2 S) (qf_X16_at 20000 qi1 qi2 M) (tO (rp L xs P M vi)) := by
  unfold zf_X16_at qf_X16_at
  refine qs_lp (qz_X16_at_L2 20000 hS hM ei1 ei2 k_0) ?_ ?_
  · intro v1632 S1632 w1632 h1632 hS1632 hM1632
    dsimp only
    exact qs_tp h1632 hS1632 hM1632
  · intro v1632 S1632 w1632 h1632 hS1632 hM1632
    dsimp only
    exact (qz_X16_at_J26 hS1632 hM1632 ei2 h1632)
set_option maxRecDepth 20000 in
theorem qz_X18_at {P : Nat → Nat} {S : zm_S} {M : qm} {i1 : Int32} {qi1 : Int} {i2 : Int32} {qi2 : Int} (hS : Sh L xs P S) (hM : qM P S = M) (ei1 : i1.toInt = qi1) (ei2 : i2.toInt = qi2) : qs (zf_X18_at 20000 2156 i1 i2 S) (qf_X18_at 20000 qi1 qi2 M) (tO (rr L xs P vi)) := by
  unfold zf_X18_at qf_X18_at
  refine qs_bp (qz_X18_isCell hS hM ei1 ei2) (fun v1633 S1633 w1633 h1633 hS1633 hM1633 => ?_)
  refine qs_gr hS1633 pl_2156 ts_2156 rfl ?_
  refine qs_gi hS1633 hM1633 pl_2157 ts_2157 (z := 10) rfl rfl (fun v1635 h1635 => ?_)
  refine qs_zi hS1633 pl_2156 ts_2156 ?_
  refine qs_b (qz_X18_goes hS1633 hM1633 h1633 h1635) (fun v1637 S1637 w1637 M1637 h1637 hS1637 hM1637 => ?_)
  refine qs_ite (c_eq h1637 k_0) ?_ ?_
  · exact qs_tr (show vi _ _ from k_0) hS1637 hM1637
  · refine qs_gr hS1637 pl_2156 ts_2156 rfl ?_
    refine qs_zi hS1637 pl_2157 ts_2157 ?_
    refine qs_bp (qz_X16_at hS1637 hM1637 ei1 ei2) (fun v1640 S1640 w1640 h1640 hS1640 hM1640 => ?_)
    exact qs_tr (show vi _ _ from h1640) hS1640 hM1640
set_option maxRecDepth 20000 in
theorem qz_X2_lengthBetween_J114 {P : Nat → Nat} {S : zm_S} {M : qm} {i1 : Int32} {qi1 : Int} {i2 : Int32} {qi2 : Int} {i4 : Int32} {qi4 : Int} {i5 : Int32} {qi5 : Int} {t0 : Int32} {qt0 : Int} {t1 : Int32} {qt1 : Int} (hS : Sh L xs P S) (hM : qM P S = M) (ei1 : i1.toInt = qi1) (ei2 : i2.toInt = qi2) (ei4 : i4.toInt = qi4) (ei5 : i5.toInt = qi5) (et0 : t0.toInt = qt0) (et1 : t1.toInt = qt1) {k : Nat → Int32 → Int32 → Int32 → Int32 → Int32 → zm_S → Option ((Int32 × zm_S) ⊕ ((Int32) × zm_S))} : qs (zf_X2_lengthBetween_J114 20000 k 51 i1 i2 i4 i5 t0 t1 S) (qf_X2_lengthBetween_J114 20000 qi1 qi2 qi4 qi5 qt0 qt1 M) (tk (vs (rp L xs P M vi) (rp L xs P M vi)) (qc_X2_lengthBetween_L16 L xs P M k)) := by
  unfold zf_X2_lengthBetween_J114 qf_X2_lengthBetween_J114
  exact qs_tk ⟨_, _, _, _, _, _, rfl, ei1, ei2, (p_add et0 et1), ei4, (p_add ei5 k_1), hS, hM⟩
set_option maxRecDepth 20000 in
theorem qz_X2_lengthBetween_J113 {P : Nat → Nat} {S : zm_S} {M : qm} {i1 : Int32} {qi1 : Int} {i2 : Int32} {qi2 : Int} {i4 : Int32} {qi4 : Int} {i5 : Int32} {qi5 : Int} {t0 : Int32} {qt0 : Int} (hS : Sh L xs P S) (hM : qM P S = M) (ei1 : i1.toInt = qi1) (ei2 : i2.toInt = qi2) (ei4 : i4.toInt = qi4) (ei5 : i5.toInt = qi5) (et0 : t0.toInt = qt0) {k : Nat → Int32 → Int32 → Int32 → Int32 → Int32 → zm_S → Option ((Int32 × zm_S) ⊕ ((Int32) × zm_S))} : qs (zf_X2_lengthBetween_J113 20000 k 51 i1 i2 i4 i5 t0 S) (qf_X2_lengthBetween_J113 20000 qi1 qi2 qi4 qi5 qt0 M) (tk (vs (rp L xs P M vi) (rp L xs P M vi)) (qc_X2_lengthBetween_L16 L xs P M k)) := by
  unfold zf_X2_lengthBetween_J113 qf_X2_lengthBetween_J113
  exact (qz_X2_lengthBetween_J114 hS hM ei1 ei2 ei4 ei5 et0 k_0)
set_option maxRecDepth 20000 in
theorem qz_X2_lengthBetween_J87 {P : Nat → Nat} {S : zm_S} {M : qm} {i1 : Int32} {qi1 : Int} {i2 : Int32} {qi2 : Int} {i3 : Int32} {qi3 : Int} {i4 : Int32} {qi4 : Int} {i5 : Int32} {qi5 : Int} {t0 : Int32} {qt0 : Int} (hS : Sh L xs P S) (hM : qM P S = M) (ei1 : i1.toInt = qi1) (ei2 : i2.toInt = qi2) (ei3 : i3.toInt = qi3) (ei4 : i4.toInt = qi4) (ei5 : i5.toInt = qi5) (et0 : t0.toInt = qt0) {k : Nat → Int32 → Int32 → Int32 → Int32 → Int32 → zm_S → Option ((Int32 × zm_S) ⊕ ((Int32) × zm_S))} : qs (zf_X2_lengthBetween_J87 20000 k 51 i1 i2 i3 i4 i5 t0 S) (qf_X2_lengthBetween_J87 20000 qi1 qi2 qi3 qi4 qi5 qt0 M) (tk (vs (rp L xs P M vi) (rp L xs P M vi)) (qc_X2_lengthBetween_L16 L xs P M k)) := by
  unfold zf_X2_lengthBetween_J87 qf_X2_lengthBetween_J87
  refine qs_ite (c_eq et0 k_0) ?_ ?_
  · exact (qz_X2_lengthBetween_J113 hS hM ei1 ei2 ei4 ei5 ei3)
  · refine qs_gr hS pl_51 ts_51 rfl ?_
    refine qs_gd (fun g1643 => ?_)
    refine qs_xt hS pl_52 ts_52 (Or.inl rfl) ei5 g1643 (fun b1642 r1642 => ?_)
    refine qs_gd (fun g1645 => ?_)
    refine qs_yi hS hM qt_52 tq_52 r1642 ei4 g1645 (fun v1644 h1644 => ?_)
    refine qs_ite (c_eq h1644 k_m1) ?_ ?_
    · exact (qz_X2_lengthBetween_J113 hS hM ei1 ei2 ei4 ei5 ei3)
    · exact (qz_X2_lengthBetween_J114 hS hM ei1 ei2 ei4 ei5 ei3 k_1)
set_option maxRecDepth 20000 in
theorem qz_X2_lengthBetween_J82 {P : Nat → Nat} {S : zm_S} {M : qm} {i1 : Int32} {qi1 : Int} {i2 : Int32} {qi2 : Int} {i3 : Int32} {qi3 : Int} {i4 : Int32} {qi4 : Int} {i5 : Int32} {qi5 : Int} (hS : Sh L xs P S) (hM : qM P S = M) (ei1 : i1.toInt = qi1) (ei2 : i2.toInt = qi2) (ei3 : i3.toInt = qi3) (ei4 : i4.toInt = qi4) (ei5 : i5.toInt = qi5) {k : Nat → Int32 → Int32 → Int32 → Int32 → Int32 → zm_S → Option ((Int32 × zm_S) ⊕ ((Int32) × zm_S))} : qs (zf_X2_lengthBetween_J82 20000 k 51 i1 i2 i3 i4 i5 S) (qf_X2_lengthBetween_J82 20000 qi1 qi2 qi3 qi4 qi5 M) (tk (vs (rp L xs P M vi) (rp L xs P M vi)) (qc_X2_lengthBetween_L16 L xs P M k)) := by
  unfold zf_X2_lengthBetween_J82 qf_X2_lengthBetween_J82
  exact (qz_X2_lengthBetween_J87 hS hM ei1 ei2 ei3 ei4 ei5 k_1)
set_option maxRecDepth 20000 in
theorem qz_X2_lengthBetween_J86 {P : Nat → Nat} {S : zm_S} {M : qm} {i1 : Int32} {qi1 : Int} {i2 : Int32} {qi2 : Int} {i3 : Int32} {qi3 : Int} {i4 : Int32} {qi4 : Int} {i5 : Int32} {qi5 : Int} (hS : Sh L xs P S) (hM : qM P S = M) (ei1 : i1.toInt = qi1) (ei2 : i2.toInt = qi2) (ei3 : i3.toInt = qi3) (ei4 : i4.toInt = qi4) (ei5 : i5.toInt = qi5) {k : Nat → Int32 → Int32 → Int32 → Int32 → Int32 → zm_S → Option ((Int32 × zm_S) ⊕ ((Int32) × zm_S))} : qs (zf_X2_lengthBetween_J86 20000 k 51 i1 i2 i3 i4 i5 S) (qf_X2_lengthBetween_J86 20000 qi1 qi2 qi3 qi4 qi5 M) (tk (vs (rp L xs P M vi) (rp L xs P M vi)) (qc_X2_lengthBetween_L16 L xs P M k)) := by
  unfold zf_X2_lengthBetween_J86 qf_X2_lengthBetween_J86
  exact (qz_X2_lengthBetween_J87 hS hM ei1 ei2 ei3 ei4 ei5 k_0)
set_option maxRecDepth 20000 in
theorem qz_X2_lengthBetween_J70 {P : Nat → Nat} {S : zm_S} {M : qm} {i1 : Int32} {qi1 : Int} {i2 : Int32} {qi2 : Int} {i3 : Int32} {qi3 : Int} {i4 : Int32} {qi4 : Int} {i5 : Int32} {qi5 : Int} {i6 : Int32} {qi6 : Int} {i7 : Int32} {qi7 : Int} (hS : Sh L xs P S) (hM : qM P S = M) (ei1 : i1.toInt = qi1) (ei2 : i2.toInt = qi2) (ei3 : i3.toInt = qi3) (ei4 : i4.toInt = qi4) (ei5 : i5.toInt = qi5) (ei6 : i6.toInt = qi6) (ei7 : i7.toInt = qi7) {k : Nat → Int32 → Int32 → Int32 → Int32 → Int32 → zm_S → Option ((Int32 × zm_S) ⊕ ((Int32) × zm_S))} : qs (zf_X2_lengthBetween_J70 20000 k 51 i1 i2 i3 i4 i5 i6 i7 S) (qf_X2_lengthBetween_J70 20000 qi1 qi2 qi3 qi4 qi5 qi6 qi7 M) (tk (vs (rp L xs P M vi) (rp L xs P M vi)) (qc_X2_lengthBetween_L16 L xs P M k)) := by
  unfold zf_X2_lengthBetween_J70 qf_X2_lengthBetween_J70
  refine qs_ite (c_eq ei6 ei2) ?_ ?_
  · refine qs_ite (c_eq ei7 ei1) ?_ ?_
    · exact (qz_X2_lengthBetween_J82 hS hM ei1 ei2 ei3 ei4 ei5)
    · exact (qz_X2_lengthBetween_J86 hS hM ei1 ei2 ei3 ei4 ei5)
  · exact (qz_X2_lengthBetween_J86 hS hM ei1 ei2 ei3 ei4 ei5)
set_option maxRecDepth 20000 in
theorem qz_X2_lengthBetween_L16_b (n : Nat) {P : Nat → Nat} {S : zm_S} {M : qm} {i1 : Int32} {qi1 : Int} {i2 : Int32} {qi2 : Int} {i3 : Int32} {qi3 : Int} {i4 : Int32} {qi4 : Int} {i5 : Int32} {qi5 : Int} (hS : Sh L xs P S) (hM : qM P S = M) (ei1 : i1.toInt = qi1) (ei2 : i2.toInt = qi2) (ei3 : i3.toInt = qi3) (ei4 : i4.toInt = qi4) (ei5 : i5.toInt = qi5) : qs (zf_X2_lengthBetween_L16 20000 (n + 1) 51 i1 i2 i3 i4 i5 S) (qf_X2_lengthBetween_L16_b 20000 qi1 qi2 qi3 qi4 qi5 M) (tk (vs (rp L xs P M vi) (rp L xs P M vi)) (qc_X2_lengthBetween_L16 L xs P M (zf_X2_lengthBetween_L16 20000 n))) := by
  refine qs_eq (zf_X2_lengthBetween_L16.eq_2 ..) ?_
  unfold qf_X2_lengthBetween_L16_b
  refine qs_ite (c_le k_2 ei5) ?_ ?_
  · exact qs_tp2 (show vi _ _ from ei3) hS hM
  · refine qs_zi hS pl_51 ts_51 ?_
    refine qs_bp (qz_X2_leftOf hS hM (p_div ei4 k_25 (by decide)) (p_mod ei4 k_25) ei5) (fun v1647 S1647 w1647 h1647 hS1647 hM1647 => ?_)
    refine qs_zi hS1647 pl_51 ts_51 ?_
    refine qs_bp (qz_X2_rightOf hS1647 hM1647 (p_div ei4 k_25 (by decide)) (p_mod ei4 k_25) ei5) (fun v1649 S1649 w1649 h1649 hS1649 hM1649 => ?_)
    refine qs_ite (c_eq h1647 ei1) ?_ ?_
    · refine qs_ite (c_eq h1649 ei2) ?_ ?_
      · exact (qz_X2_lengthBetween_J82 hS1649 hM1649 ei1 ei2 ei3 ei4 ei5)
      · exact (qz_X2_lengthBetween_J70 hS1649 hM1649 ei1 ei2 ei3 ei4 ei5 h1647 h1649)
    · exact (qz_X2_lengthBetween_J70 hS1649 hM1649 ei1 ei2 ei3 ei4 ei5 h1647 h1649)
theorem qz_X2_lengthBetween_L16 (n : Nat) : ∀ {P : Nat → Nat} {S : zm_S} {M : qm} {i1 : Int32} {qi1 : Int} {i2 : Int32} {qi2 : Int} {i3 : Int32} {qi3 : Int} {i4 : Int32} {qi4 : Int} {i5 : Int32} {qi5 : Int} (hS : Sh L xs P S) (hM : qM P S = M) (ei1 : i1.toInt = qi1) (ei2 : i2.toInt = qi2) (ei3 : i3.toInt = qi3) (ei4 : i4.toInt = qi4) (ei5 : i5.toInt = qi5), qs (zf_X2_lengthBetween_L16 20000 n 51 i1 i2 i3 i4 i5 S) (qf_X2_lengthBetween_L16 20000 n qi1 qi2 qi3 qi4 qi5 M) (tO (vs (rp L xs P M vi) (rp L xs P M vi))) := by
  induction n with
  | zero =>
    intros
    exact qs_none
  | succ n ih =>
    intro P S M i1 qi1 i2 qi2 i3 qi3 i4 qi4 i5 qi5 hS hM ei1 ei2 ei3 ei4 ei5
    unfold qf_X2_lengthBetween_L16
    refine qs_loop (C := (qc_X2_lengthBetween_L16 L xs P M (zf_X2_lengthBetween_L16 20000 n))) (qz_X2_lengthBetween_L16_b n hS hM ei1 ei2 ei3 ei4 ei5) ?_
    rintro x s ⟨_, _, _, _, _, _, rfl, u0, u1, u2, u3, u4, hS2, hM2⟩
    exact ih hS2 hM2 u0 u1 u2 u3 u4
set_option maxRecDepth 20000 in
theorem qz_X2_lengthBetween_L5_b (n : Nat) {P : Nat → Nat} {S : zm_S} {M : qm} {i1 : Int32} {qi1 : Int} {i2 : Int32} {qi2 : Int} {i3 : Int32} {qi3 : Int} {i4 : Int32} {qi4 : Int} (hS : Sh L xs P S) (hM : qM P S = M) (ei1 : i1.toInt = qi1) (ei2 : i2.toInt = qi2) (ei3 : i3.toInt = qi3) (ei4 : i4.toInt = qi4) : qs (zf_X2_lengthBetween_L5 20000 (n + 1) 51 i1 i2 i3 i4 S) (qf_X2_lengthBetween_L5_b 20000 qi1 qi2 qi3 qi4 M) (tk (vs (rp L xs P M vi) (rp L xs P M vi)) (qc_X2_lengthBetween_L5 L xs P M (zf_X2_lengthBetween_L5 20000 n))) := by
  refine qs_eq (zf_X2_lengthBetween_L5.eq_2 ..) ?_
  unfold qf_X2_lengthBetween_L5_b
  refine qs_ite (c_le k_625 ei4) ?_ ?_
  · exact qs_tp2 (show vi _ _ from ei3) hS hM
  · refine qs_lp (qz_X2_lengthBetween_L16 20000 hS hM ei1 ei2 ei3 ei4 k_0) ?_ ?_
    · intro v1651 S1651 w1651 h1651 hS1651 hM1651
      dsimp only
      exact qs_tp1 h1651 hS1651 hM1651
    · intro v1651 S1651 w1651 h1651 hS1651 hM1651
      dsimp only
      exact qs_tk ⟨_, _, _, _, _, rfl, ei1, ei2, h1651, (p_add ei4 k_1), hS1651, hM1651⟩
theorem qz_X2_lengthBetween_L5 (n : Nat) : ∀ {P : Nat → Nat} {S : zm_S} {M : qm} {i1 : Int32} {qi1 : Int} {i2 : Int32} {qi2 : Int} {i3 : Int32} {qi3 : Int} {i4 : Int32} {qi4 : Int} (hS : Sh L xs P S) (hM : qM P S = M) (ei1 : i1.toInt = qi1) (ei2 : i2.toInt = qi2) (ei3 : i3.toInt = qi3) (ei4 : i4.toInt = qi4), qs (zf_X2_lengthBetween_L5 20000 n 51 i1 i2 i3 i4 S) (qf_X2_lengthBetween_L5 20000 n qi1 qi2 qi3 qi4 M) (tO (vs (rp L xs P M vi) (rp L xs P M vi))) := by
  induction n with
  | zero =>
    intros
    exact qs_none
  | succ n ih =>
    intro P S M i1 qi1 i2 qi2 i3 qi3 i4 qi4 hS hM ei1 ei2 ei3 ei4
    unfold qf_X2_lengthBetween_L5
    refine qs_loop (C := (qc_X2_lengthBetween_L5 L xs P M (zf_X2_lengthBetween_L5 20000 n))) (qz_X2_lengthBetween_L5_b n hS hM ei1 ei2 ei3 ei4) ?_
    rintro x s ⟨_, _, _, _, _, rfl, u0, u1, u2, u3, hS2, hM2⟩
    exact ih hS2 hM2 u0 u1 u2 u3
set_option maxRecDepth 20000 in
theorem qz_X2_lengthBetween {P : Nat → Nat} {S : zm_S} {M : qm} {i1 : Int32} {qi1 : Int} {i2 : Int32} {qi2 : Int} (hS : Sh L xs P S) (hM : qM P S = M) (ei1 : i1.toInt = qi1) (ei2 : i2.toInt = qi2) : qs (zf_X2_lengthBetween 20000 51 i1 i2 S) (qf_X2_lengthBetween 20000 qi1 qi2 M) (tO (rp L xs P M vi)) := by
  unfold zf_X2_lengthBetween qf_X2_lengthBetween
  refine qs_lp (qz_X2_lengthBetween_L5 20000 hS hM ei1 ei2 k_0 k_0) ?_ ?_
  · intro v1653 S1653 w1653 h1653 hS1653 hM1653
    dsimp only
    exact qs_tp h1653 hS1653 hM1653
  · intro v1653 S1653 w1653 h1653 hS1653 hM1653
    dsimp only
    exact qs_tp (show vi _ _ from h1653) hS1653 hM1653
set_option maxRecDepth 20000 in
theorem qz_X11_between_J21 {P : Nat → Nat} {S : zm_S} {M : qm} {i1 : Int32} {qi1 : Int} {i2 : Int32} {qi2 : Int} {t0 : Int32} {qt0 : Int} (hS : Sh L xs P S) (hM : qM P S = M) (ei1 : i1.toInt = qi1) (ei2 : i2.toInt = qi2) (et0 : t0.toInt = qt0) : qs (zf_X11_between_J21 20000 6 i1 i2 t0 S) (qf_X11_between_J21 20000 qi1 qi2 qt0 M) (tO (rp L xs P M (vs vi ve))) := by
  unfold zf_X11_between_J21 qf_X11_between_J21
  refine qs_xp (qz_X11_needArgument hS hM et0) ?_ ?_
  · intro v1655 S1655 w1655 h1655 hS1655 hM1655
    dsimp only
    refine qs_gr hS1655 pl_6 ts_6 rfl ?_
    refine qs_gi hS1655 hM1655 pl_51 ts_51 (z := 2) rfl rfl (fun v1657 h1657 => ?_)
    refine qs_xp (qz_X11_needState hS1655 hM1655 h1657) ?_ ?_
    · intro v1659 S1659 w1659 h1659 hS1659 hM1659
      dsimp only
      refine qs_gr hS1659 pl_6 ts_6 rfl ?_
      refine qs_zi hS1659 pl_51 ts_51 ?_
      refine qs_bp (qz_X2_lengthBetween hS1659 hM1659 ei1 ei2) (fun v1662 S1662 w1662 h1662 hS1662 hM1662 => ?_)
      exact qs_tp (show (vs vi ve) _ _ from h1662) hS1662 hM1662
    · intro v1659 S1659 hS1659 hM1659
      dsimp only
      exact qs_tp (show (vs vi ve) _ _ from rfl) hS1659 hM1659
  · intro v1655 S1655 hS1655 hM1655
    dsimp only
    exact qs_tp (show (vs vi ve) _ _ from rfl) hS1655 hM1655
set_option maxRecDepth 20000 in
theorem qz_X11_between_J20 {P : Nat → Nat} {S : zm_S} {M : qm} {i1 : Int32} {qi1 : Int} {i2 : Int32} {qi2 : Int} (hS : Sh L xs P S) (hM : qM P S = M) (ei1 : i1.toInt = qi1) (ei2 : i2.toInt = qi2) : qs (zf_X11_between_J20 20000 6 i1 i2 S) (qf_X11_between_J20 20000 qi1 qi2 M) (tO (rp L xs P M (vs vi ve))) := by
  unfold zf_X11_between_J20 qf_X11_between_J20
  exact (qz_X11_between_J21 hS hM ei1 ei2 k_0)
set_option maxRecDepth 20000 in
theorem qz_X11_isSpaceOrOutside {P : Nat → Nat} {S : zm_S} {M : qm} {i1 : Int32} {qi1 : Int} (hS : Sh L xs P S) (hM : qM P S = M) (ei1 : i1.toInt = qi1) : qs (zf_X11_isSpaceOrOutside 20000 6 i1 S) (qf_X11_isSpaceOrOutside 20000 qi1 M) (tO (rp L xs P M vi)) := by
  unfold zf_X11_isSpaceOrOutside qf_X11_isSpaceOrOutside
  refine qs_zi hS pl_6 ts_6 ?_
  refine qs_bp (qz_X11_isSpace hS hM ei1) (fun v1664 S1664 w1664 h1664 hS1664 hM1664 => ?_)
  refine qs_ite (c_eq h1664 k_0) ?_ ?_
  · refine qs_ite (c_eq ei1 k_m1) ?_ ?_
    · refine qs_gr hS1664 pl_6 ts_6 rfl ?_
      refine qs_gi hS1664 hM1664 pl_51 ts_51 (z := 1) rfl rfl (fun v1666 h1666 => ?_)
      refine qs_ite (c_le h1666 k_0) ?_ ?_
      · exact qs_tp (show vi _ _ from k_0) hS1664 hM1664
      · exact qs_tp (show vi _ _ from k_1) hS1664 hM1664
    · exact qs_tp (show vi _ _ from k_0) hS1664 hM1664
  · exact qs_tp (show vi _ _ from k_1) hS1664 hM1664
set_option maxRecDepth 20000 in
theorem qz_X11_between {P : Nat → Nat} {S : zm_S} {M : qm} {i1 : Int32} {qi1 : Int} {i2 : Int32} {qi2 : Int} (hS : Sh L xs P S) (hM : qM P S = M) (ei1 : i1.toInt = qi1) (ei2 : i2.toInt = qi2) : qs (zf_X11_between 20000 6 i1 i2 S) (qf_X11_between 20000 qi1 qi2 M) (tO (rp L xs P M (vs vi ve))) := by
  unfold zf_X11_between qf_X11_between
  refine qs_zi hS pl_6 ts_6 ?_
  refine qs_bp (qz_X11_isSpace hS hM ei1) (fun v1668 S1668 w1668 h1668 hS1668 hM1668 => ?_)
  refine qs_ite (c_eq h1668 k_0) ?_ ?_
  · exact (qz_X11_between_J20 hS1668 hM1668 ei1 ei2)
  · refine qs_zi hS1668 pl_6 ts_6 ?_
    refine qs_bp (qz_X11_isSpaceOrOutside hS1668 hM1668 ei2) (fun v1670 S1670 w1670 h1670 hS1670 hM1670 => ?_)
    refine qs_ite (c_eq h1670 k_0) ?_ ?_
    · exact (qz_X11_between_J20 hS1670 hM1670 ei1 ei2)
    · exact (qz_X11_between_J21 hS1670 hM1670 ei1 ei2 k_1)
set_option maxRecDepth 20000 in
theorem qz_L_between {P : Nat → Nat} {S : zm_S} {M : qm} {i1 : Int32} {qi1 : Int} {i2 : Int32} {qi2 : Int} (hS : Sh L xs P S) (hM : qM P S = M) (ei1 : i1.toInt = qi1) (ei2 : i2.toInt = qi2) : qs (zf_L_between 20000 6 i1 i2 2332 S) (qf_L_between 20000 qi1 qi2 M) (tO (rr L xs P vi)) := by
  unfold zf_L_between qf_L_between
  refine qs_zi hS pl_6 ts_6 ?_
  refine qs_xp (qz_X11_between hS hM ei1 ei2) ?_ ?_
  · intro v1673 S1673 w1673 h1673 hS1673 hM1673
    dsimp only
    refine qs_sl hS1673 hM1673 (pa_p hS1673 pl_2332 ts_2332) k_0 (by decide) (p_64 h1673) (fun S1674 M1674 hS1674 hM1674 => ?_)
    exact qs_tr (show vi _ _ from k_0) hS1674 hM1674
  · intro v1673 S1673 hS1673 hM1673
    dsimp only
    refine qs_ite Iff.rfl ?_ ?_
    · exact qs_tr (show vi _ _ from k_1) hS1673 hM1673
    · refine qs_ite Iff.rfl ?_ ?_
      · exact qs_tr (show vi _ _ from k_2) hS1673 hM1673
      · exact qs_none
set_option maxRecDepth 20000 in
theorem qz_X16_beside_J47 {P : Nat → Nat} {S : zm_S} {M : qm} {i1 : Int32} {qi1 : Int} {i2 : Int32} {qi2 : Int} {i4 : Int32} {qi4 : Int} {t0 : Int32} {qt0 : Int} {t1 : Int32} {qt1 : Int} (hS : Sh L xs P S) (hM : qM P S = M) (ei1 : i1.toInt = qi1) (ei2 : i2.toInt = qi2) (ei4 : i4.toInt = qi4) (et0 : t0.toInt = qt0) (et1 : t1.toInt = qt1) {k : Nat → Int32 → Int32 → Int32 → Int32 → zm_S → Option ((Int32 × zm_S) ⊕ ((Int32) × zm_S))} : qs (zf_X16_beside_J47 20000 k 2157 i1 i2 i4 t0 t1 S) (qf_X16_beside_J47 20000 qi1 qi2 qi4 qt0 qt1 M) (tk (vs (rp L xs P M vi) (rp L xs P M vi)) (qc_X16_beside_L5 L xs P M k)) := by
  unfold zf_X16_beside_J47 qf_X16_beside_J47
  exact qs_tk ⟨_, _, _, _, _, rfl, ei1, ei2, (p_add et0 et1), (p_add ei4 k_1), hS, hM⟩
set_option maxRecDepth 20000 in
theorem qz_X16_beside_J46 {P : Nat → Nat} {S : zm_S} {M : qm} {i1 : Int32} {qi1 : Int} {i2 : Int32} {qi2 : Int} {i4 : Int32} {qi4 : Int} {t0 : Int32} {qt0 : Int} (hS : Sh L xs P S) (hM : qM P S = M) (ei1 : i1.toInt = qi1) (ei2 : i2.toInt = qi2) (ei4 : i4.toInt = qi4) (et0 : t0.toInt = qt0) {k : Nat → Int32 → Int32 → Int32 → Int32 → zm_S → Option ((Int32 × zm_S) ⊕ ((Int32) × zm_S))} : qs (zf_X16_beside_J46 20000 k 2157 i1 i2 i4 t0 S) (qf_X16_beside_J46 20000 qi1 qi2 qi4 qt0 M) (tk (vs (rp L xs P M vi) (rp L xs P M vi)) (qc_X16_beside_L5 L xs P M k)) := by
  unfold zf_X16_beside_J46 qf_X16_beside_J46
  exact (qz_X16_beside_J47 hS hM ei1 ei2 ei4 et0 k_0)
set_option maxRecDepth 20000 in
theorem qz_X16_beside_L5_b (n : Nat) {P : Nat → Nat} {S : zm_S} {M : qm} {i1 : Int32} {qi1 : Int} {i2 : Int32} {qi2 : Int} {i3 : Int32} {qi3 : Int} {i4 : Int32} {qi4 : Int} (hS : Sh L xs P S) (hM : qM P S = M) (ei1 : i1.toInt = qi1) (ei2 : i2.toInt = qi2) (ei3 : i3.toInt = qi3) (ei4 : i4.toInt = qi4) : qs (zf_X16_beside_L5 20000 (n + 1) 2157 i1 i2 i3 i4 S) (qf_X16_beside_L5_b 20000 qi1 qi2 qi3 qi4 M) (tk (vs (rp L xs P M vi) (rp L xs P M vi)) (qc_X16_beside_L5 L xs P M (zf_X16_beside_L5 20000 n))) := by
  refine qs_eq (zf_X16_beside_L5.eq_2 ..) ?_
  unfold qf_X16_beside_L5_b
  refine qs_gi hS hM pl_2157 ts_2157 (z := 30) rfl rfl (fun v1675 h1675 => ?_)
  refine qs_ite (c_le (p_mul k_2 h1675) ei4) ?_ ?_
  · exact qs_tp2 (show vi _ _ from ei3) hS hM
  · refine qs_zi hS pl_2157 ts_2157 ?_
    refine qs_bp (qz_X16_left hS hM ei4) (fun v1677 S1677 w1677 h1677 hS1677 hM1677 => ?_)
    refine qs_ite (c_eq h1677 ei1) ?_ ?_
    · refine qs_zi hS1677 pl_2157 ts_2157 ?_
      refine qs_bp (qz_X16_right hS1677 hM1677 ei4) (fun v1679 S1679 w1679 h1679 hS1679 hM1679 => ?_)
      refine qs_ite (c_eq h1679 ei2) ?_ ?_
      · refine qs_zi hS1679 pl_2157 ts_2157 ?_
        refine qs_bp (qz_X16_sideLength hS1679 hM1679 ei4) (fun v1681 S1681 w1681 h1681 hS1681 hM1681 => ?_)
        exact (qz_X16_beside_J47 hS1681 hM1681 ei1 ei2 ei4 ei3 h1681)
      · exact (qz_X16_beside_J46 hS1679 hM1679 ei1 ei2 ei4 ei3)
    · exact (qz_X16_beside_J46 hS1677 hM1677 ei1 ei2 ei4 ei3)
theorem qz_X16_beside_L5 (n : Nat) : ∀ {P : Nat → Nat} {S : zm_S} {M : qm} {i1 : Int32} {qi1 : Int} {i2 : Int32} {qi2 : Int} {i3 : Int32} {qi3 : Int} {i4 : Int32} {qi4 : Int} (hS : Sh L xs P S) (hM : qM P S = M) (ei1 : i1.toInt = qi1) (ei2 : i2.toInt = qi2) (ei3 : i3.toInt = qi3) (ei4 : i4.toInt = qi4), qs (zf_X16_beside_L5 20000 n 2157 i1 i2 i3 i4 S) (qf_X16_beside_L5 20000 n qi1 qi2 qi3 qi4 M) (tO (vs (rp L xs P M vi) (rp L xs P M vi))) := by
  induction n with
  | zero =>
    intros
    exact qs_none
  | succ n ih =>
    intro P S M i1 qi1 i2 qi2 i3 qi3 i4 qi4 hS hM ei1 ei2 ei3 ei4
    unfold qf_X16_beside_L5
    refine qs_loop (C := (qc_X16_beside_L5 L xs P M (zf_X16_beside_L5 20000 n))) (qz_X16_beside_L5_b n hS hM ei1 ei2 ei3 ei4) ?_
    rintro x s ⟨_, _, _, _, _, rfl, u0, u1, u2, u3, hS2, hM2⟩
    exact ih hS2 hM2 u0 u1 u2 u3
set_option maxRecDepth 20000 in
theorem qz_X16_beside {P : Nat → Nat} {S : zm_S} {M : qm} {i1 : Int32} {qi1 : Int} {i2 : Int32} {qi2 : Int} (hS : Sh L xs P S) (hM : qM P S = M) (ei1 : i1.toInt = qi1) (ei2 : i2.toInt = qi2) : qs (zf_X16_beside 20000 2157 i1 i2 S) (qf_X16_beside 20000 qi1 qi2 M) (tO (rp L xs P M vi)) := by
  unfold zf_X16_beside qf_X16_beside
  refine qs_lp (qz_X16_beside_L5 20000 hS hM ei1 ei2 k_0 k_0) ?_ ?_
  · intro v1683 S1683 w1683 h1683 hS1683 hM1683
    dsimp only
    exact qs_tp h1683 hS1683 hM1683
  · intro v1683 S1683 w1683 h1683 hS1683 hM1683
    dsimp only
    exact qs_tp (show vi _ _ from h1683) hS1683 hM1683
set_option maxRecDepth 20000 in
theorem qz_X16_between {P : Nat → Nat} {S : zm_S} {M : qm} {i1 : Int32} {qi1 : Int} {i2 : Int32} {qi2 : Int} (hS : Sh L xs P S) (hM : qM P S = M) (ei1 : i1.toInt = qi1) (ei2 : i2.toInt = qi2) : qs (zf_X16_between 20000 2157 i1 i2 S) (qf_X16_between 20000 qi1 qi2 M) (tO (rp L xs P M vi)) := by
  unfold zf_X16_between qf_X16_between
  refine qs_ite (c_eq ei1 ei2) ?_ ?_
  · refine qs_zi hS pl_2157 ts_2157 ?_
    refine qs_bp (qz_X16_beside hS hM ei1 ei1) (fun v1685 S1685 w1685 h1685 hS1685 hM1685 => ?_)
    exact qs_tp (show vi _ _ from (p_div h1685 k_2 (by decide))) hS1685 hM1685
  · refine qs_zi hS pl_2157 ts_2157 ?_
    refine qs_bp (qz_X16_beside hS hM ei1 ei2) (fun v1687 S1687 w1687 h1687 hS1687 hM1687 => ?_)
    exact qs_tp (show vi _ _ from h1687) hS1687 hM1687
set_option maxRecDepth 20000 in
theorem qz_X18_between_J28 {P : Nat → Nat} {S : zm_S} {M : qm} {i1 : Int32} {qi1 : Int} {i2 : Int32} {qi2 : Int} {t1 : Int32} {qt1 : Int} (hS : Sh L xs P S) (hM : qM P S = M) (ei1 : i1.toInt = qi1) (ei2 : i2.toInt = qi2) (et1 : t1.toInt = qt1) : qs (zf_X18_between_J28 20000 2156 i1 i2 2156 t1 S) (qf_X18_between_J28 20000 qi1 qi2 qt1 M) (tO (rr L xs P vi)) := by
  unfold zf_X18_between_J28 qf_X18_between_J28
  refine qs_gr hS pl_2156 ts_2156 rfl ?_
  refine qs_gi hS hM pl_2157 ts_2157 (z := 10) rfl rfl (fun v1689 h1689 => ?_)
  refine qs_zi hS pl_2156 ts_2156 ?_
  refine qs_b (qz_X18_goes hS hM et1 h1689) (fun v1691 S1691 w1691 M1691 h1691 hS1691 hM1691 => ?_)
  refine qs_ite (c_eq h1691 k_0) ?_ ?_
  · exact qs_tr (show vi _ _ from k_0) hS1691 hM1691
  · refine qs_gr hS1691 pl_2156 ts_2156 rfl ?_
    refine qs_zi hS1691 pl_2157 ts_2157 ?_
    refine qs_bp (qz_X16_between hS1691 hM1691 ei1 ei2) (fun v1694 S1694 w1694 h1694 hS1694 hM1694 => ?_)
    exact qs_tr (show vi _ _ from h1694) hS1694 hM1694
set_option maxRecDepth 20000 in
theorem qz_X18_between_J27 {P : Nat → Nat} {S : zm_S} {M : qm} {i1 : Int32} {qi1 : Int} {i2 : Int32} {qi2 : Int} (hS : Sh L xs P S) (hM : qM P S = M) (ei1 : i1.toInt = qi1) (ei2 : i2.toInt = qi2) : qs (zf_X18_between_J27 20000 2156 i1 i2 2156 S) (qf_X18_between_J27 20000 qi1 qi2 M) (tO (rr L xs P vi)) := by
  unfold zf_X18_between_J27 qf_X18_between_J27
  exact (qz_X18_between_J28 hS hM ei1 ei2 k_0)
set_option maxRecDepth 20000 in
theorem qz_X16_isAny {P : Nat → Nat} {S : zm_S} {M : qm} {i1 : Int32} {qi1 : Int} (hS : Sh L xs P S) (hM : qM P S = M) (ei1 : i1.toInt = qi1) : qs (zf_X16_isAny 20000 2157 i1 S) (qf_X16_isAny 20000 qi1 M) (tO (rp L xs P M vi)) := by
  unfold zf_X16_isAny qf_X16_isAny
  refine qs_gi hS hM pl_2157 ts_2157 (z := 9) rfl rfl (fun v1695 h1695 => ?_)
  refine qs_ite (c_eq h1695 k_0) ?_ ?_
  · exact qs_tp (show vi _ _ from k_0) hS hM
  · refine qs_ite (c_lt ei1 k_m1) ?_ ?_
    · exact qs_tp (show vi _ _ from k_0) hS hM
    · refine qs_gi hS hM pl_2157 ts_2157 (z := 17) rfl rfl (fun v1696 h1696 => ?_)
      refine qs_ite (c_le h1696 ei1) ?_ ?_
      · exact qs_tp (show vi _ _ from k_0) hS hM
      · exact qs_tp (show vi _ _ from k_1) hS hM
set_option maxRecDepth 20000 in
theorem qz_X18_between {P : Nat → Nat} {S : zm_S} {M : qm} {i1 : Int32} {qi1 : Int} {i2 : Int32} {qi2 : Int} (hS : Sh L xs P S) (hM : qM P S = M) (ei1 : i1.toInt = qi1) (ei2 : i2.toInt = qi2) : qs (zf_X18_between 20000 2156 i1 i2 S) (qf_X18_between 20000 qi1 qi2 M) (tO (rr L xs P vi)) := by
  unfold zf_X18_between qf_X18_between
  refine qs_gr hS pl_2156 ts_2156 rfl ?_
  refine qs_zi hS pl_2157 ts_2157 ?_
  refine qs_bp (qz_X16_isSpace hS hM ei1) (fun v1699 S1699 w1699 h1699 hS1699 hM1699 => ?_)
  refine qs_ite (c_eq h1699 k_0) ?_ ?_
  · exact (qz_X18_between_J27 hS1699 hM1699 ei1 ei2)
  · refine qs_gr hS1699 pl_2156 ts_2156 rfl ?_
    refine qs_zi hS1699 pl_2157 ts_2157 ?_
    refine qs_bp (qz_X16_isAny hS1699 hM1699 ei2) (fun v1702 S1702 w1702 h1702 hS1702 hM1702 => ?_)
    refine qs_ite (c_eq h1702 k_0) ?_ ?_
    · exact (qz_X18_between_J27 hS1702 hM1702 ei1 ei2)
    · exact (qz_X18_between_J28 hS1702 hM1702 ei1 ei2 k_1)
set_option maxRecDepth 20000 in
theorem qz_X8_toOf {P : Nat → Nat} {S : zm_S} {M : qm} {i1 : Int32} {qi1 : Int} {i2 : Int32} {qi2 : Int} (hS : Sh L xs P S) (hM : qM P S = M) (ei1 : i1.toInt = qi1) (ei2 : i2.toInt = qi2) : qs (zf_X8_toOf 20000 7 i1 i2 S) (qf_X8_toOf 20000 qi1 qi2 M) (tO (rp L xs P M vi)) := by
  unfold zf_X8_toOf qf_X8_toOf
  refine qs_gr hS pl_7 ts_7 rfl ?_
  refine qs_gd (fun g1705 => ?_)
  refine qs_xt hS pl_30 ts_30 (Or.inl rfl) ei1 g1705 (fun b1704 r1704 => ?_)
  refine qs_gd (fun g1707 => ?_)
  refine qs_yi hS hM qt_30 tq_30 r1704 (p_add (p_mul k_3 ei2) k_1) g1707 (fun v1706 h1706 => ?_)
  exact qs_tp (show vi _ _ from h1706) hS hM
set_option maxRecDepth 20000 in
theorem qz_X8_fromOf {P : Nat → Nat} {S : zm_S} {M : qm} {i1 : Int32} {qi1 : Int} {i2 : Int32} {qi2 : Int} (hS : Sh L xs P S) (hM : qM P S = M) (ei1 : i1.toInt = qi1) (ei2 : i2.toInt = qi2) : qs (zf_X8_fromOf 20000 7 i1 i2 S) (qf_X8_fromOf 20000 qi1 qi2 M) (tO (rp L xs P M vi)) := by
  unfold zf_X8_fromOf qf_X8_fromOf
  refine qs_gr hS pl_7 ts_7 rfl ?_
  refine qs_gd (fun g1710 => ?_)
  refine qs_xt hS pl_30 ts_30 (Or.inl rfl) ei1 g1710 (fun b1709 r1709 => ?_)
  refine qs_gd (fun g1712 => ?_)
  refine qs_yi hS hM qt_30 tq_30 r1709 (p_mul k_3 ei2) g1712 (fun v1711 h1711 => ?_)
  exact qs_tp (show vi _ _ from h1711) hS hM
set_option maxRecDepth 20000 in
theorem qz_X2_unitX {P : Nat → Nat} {S : zm_S} {M : qm} {i1 : Int32} {qi1 : Int} {i2 : Int32} {qi2 : Int} (hS : Sh L xs P S) (hM : qM P S = M) (ei1 : i1.toInt = qi1) (ei2 : i2.toInt = qi2) : qs (zf_X2_unitX 20000 51 i1 i2 S) (qf_X2_unitX 20000 qi1 qi2 M) (tO (rp L xs P M vi)) := by
  unfold zf_X2_unitX qf_X2_unitX
  refine qs_gr hS pl_51 ts_51 rfl ?_
  refine qs_gr hS pl_7 ts_7 rfl ?_
  refine qs_gd (fun g1716 => ?_)
  refine qs_xt hS pl_8 ts_8 (Or.inl rfl) ei1 g1716 (fun b1715 r1715 => ?_)
  refine qs_yi (j := 0) hS hM qt_8 tq_8 r1715 k_0 (by decide) (fun v1717 h1717 => ?_)
  refine qs_gr hS pl_51 ts_51 rfl ?_
  refine qs_zi hS pl_7 ts_7 ?_
  refine qs_bp (qz_X8_isLevel hS hM ei1) (fun v1720 S1720 w1720 h1720 hS1720 hM1720 => ?_)
  refine qs_ite (c_eq h1720 k_0) ?_ ?_
  · exact qs_tp (show vi _ _ from (p_add h1717 k_0)) hS1720 hM1720
  · exact qs_tp (show vi _ _ from (p_add h1717 ei2)) hS1720 hM1720
set_option maxRecDepth 20000 in
theorem qz_X2_unitY {P : Nat → Nat} {S : zm_S} {M : qm} {i1 : Int32} {qi1 : Int} {i2 : Int32} {qi2 : Int} (hS : Sh L xs P S) (hM : qM P S = M) (ei1 : i1.toInt = qi1) (ei2 : i2.toInt = qi2) : qs (zf_X2_unitY 20000 51 i1 i2 S) (qf_X2_unitY 20000 qi1 qi2 M) (tO (rp L xs P M vi)) := by
  unfold zf_X2_unitY qf_X2_unitY
  refine qs_gr hS pl_51 ts_51 rfl ?_
  refine qs_gr hS pl_7 ts_7 rfl ?_
  refine qs_gd (fun g1724 => ?_)
  refine qs_xt hS pl_8 ts_8 (Or.inl rfl) ei1 g1724 (fun b1723 r1723 => ?_)
  refine qs_yi (j := 1) hS hM qt_8 tq_8 r1723 k_1 (by decide) (fun v1725 h1725 => ?_)
  refine qs_gr hS pl_51 ts_51 rfl ?_
  refine qs_zi hS pl_7 ts_7 ?_
  refine qs_bp (qz_X8_isLevel hS hM ei1) (fun v1728 S1728 w1728 h1728 hS1728 hM1728 => ?_)
  refine qs_ite (c_eq h1728 k_0) ?_ ?_
  · exact qs_tp (show vi _ _ from (p_add h1725 ei2)) hS1728 hM1728
  · exact qs_tp (show vi _ _ from (p_add h1725 k_0)) hS1728 hM1728
set_option maxRecDepth 20000 in
theorem qz_X2_roomLeft {P : Nat → Nat} {S : zm_S} {M : qm} {i1 : Int32} {qi1 : Int} {i2 : Int32} {qi2 : Int} (hS : Sh L xs P S) (hM : qM P S = M) (ei1 : i1.toInt = qi1) (ei2 : i2.toInt = qi2) : qs (zf_X2_roomLeft 20000 51 i1 i2 S) (qf_X2_roomLeft 20000 qi1 qi2 M) (tO (rp L xs P M vi)) := by
  unfold zf_X2_roomLeft qf_X2_roomLeft
  refine qs_zi hS pl_51 ts_51 ?_
  refine qs_bp (qz_X2_unitX hS hM ei1 ei2) (fun v1730 S1730 w1730 h1730 hS1730 hM1730 => ?_)
  refine qs_zi hS1730 pl_51 ts_51 ?_
  refine qs_bp (qz_X2_unitY hS1730 hM1730 ei1 ei2) (fun v1732 S1732 w1732 h1732 hS1732 hM1732 => ?_)
  refine qs_gr hS1732 pl_51 ts_51 rfl ?_
  refine qs_zi hS1732 pl_7 ts_7 ?_
  refine qs_bp (qz_X8_isLevel hS1732 hM1732 ei1) (fun v1735 S1735 w1735 h1735 hS1735 hM1735 => ?_)
  refine qs_ite (c_eq h1735 k_0) ?_ ?_
  · refine qs_zi hS1735 pl_51 ts_51 ?_
    refine qs_bp (qz_X2_spaceAt hS1735 hM1735 (p_sub h1730 k_1) h1732) (fun v1737 S1737 w1737 h1737 hS1737 hM1737 => ?_)
    exact qs_tp (show vi _ _ from h1737) hS1737 hM1737
  · refine qs_zi hS1735 pl_51 ts_51 ?_
    refine qs_bp (qz_X2_spaceAt hS1735 hM1735 h1730 h1732) (fun v1739 S1739 w1739 h1739 hS1739 hM1739 => ?_)
    exact qs_tp (show vi _ _ from h1739) hS1739 hM1739
set_option maxRecDepth 20000 in
theorem qz_X2_roomRight {P : Nat → Nat} {S : zm_S} {M : qm} {i1 : Int32} {qi1 : Int} {i2 : Int32} {qi2 : Int} (hS : Sh L xs P S) (hM : qM P S = M) (ei1 : i1.toInt = qi1) (ei2 : i2.toInt = qi2) : qs (zf_X2_roomRight 20000 51 i1 i2 S) (qf_X2_roomRight 20000 qi1 qi2 M) (tO (rp L xs P M vi)) := by
  unfold zf_X2_roomRight qf_X2_roomRight
  refine qs_zi hS pl_51 ts_51 ?_
  refine qs_bp (qz_X2_unitX hS hM ei1 ei2) (fun v1741 S1741 w1741 h1741 hS1741 hM1741 => ?_)
  refine qs_zi hS1741 pl_51 ts_51 ?_
  refine qs_bp (qz_X2_unitY hS1741 hM1741 ei1 ei2) (fun v1743 S1743 w1743 h1743 hS1743 hM1743 => ?_)
  refine qs_gr hS1743 pl_51 ts_51 rfl ?_
  refine qs_zi hS1743 pl_7 ts_7 ?_
  refine qs_bp (qz_X8_isLevel hS1743 hM1743 ei1) (fun v1746 S1746 w1746 h1746 hS1746 hM1746 => ?_)
  refine qs_ite (c_eq h1746 k_0) ?_ ?_
  · refine qs_zi hS1746 pl_51 ts_51 ?_
    refine qs_bp (qz_X2_spaceAt hS1746 hM1746 h1741 h1743) (fun v1748 S1748 w1748 h1748 hS1748 hM1748 => ?_)
    exact qs_tp (show vi _ _ from h1748) hS1748 hM1748
  · refine qs_zi hS1746 pl_51 ts_51 ?_
    refine qs_bp (qz_X2_spaceAt hS1746 hM1746 h1741 (p_sub h1743 k_1)) (fun v1750 S1750 w1750 h1750 hS1750 hM1750 => ?_)
    exact qs_tp (show vi _ _ from h1750) hS1750 hM1750
set_option maxRecDepth 20000 in
theorem qz_X2_goThrough_J92 {P : Nat → Nat} {S : zm_S} {M : qm} {i1 : Int32} {qi1 : Int} {i3 : Int32} {qi3 : Int} {i4 : Int32} {qi4 : Int} {i5 : Int32} {qi5 : Int} {i6 : Int32} {qi6 : Int} {i7 : Int32} {qi7 : Int} {i8 : Int32} {qi8 : Int} (hS : Sh L xs P S) (hM : qM P S = M) (ei1 : i1.toInt = qi1) (ei3 : i3.toInt = qi3) (ei4 : i4.toInt = qi4) (ei5 : i5.toInt = qi5) (ei6 : i6.toInt = qi6) (ei7 : i7.toInt = qi7) (ei8 : i8.toInt = qi8) {k : Nat → Int32 → Int32 → Int32 → Int32 → Int32 → zm_S → Option ((Int32 × zm_S) ⊕ ((Int32) × zm_S))} : qs (zf_X2_goThrough_J92 20000 k 51 i1 i3 i4 i5 i6 i7 i8 S) (qf_X2_goThrough_J92 20000 qi1 qi3 qi4 qi5 qi6 qi7 qi8 M) (tk (vs (rr L xs P vi) (rr L xs P vi)) (qc_X2_goThrough_L25 L xs P k)) := by
  unfold zf_X2_goThrough_J92 qf_X2_goThrough_J92
  refine qs_gr hS pl_51 ts_51 rfl ?_
  refine qs_gd (fun g1753 => ?_)
  refine qs_xi hM (pa_p hS pl_725 ts_725) ei8 g1753 (fun v1752 h1752 => ?_)
  refine qs_ite (c_eq h1752 ei3) ?_ ?_
  · refine qs_gr hS pl_51 ts_51 rfl ?_
    refine qs_gd (fun g1756 => ?_)
    refine qs_xi hM (pa_p hS pl_725 ts_725) ei7 g1756 (fun v1755 h1755 => ?_)
    refine qs_ite (c_eq h1755 k_m1) ?_ ?_
    · refine qs_gr hS pl_51 ts_51 rfl ?_
      refine qs_gd (fun g1759 => ?_)
      refine qs_si hS hM (pa_p hS pl_725 ts_725) ei7 g1759 (p_add ei3 k_1) (fun S1758 M1758 hS1758 hM1758 => ?_)
      exact qs_tk ⟨_, _, _, _, _, _, rfl, ei1, ei3, k_1, ei5, (p_add ei6 k_1), hS1758, hM1758⟩
    · exact qs_tk ⟨_, _, _, _, _, _, rfl, ei1, ei3, ei4, ei5, (p_add ei6 k_1), hS, hM⟩
  · exact qs_tk ⟨_, _, _, _, _, _, rfl, ei1, ei3, ei4, ei5, (p_add ei6 k_1), hS, hM⟩
set_option maxRecDepth 20000 in
theorem qz_X2_goThrough_L25_b (n : Nat) {P : Nat → Nat} {S : zm_S} {M : qm} {i1 : Int32} {qi1 : Int} {i3 : Int32} {qi3 : Int} {i4 : Int32} {qi4 : Int} {i5 : Int32} {qi5 : Int} {i6 : Int32} {qi6 : Int} (hS : Sh L xs P S) (hM : qM P S = M) (ei1 : i1.toInt = qi1) (ei3 : i3.toInt = qi3) (ei4 : i4.toInt = qi4) (ei5 : i5.toInt = qi5) (ei6 : i6.toInt = qi6) : qs (zf_X2_goThrough_L25 20000 (n + 1) 51 i1 i3 i4 i5 i6 S) (qf_X2_goThrough_L25_b 20000 qi1 qi3 qi4 qi5 qi6 M) (tk (vs (rr L xs P vi) (rr L xs P vi)) (qc_X2_goThrough_L25 L xs P (zf_X2_goThrough_L25 20000 n))) := by
  refine qs_eq (zf_X2_goThrough_L25.eq_2 ..) ?_
  unfold qf_X2_goThrough_L25_b
  refine qs_ite (c_le ei5 ei6) ?_ ?_
  · exact qs_tr2 (show vi _ _ from ei4) hS hM
  · refine qs_zi hS pl_51 ts_51 ?_
    refine qs_bp (qz_X2_roomLeft hS hM ei1 ei6) (fun v1761 S1761 w1761 h1761 hS1761 hM1761 => ?_)
    refine qs_zi hS1761 pl_51 ts_51 ?_
    refine qs_bp (qz_X2_roomRight hS1761 hM1761 ei1 ei6) (fun v1763 S1763 w1763 h1763 hS1763 hM1763 => ?_)
    refine qs_gr hS1763 pl_51 ts_51 rfl ?_
    refine qs_gd (fun g1766 => ?_)
    refine qs_xi hM1763 (pa_p hS1763 pl_725 ts_725) (p_add h1761 k_1) g1766 (fun v1765 h1765 => ?_)
    refine qs_ite (c_eq h1765 ei3) ?_ ?_
    · refine qs_gr hS1763 pl_51 ts_51 rfl ?_
      refine qs_gd (fun g1769 => ?_)
      refine qs_xi hM1763 (pa_p hS1763 pl_725 ts_725) (p_add h1763 k_1) g1769 (fun v1768 h1768 => ?_)
      refine qs_ite (c_eq h1768 k_m1) ?_ ?_
      · refine qs_gr hS1763 pl_51 ts_51 rfl ?_
        refine qs_gd (fun g1772 => ?_)
        refine qs_si hS1763 hM1763 (pa_p hS1763 pl_725 ts_725) (p_add h1763 k_1) g1772 (p_add ei3 k_1) (fun S1771 M1771 hS1771 hM1771 => ?_)
        exact qs_tk ⟨_, _, _, _, _, _, rfl, ei1, ei3, k_1, ei5, (p_add ei6 k_1), hS1771, hM1771⟩
      · exact (qz_X2_goThrough_J92 hS1763 hM1763 ei1 ei3 ei4 ei5 ei6 (p_add h1761 k_1) (p_add h1763 k_1))
    · exact (qz_X2_goThrough_J92 hS1763 hM1763 ei1 ei3 ei4 ei5 ei6 (p_add h1761 k_1) (p_add h1763 k_1))
theorem qz_X2_goThrough_L25 (n : Nat) : ∀ {P : Nat → Nat} {S : zm_S} {M : qm} {i1 : Int32} {qi1 : Int} {i3 : Int32} {qi3 : Int} {i4 : Int32} {qi4 : Int} {i5 : Int32} {qi5 : Int} {i6 : Int32} {qi6 : Int} (hS : Sh L xs P S) (hM : qM P S = M) (ei1 : i1.toInt = qi1) (ei3 : i3.toInt = qi3) (ei4 : i4.toInt = qi4) (ei5 : i5.toInt = qi5) (ei6 : i6.toInt = qi6), qs (zf_X2_goThrough_L25 20000 n 51 i1 i3 i4 i5 i6 S) (qf_X2_goThrough_L25 20000 n qi1 qi3 qi4 qi5 qi6 M) (tO (vs (rr L xs P vi) (rr L xs P vi))) := by
  induction n with
  | zero =>
    intros
    exact qs_none
  | succ n ih =>
    intro P S M i1 qi1 i3 qi3 i4 qi4 i5 qi5 i6 qi6 hS hM ei1 ei3 ei4 ei5 ei6
    unfold qf_X2_goThrough_L25
    refine qs_loop (C := (qc_X2_goThrough_L25 L xs P (zf_X2_goThrough_L25 20000 n))) (qz_X2_goThrough_L25_b n hS hM ei1 ei3 ei4 ei5 ei6) ?_
    rintro x s ⟨_, _, _, _, _, _, rfl, u0, u1, u2, u3, u4, hS2, hM2⟩
    exact ih hS2 hM2 u0 u1 u2 u3 u4
set_option maxRecDepth 20000 in
theorem qz_X2_goThrough {P : Nat → Nat} {S : zm_S} {M : qm} {i1 : Int32} {qi1 : Int} {i2 : Int32} {qi2 : Int} {i3 : Int32} {qi3 : Int} (hS : Sh L xs P S) (hM : qM P S = M) (ei1 : i1.toInt = qi1) (ei2 : i2.toInt = qi2) (ei3 : i3.toInt = qi3) : qs (zf_X2_goThrough 20000 51 i1 i2 i3 S) (qf_X2_goThrough 20000 qi1 qi2 qi3 M) (tO (rr L xs P vi)) := by
  unfold zf_X2_goThrough qf_X2_goThrough
  refine qs_gr hS pl_51 ts_51 rfl ?_
  refine qs_zi hS pl_7 ts_7 ?_
  refine qs_bp (qz_X8_toOf hS hM ei1 ei2) (fun v1775 S1775 w1775 h1775 hS1775 hM1775 => ?_)
  refine qs_gr hS1775 pl_51 ts_51 rfl ?_
  refine qs_zi hS1775 pl_7 ts_7 ?_
  refine qs_bp (qz_X8_fromOf hS1775 hM1775 ei1 ei2) (fun v1778 S1778 w1778 h1778 hS1778 hM1778 => ?_)
  refine qs_lr (qz_X2_goThrough_L25 20000 hS1778 hM1778 ei1 ei3 k_0 h1775 h1778) ?_ ?_
  · intro v1780 S1780 w1780 M1780 h1780 hS1780 hM1780
    dsimp only
    exact qs_tr h1780 hS1780 hM1780
  · intro v1780 S1780 w1780 M1780 h1780 hS1780 hM1780
    dsimp only
    refine qs_ite (or_congr (c_eq h1780 k_0) (c_eq h1780 k_1)) ?_ ?_
    · exact qs_tr (show vi _ _ from h1780) hS1780 hM1780
    · exact qs_none
set_option maxRecDepth 20000 in
theorem qz_X2_doorsOnWay_J106 {P : Nat → Nat} {S : zm_S} {M : qm} {i2 : Int32} {qi2 : Int} {i4 : Int32} {qi4 : Int} {i5 : Int32} {qi5 : Int} {i6 : Int32} {qi6 : Int} (hS : Sh L xs P S) (hM : qM P S = M) (ei2 : i2.toInt = qi2) (ei4 : i4.toInt = qi4) (ei5 : i5.toInt = qi5) (ei6 : i6.toInt = qi6) {k : Nat → Int32 → Int32 → Int32 → Int32 → Int32 → zm_S → Option ((Int32 × zm_S) ⊕ ((Int32) × zm_S))} : qs (zf_X2_doorsOnWay_J106 20000 k 51 i2 i4 i5 i6 S) (qf_X2_doorsOnWay_J106 20000 qi2 qi4 qi5 qi6 M) (tk (vs (rr L xs P vi) (rr L xs P vi)) (qc_X2_doorsOnWay_L74 L xs P k)) := by
  unfold zf_X2_doorsOnWay_J106 qf_X2_doorsOnWay_J106
  exact qs_tk ⟨_, _, _, _, _, _, rfl, ei2, k_1, ei4, ei5, (p_add ei6 k_1), hS, hM⟩
set_option maxRecDepth 20000 in
theorem qz_X2_doorsOnWay_L74_b (n : Nat) {P : Nat → Nat} {S : zm_S} {M : qm} {i2 : Int32} {qi2 : Int} {i3 : Int32} {qi3 : Int} {i4 : Int32} {qi4 : Int} {i5 : Int32} {qi5 : Int} {i6 : Int32} {qi6 : Int} (hS : Sh L xs P S) (hM : qM P S = M) (ei2 : i2.toInt = qi2) (ei3 : i3.toInt = qi3) (ei4 : i4.toInt = qi4) (ei5 : i5.toInt = qi5) (ei6 : i6.toInt = qi6) : qs (zf_X2_doorsOnWay_L74 20000 (n + 1) 51 i2 i3 i4 i5 i6 S) (qf_X2_doorsOnWay_L74_b 20000 qi2 qi3 qi4 qi5 qi6 M) (tk (vs (rr L xs P vi) (rr L xs P vi)) (qc_X2_doorsOnWay_L74 L xs P (zf_X2_doorsOnWay_L74 20000 n))) := by
  refine qs_eq (zf_X2_doorsOnWay_L74.eq_2 ..) ?_
  unfold qf_X2_doorsOnWay_L74_b
  refine qs_gr hS pl_51 ts_51 rfl ?_
  refine qs_gr hS pl_7 ts_7 rfl ?_
  refine qs_gd (fun g1784 => ?_)
  refine qs_xi hM (pa_p hS pl_29 ts_29) ei5 g1784 (fun v1783 h1783 => ?_)
  refine qs_ite (c_le h1783 ei6) ?_ ?_
  · exact qs_tr2 (show vi _ _ from ei3) hS hM
  · refine qs_zi hS pl_51 ts_51 ?_
    refine qs_b (qz_X2_goThrough hS hM ei5 ei6 ei4) (fun v1786 S1786 w1786 M1786 h1786 hS1786 hM1786 => ?_)
    refine qs_ite (c_eq h1786 k_0) ?_ ?_
    · refine qs_ite (c_eq ei3 k_0) ?_ ?_
      · exact qs_tk ⟨_, _, _, _, _, _, rfl, ei2, k_0, ei4, ei5, (p_add ei6 k_1), hS1786, hM1786⟩
      · exact (qz_X2_doorsOnWay_J106 hS1786 hM1786 ei2 ei4 ei5 ei6)
    · exact (qz_X2_doorsOnWay_J106 hS1786 hM1786 ei2 ei4 ei5 ei6)
theorem qz_X2_doorsOnWay_L74 (n : Nat) : ∀ {P : Nat → Nat} {S : zm_S} {M : qm} {i2 : Int32} {qi2 : Int} {i3 : Int32} {qi3 : Int} {i4 : Int32} {qi4 : Int} {i5 : Int32} {qi5 : Int} {i6 : Int32} {qi6 : Int} (hS : Sh L xs P S) (hM : qM P S = M) (ei2 : i2.toInt = qi2) (ei3 : i3.toInt = qi3) (ei4 : i4.toInt = qi4) (ei5 : i5.toInt = qi5) (ei6 : i6.toInt = qi6), qs (zf_X2_doorsOnWay_L74 20000 n 51 i2 i3 i4 i5 i6 S) (qf_X2_doorsOnWay_L74 20000 n qi2 qi3 qi4 qi5 qi6 M) (tO (vs (rr L xs P vi) (rr L xs P vi))) := by
  induction n with
  | zero =>
    intros
    exact qs_none
  | succ n ih =>
    intro P S M i2 qi2 i3 qi3 i4 qi4 i5 qi5 i6 qi6 hS hM ei2 ei3 ei4 ei5 ei6
    unfold qf_X2_doorsOnWay_L74
    refine qs_loop (C := (qc_X2_doorsOnWay_L74 L xs P (zf_X2_doorsOnWay_L74 20000 n))) (qz_X2_doorsOnWay_L74_b n hS hM ei2 ei3 ei4 ei5 ei6) ?_
    rintro x s ⟨_, _, _, _, _, _, rfl, u0, u1, u2, u3, u4, hS2, hM2⟩
    exact ih hS2 hM2 u0 u1 u2 u3 u4
set_option maxRecDepth 20000 in
theorem qz_X2_doorsOnWay_L59_b (n : Nat) {P : Nat → Nat} {S : zm_S} {M : qm} {i2 : Int32} {qi2 : Int} {i3 : Int32} {qi3 : Int} {i4 : Int32} {qi4 : Int} {i5 : Int32} {qi5 : Int} (hS : Sh L xs P S) (hM : qM P S = M) (ei2 : i2.toInt = qi2) (ei3 : i3.toInt = qi3) (ei4 : i4.toInt = qi4) (ei5 : i5.toInt = qi5) : qs (zf_X2_doorsOnWay_L59 20000 (n + 1) 51 i2 i3 i4 i5 S) (qf_X2_doorsOnWay_L59_b 20000 qi2 qi3 qi4 qi5 M) (tk (vs (rr L xs P vi) (rr L xs P vi)) (qc_X2_doorsOnWay_L59 L xs P (zf_X2_doorsOnWay_L59 20000 n))) := by
  refine qs_eq (zf_X2_doorsOnWay_L59.eq_2 ..) ?_
  unfold qf_X2_doorsOnWay_L59_b
  refine qs_gr hS pl_51 ts_51 rfl ?_
  refine qs_gi hS hM pl_7 ts_7 (z := 0) rfl rfl (fun v1788 h1788 => ?_)
  refine qs_ite (c_le h1788 ei5) ?_ ?_
  · exact qs_tr2 (show vi _ _ from ei3) hS hM
  · refine qs_lr (qz_X2_doorsOnWay_L74 20000 hS hM ei2 ei3 ei4 ei5 k_0) ?_ ?_
    · intro v1790 S1790 w1790 M1790 h1790 hS1790 hM1790
      dsimp only
      exact qs_tr1 h1790 hS1790 hM1790
    · intro v1790 S1790 w1790 M1790 h1790 hS1790 hM1790
      dsimp only
      exact qs_tk ⟨_, _, _, _, _, rfl, ei2, h1790, ei4, (p_add ei5 k_1), hS1790, hM1790⟩
theorem qz_X2_doorsOnWay_L59 (n : Nat) : ∀ {P : Nat → Nat} {S : zm_S} {M : qm} {i2 : Int32} {qi2 : Int} {i3 : Int32} {qi3 : Int} {i4 : Int32} {qi4 : Int} {i5 : Int32} {qi5 : Int} (hS : Sh L xs P S) (hM : qM P S = M) (ei2 : i2.toInt = qi2) (ei3 : i3.toInt = qi3) (ei4 : i4.toInt = qi4) (ei5 : i5.toInt = qi5), qs (zf_X2_doorsOnWay_L59 20000 n 51 i2 i3 i4 i5 S) (qf_X2_doorsOnWay_L59 20000 n qi2 qi3 qi4 qi5 M) (tO (vs (rr L xs P vi) (rr L xs P vi))) := by
  induction n with
  | zero =>
    intros
    exact qs_none
  | succ n ih =>
    intro P S M i2 qi2 i3 qi3 i4 qi4 i5 qi5 hS hM ei2 ei3 ei4 ei5
    unfold qf_X2_doorsOnWay_L59
    refine qs_loop (C := (qc_X2_doorsOnWay_L59 L xs P (zf_X2_doorsOnWay_L59 20000 n))) (qz_X2_doorsOnWay_L59_b n hS hM ei2 ei3 ei4 ei5) ?_
    rintro x s ⟨_, _, _, _, _, rfl, u0, u1, u2, u3, hS2, hM2⟩
    exact ih hS2 hM2 u0 u1 u2 u3
set_option maxRecDepth 20000 in
theorem qz_X2_doorsOnWay_L29_b (n : Nat) {P : Nat → Nat} {S : zm_S} {M : qm} {i2 : Int32} {qi2 : Int} {i3 : Int32} {qi3 : Int} {i4 : Int32} {qi4 : Int} (hS : Sh L xs P S) (hM : qM P S = M) (ei2 : i2.toInt = qi2) (ei3 : i3.toInt = qi3) (ei4 : i4.toInt = qi4) : qs (zf_X2_doorsOnWay_L29 20000 (n + 1) 51 i2 i3 i4 S) (qf_X2_doorsOnWay_L29_b 20000 qi2 qi3 qi4 M) (tk (vs (rr L xs P vi) (rr L xs P vu)) (qc_X2_doorsOnWay_L29 L xs P (zf_X2_doorsOnWay_L29 20000 n))) := by
  refine qs_eq (zf_X2_doorsOnWay_L29.eq_2 ..) ?_
  unfold qf_X2_doorsOnWay_L29_b
  refine qs_gi hS hM pl_51 ts_51 (z := 3) rfl rfl (fun v1791 h1791 => ?_)
  refine qs_ite (c_lt h1791 ei4) ?_ ?_
  · exact qs_tr2 (show vu _ _ from trivial) hS hM
  · refine qs_ite (c_eq ei3 k_0) ?_ ?_
    · exact qs_tr2 (show vu _ _ from trivial) hS hM
    · refine qs_gr hS pl_51 ts_51 rfl ?_
      refine qs_gd (fun g1794 => ?_)
      refine qs_xi hM (pa_p hS pl_725 ts_725) (p_add ei2 k_1) g1794 (fun v1793 h1793 => ?_)
      refine qs_ite (c_eq h1793 k_m1) ?_ ?_
      · refine qs_lr (qz_X2_doorsOnWay_L59 20000 hS hM ei2 k_0 ei4 k_0) ?_ ?_
        · intro v1796 S1796 w1796 M1796 h1796 hS1796 hM1796
          dsimp only
          exact qs_tr1 h1796 hS1796 hM1796
        · intro v1796 S1796 w1796 M1796 h1796 hS1796 hM1796
          dsimp only
          exact qs_tk ⟨_, _, _, _, rfl, ei2, h1796, (p_add ei4 k_1), hS1796, hM1796⟩
      · exact qs_tr2 (show vu _ _ from trivial) hS hM
theorem qz_X2_doorsOnWay_L29 (n : Nat) : ∀ {P : Nat → Nat} {S : zm_S} {M : qm} {i2 : Int32} {qi2 : Int} {i3 : Int32} {qi3 : Int} {i4 : Int32} {qi4 : Int} (hS : Sh L xs P S) (hM : qM P S = M) (ei2 : i2.toInt = qi2) (ei3 : i3.toInt = qi3) (ei4 : i4.toInt = qi4), qs (zf_X2_doorsOnWay_L29 20000 n 51 i2 i3 i4 S) (qf_X2_doorsOnWay_L29 20000 n qi2 qi3 qi4 M) (tO (vs (rr L xs P vi) (rr L xs P vu))) := by
  induction n with
  | zero =>
    intros
    exact qs_none
  | succ n ih =>
    intro P S M i2 qi2 i3 qi3 i4 qi4 hS hM ei2 ei3 ei4
    unfold qf_X2_doorsOnWay_L29
    refine qs_loop (C := (qc_X2_doorsOnWay_L29 L xs P (zf_X2_doorsOnWay_L29 20000 n))) (qz_X2_doorsOnWay_L29_b n hS hM ei2 ei3 ei4) ?_
    rintro x s ⟨_, _, _, _, rfl, u0, u1, u2, hS2, hM2⟩
    exact ih hS2 hM2 u0 u1 u2
set_option maxRecDepth 20000 in
theorem qz_X2_doorsOnWay_J130 {P : Nat → Nat} {S : zm_S} {M : qm} {i2 : Int32} {qi2 : Int} (hS : Sh L xs P S) (hM : qM P S = M) (ei2 : i2.toInt = qi2) : qs (zf_X2_doorsOnWay_J130 20000 51 i2 S) (qf_X2_doorsOnWay_J130 20000 qi2 M) (tO (rr L xs P vi)) := by
  unfold zf_X2_doorsOnWay_J130 qf_X2_doorsOnWay_J130
  refine qs_gr hS pl_51 ts_51 rfl ?_
  refine qs_gd (fun g1799 => ?_)
  refine qs_xi hM (pa_p hS pl_725 ts_725) (p_add ei2 k_1) g1799 (fun v1798 h1798 => ?_)
  refine qs_ite (c_eq h1798 k_m1) ?_ ?_
  · exact qs_tr (show vi _ _ from k_m2) hS hM
  · refine qs_gr hS pl_51 ts_51 rfl ?_
    refine qs_gd (fun g1802 => ?_)
    refine qs_xi hM (pa_p hS pl_725 ts_725) (p_add ei2 k_1) g1802 (fun v1801 h1801 => ?_)
    exact qs_tr (show vi _ _ from h1801) hS hM
set_option maxRecDepth 20000 in
theorem qz_X2_doorsOnWay {P : Nat → Nat} {S : zm_S} {M : qm} {i1 : Int32} {qi1 : Int} {i2 : Int32} {qi2 : Int} (hS : Sh L xs P S) (hM : qM P S = M) (ei1 : i1.toInt = qi1) (ei2 : i2.toInt = qi2) : qs (zf_X2_doorsOnWay 20000 51 i1 i2 S) (qf_X2_doorsOnWay 20000 qi1 qi2 M) (tO (rr L xs P vi)) := by
  unfold zf_X2_doorsOnWay qf_X2_doorsOnWay
  refine qs_gr hS pl_51 ts_51 rfl ?_
  refine qs_gi hS hM pl_51 ts_51 (z := 3) rfl rfl (fun v1804 h1804 => ?_)
  refine qs_gd (fun g1806 => ?_)
  refine qs_fri hS hM (fun _ h => (pa_p h pl_725 ts_725)) (by decide) k_0 (p_add h1804 k_1) k_m1 ⟨g1806.1, Int.le_refl 0, g1806.2.2⟩ (fun S1805 M1805 hS1805 hM1805 => ?_)
  refine qs_gr hS1805 pl_51 ts_51 rfl ?_
  refine qs_gd (fun g1809 => ?_)
  refine qs_si hS1805 hM1805 (pa_p hS1805 pl_725 ts_725) (p_add ei1 k_1) g1809 k_0 (fun S1808 M1808 hS1808 hM1808 => ?_)
  refine qs_lr (qz_X2_doorsOnWay_L29 20000 hS1808 hM1808 ei2 k_1 k_0) ?_ ?_
  · intro v1811 S1811 w1811 M1811 h1811 hS1811 hM1811
    dsimp only
    exact qs_tr h1811 hS1811 hM1811
  · intro v1811 S1811 w1811 M1811 h1811 hS1811 hM1811
    dsimp only
    exact (qz_X2_doorsOnWay_J130 hS1811 hM1811 ei2)
set_option maxRecDepth 20000 in
theorem qz_X11_way_J21 {P : Nat → Nat} {S : zm_S} {M : qm} {i1 : Int32} {qi1 : Int} {i2 : Int32} {qi2 : Int} {t0 : Int32} {qt0 : Int} (hS : Sh L xs P S) (hM : qM P S = M) (ei1 : i1.toInt = qi1) (ei2 : i2.toInt = qi2) (et0 : t0.toInt = qt0) : qs (zf_X11_way_J21 20000 6 i1 i2 t0 S) (qf_X11_way_J21 20000 qi1 qi2 qt0 M) (tO (rr L xs P (vs vi ve))) := by
  unfold zf_X11_way_J21 qf_X11_way_J21
  refine qs_xp (qz_X11_needArgument hS hM et0) ?_ ?_
  · intro v1813 S1813 w1813 h1813 hS1813 hM1813
    dsimp only
    refine qs_gr hS1813 pl_6 ts_6 rfl ?_
    refine qs_gi hS1813 hM1813 pl_51 ts_51 (z := 2) rfl rfl (fun v1815 h1815 => ?_)
    refine qs_xp (qz_X11_needState hS1813 hM1813 h1815) ?_ ?_
    · intro v1817 S1817 w1817 h1817 hS1817 hM1817
      dsimp only
      refine qs_gr hS1817 pl_6 ts_6 rfl ?_
      refine qs_zi hS1817 pl_51 ts_51 ?_
      refine qs_b (qz_X2_doorsOnWay hS1817 hM1817 ei1 ei2) (fun v1820 S1820 w1820 M1820 h1820 hS1820 hM1820 => ?_)
      exact qs_tr (show (vs vi ve) _ _ from h1820) hS1820 hM1820
    · intro v1817 S1817 hS1817 hM1817
      dsimp only
      exact qs_tr (show (vs vi ve) _ _ from rfl) hS1817 hM1817
  · intro v1813 S1813 hS1813 hM1813
    dsimp only
    exact qs_tr (show (vs vi ve) _ _ from rfl) hS1813 hM1813
set_option maxRecDepth 20000 in
theorem qz_X11_way_J20 {P : Nat → Nat} {S : zm_S} {M : qm} {i1 : Int32} {qi1 : Int} {i2 : Int32} {qi2 : Int} (hS : Sh L xs P S) (hM : qM P S = M) (ei1 : i1.toInt = qi1) (ei2 : i2.toInt = qi2) : qs (zf_X11_way_J20 20000 6 i1 i2 S) (qf_X11_way_J20 20000 qi1 qi2 M) (tO (rr L xs P (vs vi ve))) := by
  unfold zf_X11_way_J20 qf_X11_way_J20
  exact (qz_X11_way_J21 hS hM ei1 ei2 k_0)
set_option maxRecDepth 20000 in
theorem qz_X11_way {P : Nat → Nat} {S : zm_S} {M : qm} {i1 : Int32} {qi1 : Int} {i2 : Int32} {qi2 : Int} (hS : Sh L xs P S) (hM : qM P S = M) (ei1 : i1.toInt = qi1) (ei2 : i2.toInt = qi2) : qs (zf_X11_way 20000 6 i1 i2 S) (qf_X11_way 20000 qi1 qi2 M) (tO (rr L xs P (vs vi ve))) := by
  unfold zf_X11_way qf_X11_way
  refine qs_zi hS pl_6 ts_6 ?_
  refine qs_bp (qz_X11_isSpaceOrOutside hS hM ei1) (fun v1822 S1822 w1822 h1822 hS1822 hM1822 => ?_)
  refine qs_ite (c_eq h1822 k_0) ?_ ?_
  · exact (qz_X11_way_J20 hS1822 hM1822 ei1 ei2)
  · refine qs_zi hS1822 pl_6 ts_6 ?_
    refine qs_bp (qz_X11_isSpaceOrOutside hS1822 hM1822 ei2) (fun v1824 S1824 w1824 h1824 hS1824 hM1824 => ?_)
    refine qs_ite (c_eq h1824 k_0) ?_ ?_
    · exact (qz_X11_way_J20 hS1824 hM1824 ei1 ei2)
    · exact (qz_X11_way_J21 hS1824 hM1824 ei1 ei2 k_1)
set_option maxRecDepth 20000 in
theorem qz_L_way {P : Nat → Nat} {S : zm_S} {M : qm} {i1 : Int32} {qi1 : Int} {i2 : Int32} {qi2 : Int} (hS : Sh L xs P S) (hM : qM P S = M) (ei1 : i1.toInt = qi1) (ei2 : i2.toInt = qi2) : qs (zf_L_way 20000 6 i1 i2 2332 S) (qf_L_way 20000 qi1 qi2 M) (tO (rr L xs P vi)) := by
  unfold zf_L_way qf_L_way
  refine qs_zi hS pl_6 ts_6 ?_
  refine qs_xr (qz_X11_way hS hM ei1 ei2) ?_ ?_
  · intro v1827 S1827 w1827 M1827 h1827 hS1827 hM1827
    dsimp only
    refine qs_sl hS1827 hM1827 (pa_p hS1827 pl_2332 ts_2332) k_0 (by decide) (p_64 h1827) (fun S1828 M1828 hS1828 hM1828 => ?_)
    exact qs_tr (show vi _ _ from k_0) hS1828 hM1828
  · intro v1827 S1827 M1827 hS1827 hM1827
    dsimp only
    refine qs_ite Iff.rfl ?_ ?_
    · exact qs_tr (show vi _ _ from k_1) hS1827 hM1827
    · refine qs_ite Iff.rfl ?_ ?_
      · exact qs_tr (show vi _ _ from k_2) hS1827 hM1827
      · exact qs_none
set_option maxRecDepth 20000 in
theorem qz_X16_way_L2_b (n : Nat) {P : Nat → Nat} {S : zm_S} {M : qm} {i1 : Int32} {qi1 : Int} {i2 : Int32} {qi2 : Int} {i3 : Int32} {qi3 : Int} (hS : Sh L xs P S) (hM : qM P S = M) (ei1 : i1.toInt = qi1) (ei2 : i2.toInt = qi2) (ei3 : i3.toInt = qi3) : qs (zf_X16_way_L2 20000 (n + 1) 2157 i1 i2 i3 S) (qf_X16_way_L2_b 20000 qi1 qi2 qi3 M) (tk (vs (rr L xs P vi) (rr L xs P vu)) (qc_X16_way_L2 L xs P (zf_X16_way_L2 20000 n))) := by
  refine qs_eq (zf_X16_way_L2.eq_2 ..) ?_
  unfold qf_X16_way_L2_b
  refine qs_gi hS hM pl_2157 ts_2157 (z := 17) rfl rfl (fun v1829 h1829 => ?_)
  refine qs_ite (c_lt h1829 ei3) ?_ ?_
  · exact qs_tr2 (show vu _ _ from trivial) hS hM
  · refine qs_gr hS pl_2157 ts_2157 rfl ?_
    refine qs_ite (c_eq ei3 (p_add ei1 k_1)) ?_ ?_
    · refine qs_gd (fun g1832 => ?_)
      refine qs_si hS hM (pa_p hS pl_2183 ts_2183) ei3 g1832 k_0 (fun S1831 M1831 hS1831 hM1831 => ?_)
      exact qs_tk ⟨_, _, _, _, rfl, ei1, ei2, (p_add ei3 k_1), hS1831, hM1831⟩
    · refine qs_gd (fun g1834 => ?_)
      refine qs_si hS hM (pa_p hS pl_2183 ts_2183) ei3 g1834 k_1000 (fun S1833 M1833 hS1833 hM1833 => ?_)
      exact qs_tk ⟨_, _, _, _, rfl, ei1, ei2, (p_add ei3 k_1), hS1833, hM1833⟩
theorem qz_X16_way_L2 (n : Nat) : ∀ {P : Nat → Nat} {S : zm_S} {M : qm} {i1 : Int32} {qi1 : Int} {i2 : Int32} {qi2 : Int} {i3 : Int32} {qi3 : Int} (hS : Sh L xs P S) (hM : qM P S = M) (ei1 : i1.toInt = qi1) (ei2 : i2.toInt = qi2) (ei3 : i3.toInt = qi3), qs (zf_X16_way_L2 20000 n 2157 i1 i2 i3 S) (qf_X16_way_L2 20000 n qi1 qi2 qi3 M) (tO (vs (rr L xs P vi) (rr L xs P vu))) := by
  induction n with
  | zero =>
    intros
    exact qs_none
  | succ n ih =>
    intro P S M i1 qi1 i2 qi2 i3 qi3 hS hM ei1 ei2 ei3
    unfold qf_X16_way_L2
    refine qs_loop (C := (qc_X16_way_L2 L xs P (zf_X16_way_L2 20000 n))) (qz_X16_way_L2_b n hS hM ei1 ei2 ei3) ?_
    rintro x s ⟨_, _, _, _, rfl, u0, u1, u2, hS2, hM2⟩
    exact ih hS2 hM2 u0 u1 u2
set_option maxRecDepth 20000 in
theorem qz_X16_hasDoor_J107 {P : Nat → Nat} {S : zm_S} {M : qm} {i1 : Int32} {qi1 : Int} {i2 : Int32} {qi2 : Int} {i4 : Int32} {qi4 : Int} {i6 : Int32} {qi6 : Int} (hS : Sh L xs P S) (hM : qM P S = M) (ei1 : i1.toInt = qi1) (ei2 : i2.toInt = qi2) (ei4 : i4.toInt = qi4) (ei6 : i6.toInt = qi6) {k : Nat → Int32 → Int32 → Int32 → Int32 → Int32 → zm_S → Option ((Int32 × zm_S) ⊕ ((Int32) × zm_S))} : qs (zf_X16_hasDoor_J107 20000 k 2157 i1 i2 i4 i6 S) (qf_X16_hasDoor_J107 20000 qi1 qi2 qi4 qi6 M) (tk (vs (rp L xs P M vi) (rp L xs P M vi)) (qc_X16_hasDoor_L56 L xs P M k)) := by
  unfold zf_X16_hasDoor_J107 qf_X16_hasDoor_J107
  exact qs_tk ⟨_, _, _, _, _, _, rfl, ei1, ei2, ei4, k_1, (p_add ei6 k_1), hS, hM⟩
set_option maxRecDepth 20000 in
theorem qz_X16_hasDoor_L56_b (n : Nat) {P : Nat → Nat} {S : zm_S} {M : qm} {i1 : Int32} {qi1 : Int} {i2 : Int32} {qi2 : Int} {i4 : Int32} {qi4 : Int} {i5 : Int32} {qi5 : Int} {i6 : Int32} {qi6 : Int} (hS : Sh L xs P S) (hM : qM P S = M) (ei1 : i1.toInt = qi1) (ei2 : i2.toInt = qi2) (ei4 : i4.toInt = qi4) (ei5 : i5.toInt = qi5) (ei6 : i6.toInt = qi6) : qs (zf_X16_hasDoor_L56 20000 (n + 1) 2157 i1 i2 i4 i5 i6 S) (qf_X16_hasDoor_L56_b 20000 qi1 qi2 qi4 qi5 qi6 M) (tk (vs (rp L xs P M vi) (rp L xs P M vi)) (qc_X16_hasDoor_L56 L xs P M (zf_X16_hasDoor_L56 20000 n))) := by
  refine qs_eq (zf_X16_hasDoor_L56.eq_2 ..) ?_
  unfold qf_X16_hasDoor_L56_b
  refine qs_gr hS pl_2157 ts_2157 rfl ?_
  refine qs_gd (fun g1837 => ?_)
  refine qs_xi hM (pa_p hS pl_2162 ts_2162) ei2 g1837 (fun v1836 h1836 => ?_)
  refine qs_ite (c_le (p_add (p_mul k_6 ei2) h1836) ei6) ?_ ?_
  · exact qs_tp2 (show vi _ _ from ei5) hS hM
  · refine qs_ite (c_eq ei5 k_0) ?_ ?_
    · refine qs_zi hS pl_2157 ts_2157 ?_
      refine qs_bp (qz_X16_sideLength hS hM ei1) (fun v1839 S1839 w1839 h1839 hS1839 hM1839 => ?_)
      refine qs_gr hS1839 pl_2157 ts_2157 rfl ?_
      refine qs_gd (fun g1842 => ?_)
      refine qs_xi hM1839 (pa_p hS1839 pl_2163 ts_2163) ei6 g1842 (fun v1841 h1841 => ?_)
      refine qs_gr hS1839 pl_2157 ts_2157 rfl ?_
      refine qs_gd (fun g1845 => ?_)
      refine qs_xi hM1839 (pa_p hS1839 pl_2164 ts_2164) ei6 g1845 (fun v1844 h1844 => ?_)
      refine qs_bp (qz_X16_shared hS1839 hM1839 ei4 (p_add ei4 h1839) h1841 h1844) (fun v1846 S1846 w1846 h1846 hS1846 hM1846 => ?_)
      refine qs_ite (c_le h1846 k_0) ?_ ?_
      · exact qs_tk ⟨_, _, _, _, _, _, rfl, ei1, ei2, ei4, k_0, (p_add ei6 k_1), hS1846, hM1846⟩
      · exact (qz_X16_hasDoor_J107 hS1846 hM1846 ei1 ei2 ei4 ei6)
    · exact (qz_X16_hasDoor_J107 hS hM ei1 ei2 ei4 ei6)
theorem qz_X16_hasDoor_L56 (n : Nat) : ∀ {P : Nat → Nat} {S : zm_S} {M : qm} {i1 : Int32} {qi1 : Int} {i2 : Int32} {qi2 : Int} {i4 : Int32} {qi4 : Int} {i5 : Int32} {qi5 : Int} {i6 : Int32} {qi6 : Int} (hS : Sh L xs P S) (hM : qM P S = M) (ei1 : i1.toInt = qi1) (ei2 : i2.toInt = qi2) (ei4 : i4.toInt = qi4) (ei5 : i5.toInt = qi5) (ei6 : i6.toInt = qi6), qs (zf_X16_hasDoor_L56 20000 n 2157 i1 i2 i4 i5 i6 S) (qf_X16_hasDoor_L56 20000 n qi1 qi2 qi4 qi5 qi6 M) (tO (vs (rp L xs P M vi) (rp L xs P M vi))) := by
  induction n with
  | zero =>
    intros
    exact qs_none
  | succ n ih =>
    intro P S M i1 qi1 i2 qi2 i4 qi4 i5 qi5 i6 qi6 hS hM ei1 ei2 ei4 ei5 ei6
    unfold qf_X16_hasDoor_L56
    refine qs_loop (C := (qc_X16_hasDoor_L56 L xs P M (zf_X16_hasDoor_L56 20000 n))) (qz_X16_hasDoor_L56_b n hS hM ei1 ei2 ei4 ei5 ei6) ?_
    rintro x s ⟨_, _, _, _, _, _, rfl, u0, u1, u2, u3, u4, hS2, hM2⟩
    exact ih hS2 hM2 u0 u1 u2 u3 u4
set_option maxRecDepth 20000 in
theorem qz_X16_hasDoor {P : Nat → Nat} {S : zm_S} {M : qm} {i1 : Int32} {qi1 : Int} (hS : Sh L xs P S) (hM : qM P S = M) (ei1 : i1.toInt = qi1) : qs (zf_X16_hasDoor 20000 2157 i1 S) (qf_X16_hasDoor 20000 qi1 M) (tO (rp L xs P M vi)) := by
  unfold zf_X16_hasDoor qf_X16_hasDoor
  refine qs_gr hS pl_2157 ts_2157 rfl ?_
  refine qs_gd (fun g1849 => ?_)
  refine qs_xi hM (pa_p hS pl_2176 ts_2176) (p_div ei1 k_2 (by decide)) g1849 (fun v1848 h1848 => ?_)
  refine qs_gr hS pl_2157 ts_2157 rfl ?_
  refine qs_gd (fun g1852 => ?_)
  refine qs_xi hM (pa_p hS pl_2177 ts_2177) (p_div ei1 k_2 (by decide)) g1852 (fun v1851 h1851 => ?_)
  refine qs_gr hS pl_2157 ts_2157 rfl ?_
  refine qs_gd (fun g1855 => ?_)
  refine qs_xi hM (pa_p hS pl_2174 ts_2174) h1851 g1855 (fun v1854 h1854 => ?_)
  refine qs_gr hS pl_2157 ts_2157 rfl ?_
  refine qs_gd (fun g1858 => ?_)
  refine qs_xi hM (pa_p hS pl_2158 ts_2158) h1848 g1858 (fun v1857 h1857 => ?_)
  refine qs_gr hS pl_2157 ts_2157 rfl ?_
  refine qs_gd (fun g1861 => ?_)
  refine qs_xi hM (pa_p hS pl_2175 ts_2175) h1851 g1861 (fun v1860 h1860 => ?_)
  refine qs_gr hS pl_2157 ts_2157 rfl ?_
  refine qs_gd (fun g1864 => ?_)
  refine qs_xi hM (pa_p hS pl_2159 ts_2159) h1848 g1864 (fun v1863 h1863 => ?_)
  refine qs_lp (qz_X16_hasDoor_L56 20000 hS hM ei1 h1848 (p_sub (p_add (p_sub h1854 h1857) h1860) h1863) k_0 (p_mul k_6 h1848)) ?_ ?_
  · intro v1866 S1866 w1866 h1866 hS1866 hM1866
    dsimp only
    exact qs_tp h1866 hS1866 hM1866
  · intro v1866 S1866 w1866 h1866 hS1866 hM1866
    dsimp only
    refine qs_ite (or_congr (c_eq h1866 k_0) (c_eq h1866 k_1)) ?_ ?_
    · exact qs_tp (show vi _ _ from h1866) hS1866 hM1866
    · exact qs_none
set_option maxRecDepth 20000 in
theorem qz_X16_way_L47_b (n : Nat) {P : Nat → Nat} {S : zm_S} {M : qm} {i2 : Int32} {qi2 : Int} {i3 : Int32} {qi3 : Int} {i4 : Int32} {qi4 : Int} (hS : Sh L xs P S) (hM : qM P S = M) (ei2 : i2.toInt = qi2) (ei3 : i3.toInt = qi3) (ei4 : i4.toInt = qi4) : qs (zf_X16_way_L47 20000 (n + 1) 2157 i2 i3 i4 S) (qf_X16_way_L47_b 20000 qi2 qi3 qi4 M) (tk (vs (rr L xs P vi) (rr L xs P vi)) (qc_X16_way_L47 L xs P (zf_X16_way_L47 20000 n))) := by
  refine qs_eq (zf_X16_way_L47.eq_2 ..) ?_
  unfold qf_X16_way_L47_b
  refine qs_gi hS hM pl_2157 ts_2157 (z := 30) rfl rfl (fun v1867 h1867 => ?_)
  refine qs_ite (c_le (p_mul k_2 h1867) ei4) ?_ ?_
  · exact qs_tr2 (show vi _ _ from ei3) hS hM
  · refine qs_zi hS pl_2157 ts_2157 ?_
    refine qs_bp (qz_X16_hasDoor hS hM ei4) (fun v1869 S1869 w1869 h1869 hS1869 hM1869 => ?_)
    refine qs_ite (c_eq h1869 k_0) ?_ ?_
    · exact qs_tk ⟨_, _, _, _, rfl, ei2, ei3, (p_add ei4 k_1), hS1869, hM1869⟩
    · refine qs_gr hS1869 pl_2157 ts_2157 rfl ?_
      refine qs_zi hS1869 pl_2157 ts_2157 ?_
      refine qs_bp (qz_X16_left hS1869 hM1869 ei4) (fun v1872 S1872 w1872 h1872 hS1872 hM1872 => ?_)
      refine qs_gd (fun g1874 => ?_)
      refine qs_xi hM1872 (pa_p hS1872 pl_2183 ts_2183) (p_add h1872 k_1) g1874 (fun v1873 h1873 => ?_)
      refine qs_gr hS1872 pl_2157 ts_2157 rfl ?_
      refine qs_zi hS1872 pl_2157 ts_2157 ?_
      refine qs_bp (qz_X16_right hS1872 hM1872 ei4) (fun v1877 S1877 w1877 h1877 hS1877 hM1877 => ?_)
      refine qs_gd (fun g1879 => ?_)
      refine qs_xi hM1877 (pa_p hS1877 pl_2183 ts_2183) (p_add h1877 k_1) g1879 (fun v1878 h1878 => ?_)
      refine qs_ite (c_le h1878 (p_add h1873 k_1)) ?_ ?_
      · exact qs_tk ⟨_, _, _, _, rfl, ei2, ei3, (p_add ei4 k_1), hS1877, hM1877⟩
      · refine qs_gr hS1877 pl_2157 ts_2157 rfl ?_
        refine qs_zi hS1877 pl_2157 ts_2157 ?_
        refine qs_bp (qz_X16_right hS1877 hM1877 ei4) (fun v1882 S1882 w1882 h1882 hS1882 hM1882 => ?_)
        refine qs_gr hS1882 pl_2157 ts_2157 rfl ?_
        refine qs_zi hS1882 pl_2157 ts_2157 ?_
        refine qs_bp (qz_X16_left hS1882 hM1882 ei4) (fun v1885 S1885 w1885 h1885 hS1885 hM1885 => ?_)
        refine qs_gd (fun g1887 => ?_)
        refine qs_xi hM1885 (pa_p hS1885 pl_2183 ts_2183) (p_add h1885 k_1) g1887 (fun v1886 h1886 => ?_)
        refine qs_gd (fun g1889 => ?_)
        refine qs_si hS1885 hM1885 (pa_p hS1885 pl_2183 ts_2183) (p_add h1882 k_1) g1889 (p_add h1886 k_1) (fun S1888 M1888 hS1888 hM1888 => ?_)
        exact qs_tk ⟨_, _, _, _, rfl, ei2, k_1, (p_add ei4 k_1), hS1888, hM1888⟩
theorem qz_X16_way_L47 (n : Nat) : ∀ {P : Nat → Nat} {S : zm_S} {M : qm} {i2 : Int32} {qi2 : Int} {i3 : Int32} {qi3 : Int} {i4 : Int32} {qi4 : Int} (hS : Sh L xs P S) (hM : qM P S = M) (ei2 : i2.toInt = qi2) (ei3 : i3.toInt = qi3) (ei4 : i4.toInt = qi4), qs (zf_X16_way_L47 20000 n 2157 i2 i3 i4 S) (qf_X16_way_L47 20000 n qi2 qi3 qi4 M) (tO (vs (rr L xs P vi) (rr L xs P vi))) := by
  induction n with
  | zero =>
    intros
    exact qs_none
  | succ n ih =>
    intro P S M i2 qi2 i3 qi3 i4 qi4 hS hM ei2 ei3 ei4
    unfold qf_X16_way_L47
    refine qs_loop (C := (qc_X16_way_L47 L xs P (zf_X16_way_L47 20000 n))) (qz_X16_way_L47_b n hS hM ei2 ei3 ei4) ?_
    rintro x s ⟨_, _, _, _, rfl, u0, u1, u2, hS2, hM2⟩
    exact ih hS2 hM2 u0 u1 u2
set_option maxRecDepth 20000 in
theorem qz_X16_way_L38_b (n : Nat) {P : Nat → Nat} {S : zm_S} {M : qm} {i2 : Int32} {qi2 : Int} {i3 : Int32} {qi3 : Int} (hS : Sh L xs P S) (hM : qM P S = M) (ei2 : i2.toInt = qi2) (ei3 : i3.toInt = qi3) : qs (zf_X16_way_L38 20000 (n + 1) 2157 i2 i3 S) (qf_X16_way_L38_b 20000 qi2 qi3 M) (tk (vs (rr L xs P vi) (rr L xs P vu)) (qc_X16_way_L38 L xs P (zf_X16_way_L38 20000 n))) := by
  refine qs_eq (zf_X16_way_L38.eq_2 ..) ?_
  unfold qf_X16_way_L38_b
  refine qs_ite (c_eq ei3 k_0) ?_ ?_
  · exact qs_tr2 (show vu _ _ from trivial) hS hM
  · refine qs_lr (qz_X16_way_L47 20000 hS hM ei2 k_0 k_0) ?_ ?_
    · intro v1891 S1891 w1891 M1891 h1891 hS1891 hM1891
      dsimp only
      exact qs_tr1 h1891 hS1891 hM1891
    · intro v1891 S1891 w1891 M1891 h1891 hS1891 hM1891
      dsimp only
      exact qs_tk ⟨_, _, _, rfl, ei2, h1891, hS1891, hM1891⟩
theorem qz_X16_way_L38 (n : Nat) : ∀ {P : Nat → Nat} {S : zm_S} {M : qm} {i2 : Int32} {qi2 : Int} {i3 : Int32} {qi3 : Int} (hS : Sh L xs P S) (hM : qM P S = M) (ei2 : i2.toInt = qi2) (ei3 : i3.toInt = qi3), qs (zf_X16_way_L38 20000 n 2157 i2 i3 S) (qf_X16_way_L38 20000 n qi2 qi3 M) (tO (vs (rr L xs P vi) (rr L xs P vu))) := by
  induction n with
  | zero =>
    intros
    exact qs_none
  | succ n ih =>
    intro P S M i2 qi2 i3 qi3 hS hM ei2 ei3
    unfold qf_X16_way_L38
    refine qs_loop (C := (qc_X16_way_L38 L xs P (zf_X16_way_L38 20000 n))) (qz_X16_way_L38_b n hS hM ei2 ei3) ?_
    rintro x s ⟨_, _, _, rfl, u0, u1, hS2, hM2⟩
    exact ih hS2 hM2 u0 u1
set_option maxRecDepth 20000 in
theorem qz_X16_way {P : Nat → Nat} {S : zm_S} {M : qm} {i1 : Int32} {qi1 : Int} {i2 : Int32} {qi2 : Int} (hS : Sh L xs P S) (hM : qM P S = M) (ei1 : i1.toInt = qi1) (ei2 : i2.toInt = qi2) : qs (zf_X16_way 20000 2157 i1 i2 S) (qf_X16_way 20000 qi1 qi2 M) (tO (rr L xs P vi)) := by
  unfold zf_X16_way qf_X16_way
  refine qs_lr (qz_X16_way_L2 20000 hS hM ei1 ei2 k_0) ?_ ?_
  · intro v1893 S1893 w1893 M1893 h1893 hS1893 hM1893
    dsimp only
    exact qs_tr h1893 hS1893 hM1893
  · intro v1893 S1893 w1893 M1893 h1893 hS1893 hM1893
    dsimp only
    refine qs_lr (qz_X16_way_L38 20000 hS1893 hM1893 ei2 k_1) ?_ ?_
    · intro v1895 S1895 w1895 M1895 h1895 hS1895 hM1895
      dsimp only
      exact qs_tr h1895 hS1895 hM1895
    · intro v1895 S1895 w1895 M1895 h1895 hS1895 hM1895
      dsimp only
      refine qs_gr hS1895 pl_2157 ts_2157 rfl ?_
      refine qs_gd (fun g1898 => ?_)
      refine qs_xi hM1895 (pa_p hS1895 pl_2183 ts_2183) (p_add ei2 k_1) g1898 (fun v1897 h1897 => ?_)
      refine qs_ite (c_eq h1897 k_1000) ?_ ?_
      · exact qs_tr (show vi _ _ from k_m2) hS1895 hM1895
      · refine qs_gr hS1895 pl_2157 ts_2157 rfl ?_
        refine qs_gd (fun g1901 => ?_)
        refine qs_xi hM1895 (pa_p hS1895 pl_2183 ts_2183) (p_add ei2 k_1) g1901 (fun v1900 h1900 => ?_)
        exact qs_tr (show vi _ _ from h1900) hS1895 hM1895
set_option maxRecDepth 20000 in
theorem qz_X18_way_J28 {P : Nat → Nat} {S : zm_S} {M : qm} {i1 : Int32} {qi1 : Int} {i2 : Int32} {qi2 : Int} {t1 : Int32} {qt1 : Int} (hS : Sh L xs P S) (hM : qM P S = M) (ei1 : i1.toInt = qi1) (ei2 : i2.toInt = qi2) (et1 : t1.toInt = qt1) : qs (zf_X18_way_J28 20000 2156 i1 i2 2156 t1 S) (qf_X18_way_J28 20000 qi1 qi2 qt1 M) (tO (rr L xs P vi)) := by
  unfold zf_X18_way_J28 qf_X18_way_J28
  refine qs_gr hS pl_2156 ts_2156 rfl ?_
  refine qs_gi hS hM pl_2157 ts_2157 (z := 10) rfl rfl (fun v1903 h1903 => ?_)
  refine qs_zi hS pl_2156 ts_2156 ?_
  refine qs_b (qz_X18_goes hS hM et1 h1903) (fun v1905 S1905 w1905 M1905 h1905 hS1905 hM1905 => ?_)
  refine qs_ite (c_eq h1905 k_0) ?_ ?_
  · exact qs_tr (show vi _ _ from k_0) hS1905 hM1905
  · refine qs_gr hS1905 pl_2156 ts_2156 rfl ?_
    refine qs_zi hS1905 pl_2157 ts_2157 ?_
    refine qs_b (qz_X16_way hS1905 hM1905 ei1 ei2) (fun v1908 S1908 w1908 M1908 h1908 hS1908 hM1908 => ?_)
    exact qs_tr (show vi _ _ from h1908) hS1908 hM1908
set_option maxRecDepth 20000 in
theorem qz_X18_way_J27 {P : Nat → Nat} {S : zm_S} {M : qm} {i1 : Int32} {qi1 : Int} {i2 : Int32} {qi2 : Int} (hS : Sh L xs P S) (hM : qM P S = M) (ei1 : i1.toInt = qi1) (ei2 : i2.toInt = qi2) : qs (zf_X18_way_J27 20000 2156 i1 i2 2156 S) (qf_X18_way_J27 20000 qi1 qi2 M) (tO (rr L xs P vi)) := by
  unfold zf_X18_way_J27 qf_X18_way_J27
  exact (qz_X18_way_J28 hS hM ei1 ei2 k_0)
set_option maxRecDepth 20000 in
theorem qz_X18_way {P : Nat → Nat} {S : zm_S} {M : qm} {i1 : Int32} {qi1 : Int} {i2 : Int32} {qi2 : Int} (hS : Sh L xs P S) (hM : qM P S = M) (ei1 : i1.toInt = qi1) (ei2 : i2.toInt = qi2) : qs (zf_X18_way 20000 2156 i1 i2 S) (qf_X18_way 20000 qi1 qi2 M) (tO (rr L xs P vi)) := by
  unfold zf_X18_way qf_X18_way
  refine qs_gr hS pl_2156 ts_2156 rfl ?_
  refine qs_zi hS pl_2157 ts_2157 ?_
  refine qs_bp (qz_X16_isAny hS hM ei1) (fun v1911 S1911 w1911 h1911 hS1911 hM1911 => ?_)
  refine qs_ite (c_eq h1911 k_0) ?_ ?_
  · exact (qz_X18_way_J27 hS1911 hM1911 ei1 ei2)
  · refine qs_gr hS1911 pl_2156 ts_2156 rfl ?_
    refine qs_zi hS1911 pl_2157 ts_2157 ?_
    refine qs_bp (qz_X16_isAny hS1911 hM1911 ei2) (fun v1914 S1914 w1914 h1914 hS1914 hM1914 => ?_)
    refine qs_ite (c_eq h1914 k_0) ?_ ?_
    · exact (qz_X18_way_J27 hS1914 hM1914 ei1 ei2)
    · exact (qz_X18_way_J28 hS1914 hM1914 ei1 ei2 k_1)
set_option maxRecDepth 20000 in
theorem qz_X11_name_J49 {P : Nat → Nat} {S : zm_S} {M : qm} {i1 : Int32} {qi1 : Int} {i2 : Int32} {qi2 : Int} {t0 : Int32} {qt0 : Int} (hS : Sh L xs P S) (hM : qM P S = M) (ei1 : i1.toInt = qi1) (ei2 : i2.toInt = qi2) (et0 : t0.toInt = qt0) : qs (zf_X11_name_J49 20000 6 i1 i2 t0 S) (qf_X11_name_J49 20000 qi1 qi2 qt0 M) (tO (rr L xs P (vs vi ve))) := by
  unfold zf_X11_name_J49 qf_X11_name_J49
  refine qs_xp (qz_X11_needState hS hM et0) ?_ ?_
  · intro v1916 S1916 w1916 h1916 hS1916 hM1916
    dsimp only
    refine qs_gr hS1916 pl_6 ts_6 rfl ?_
    refine qs_gr hS1916 pl_51 ts_51 rfl ?_
    refine qs_gd (fun g1920 => ?_)
    refine qs_xi hM1916 (pa_s hS1916 (d := 58) rfl (by decide) (by decide) sf_58) ei1 g1920 (fun v1919 h1919 => ?_)
    refine qs_gr hS1916 pl_6 ts_6 rfl ?_
    refine qs_gr hS1916 pl_51 ts_51 rfl ?_
    refine qs_gd (fun g1924 => ?_)
    refine qs_si hS1916 hM1916 (pa_s hS1916 (d := 58) rfl (by decide) (by decide) sf_58) ei1 g1924 ei2 (fun S1923 M1923 hS1923 hM1923 => ?_)
    exact qs_tr (show (vs vi ve) _ _ from h1919) hS1923 hM1923
  · intro v1916 S1916 hS1916 hM1916
    dsimp only
    exact qs_tr (show (vs vi ve) _ _ from rfl) hS1916 hM1916
set_option maxRecDepth 20000 in
theorem qz_X11_name_J48 {P : Nat → Nat} {S : zm_S} {M : qm} {i1 : Int32} {qi1 : Int} {i2 : Int32} {qi2 : Int} (hS : Sh L xs P S) (hM : qM P S = M) (ei1 : i1.toInt = qi1) (ei2 : i2.toInt = qi2) : qs (zf_X11_name_J48 20000 6 i1 i2 S) (qf_X11_name_J48 20000 qi1 qi2 M) (tO (rr L xs P (vs vi ve))) := by
  unfold zf_X11_name_J48 qf_X11_name_J48
  exact (qz_X11_name_J49 hS hM ei1 ei2 k_0)
set_option maxRecDepth 20000 in
theorem qz_X11_name_J24 {P : Nat → Nat} {S : zm_S} {M : qm} {i1 : Int32} {qi1 : Int} {i2 : Int32} {qi2 : Int} {t0 : Int32} {qt0 : Int} (hS : Sh L xs P S) (hM : qM P S = M) (ei1 : i1.toInt = qi1) (ei2 : i2.toInt = qi2) (et0 : t0.toInt = qt0) : qs (zf_X11_name_J24 20000 6 i1 i2 t0 S) (qf_X11_name_J24 20000 qi1 qi2 qt0 M) (tO (rr L xs P (vs vi ve))) := by
  unfold zf_X11_name_J24 qf_X11_name_J24
  refine qs_xp (qz_X11_needArgument hS hM et0) ?_ ?_
  · intro v1926 S1926 w1926 h1926 hS1926 hM1926
    dsimp only
    refine qs_gr hS1926 pl_6 ts_6 rfl ?_
    refine qs_gi hS1926 hM1926 pl_51 ts_51 (z := 2) rfl rfl (fun v1928 h1928 => ?_)
    refine qs_ite (c_eq h1928 k_0) ?_ ?_
    · exact (qz_X11_name_J48 hS1926 hM1926 ei1 ei2)
    · refine qs_gi hS1926 hM1926 pl_6 ts_6 (z := 11) rfl rfl (fun v1929 h1929 => ?_)
      refine qs_ite (c_eq h1929 k_0) ?_ ?_
      · exact (qz_X11_name_J49 hS1926 hM1926 ei1 ei2 k_1)
      · exact (qz_X11_name_J48 hS1926 hM1926 ei1 ei2)
  · intro v1926 S1926 hS1926 hM1926
    dsimp only
    exact qs_tr (show (vs vi ve) _ _ from rfl) hS1926 hM1926
set_option maxRecDepth 20000 in
theorem qz_X11_name_J23 {P : Nat → Nat} {S : zm_S} {M : qm} {i1 : Int32} {qi1 : Int} {i2 : Int32} {qi2 : Int} (hS : Sh L xs P S) (hM : qM P S = M) (ei1 : i1.toInt = qi1) (ei2 : i2.toInt = qi2) : qs (zf_X11_name_J23 20000 6 i1 i2 S) (qf_X11_name_J23 20000 qi1 qi2 M) (tO (rr L xs P (vs vi ve))) := by
  unfold zf_X11_name_J23 qf_X11_name_J23
  exact (qz_X11_name_J24 hS hM ei1 ei2 k_0)
set_option maxRecDepth 20000 in
theorem qz_X11_name {P : Nat → Nat} {S : zm_S} {M : qm} {i1 : Int32} {qi1 : Int} {i2 : Int32} {qi2 : Int} (hS : Sh L xs P S) (hM : qM P S = M) (ei1 : i1.toInt = qi1) (ei2 : i2.toInt = qi2) : qs (zf_X11_name 20000 6 i1 i2 S) (qf_X11_name 20000 qi1 qi2 M) (tO (rr L xs P (vs vi ve))) := by
  unfold zf_X11_name qf_X11_name
  refine qs_zi hS pl_6 ts_6 ?_
  refine qs_bp (qz_X11_isSpace hS hM ei1) (fun v1931 S1931 w1931 h1931 hS1931 hM1931 => ?_)
  refine qs_ite (c_eq h1931 k_0) ?_ ?_
  · exact (qz_X11_name_J23 hS1931 hM1931 ei1 ei2)
  · refine qs_bp (qz_X11_isWithin hS1931 hM1931 ei2 k_0 k_1000) (fun v1932 S1932 w1932 h1932 hS1932 hM1932 => ?_)
    refine qs_ite (c_eq h1932 k_0) ?_ ?_
    · exact (qz_X11_name_J23 hS1932 hM1932 ei1 ei2)
    · exact (qz_X11_name_J24 hS1932 hM1932 ei1 ei2 k_1)
set_option maxRecDepth 20000 in
theorem qz_L_name {P : Nat → Nat} {S : zm_S} {M : qm} {i1 : Int32} {qi1 : Int} {i2 : Int32} {qi2 : Int} (hS : Sh L xs P S) (hM : qM P S = M) (ei1 : i1.toInt = qi1) (ei2 : i2.toInt = qi2) : qs (zf_L_name 20000 6 i1 i2 2332 S) (qf_L_name 20000 qi1 qi2 M) (tO (rr L xs P vi)) := by
  unfold zf_L_name qf_L_name
  refine qs_zi hS pl_6 ts_6 ?_
  refine qs_xr (qz_X11_name hS hM ei1 ei2) ?_ ?_
  · intro v1935 S1935 w1935 M1935 h1935 hS1935 hM1935
    dsimp only
    refine qs_sl hS1935 hM1935 (pa_p hS1935 pl_2332 ts_2332) k_0 (by decide) (p_64 h1935) (fun S1936 M1936 hS1936 hM1936 => ?_)
    exact qs_tr (show vi _ _ from k_0) hS1936 hM1936
  · intro v1935 S1935 M1935 hS1935 hM1935
    dsimp only
    refine qs_ite Iff.rfl ?_ ?_
    · exact qs_tr (show vi _ _ from k_1) hS1935 hM1935
    · refine qs_ite Iff.rfl ?_ ?_
      · exact qs_tr (show vi _ _ from k_2) hS1935 hM1935
      · exact qs_none
set_option maxRecDepth 20000 in
theorem qz_X18_name_J50 {P : Nat → Nat} {S : zm_S} {M : qm} {i1 : Int32} {qi1 : Int} {i2 : Int32} {qi2 : Int} {t1 : Int32} {qt1 : Int} {t2 : Int32} {qt2 : Int} (hS : Sh L xs P S) (hM : qM P S = M) (ei1 : i1.toInt = qi1) (ei2 : i2.toInt = qi2) (et1 : t1.toInt = qt1) (et2 : t2.toInt = qt2) : qs (zf_X18_name_J50 20000 2156 i1 i2 2156 t1 t2 S) (qf_X18_name_J50 20000 qi1 qi2 qt1 qt2 M) (tO (rr L xs P vi)) := by
  unfold zf_X18_name_J50 qf_X18_name_J50
  refine qs_zi hS pl_2156 ts_2156 ?_
  refine qs_b (qz_X18_goes hS hM et1 et2) (fun v1938 S1938 w1938 M1938 h1938 hS1938 hM1938 => ?_)
  refine qs_ite (c_eq h1938 k_0) ?_ ?_
  · exact qs_tr (show vi _ _ from k_0) hS1938 hM1938
  · refine qs_gr hS1938 pl_2156 ts_2156 rfl ?_
    refine qs_gr hS1938 pl_2157 ts_2157 rfl ?_
    refine qs_gd (fun g1942 => ?_)
    refine qs_xi hM1938 (pa_s hS1938 (d := 2172) rfl (by decide) (by decide) sf_2172) ei1 g1942 (fun v1941 h1941 => ?_)
    refine qs_gr hS1938 pl_2156 ts_2156 rfl ?_
    refine qs_gr hS1938 pl_2157 ts_2157 rfl ?_
    refine qs_gd (fun g1946 => ?_)
    refine qs_si hS1938 hM1938 (pa_s hS1938 (d := 2172) rfl (by decide) (by decide) sf_2172) ei1 g1946 ei2 (fun S1945 M1945 hS1945 hM1945 => ?_)
    exact qs_tr (show vi _ _ from h1941) hS1945 hM1945
set_option maxRecDepth 20000 in
theorem qz_X18_name_J49 {P : Nat → Nat} {S : zm_S} {M : qm} {i1 : Int32} {qi1 : Int} {i2 : Int32} {qi2 : Int} {t1 : Int32} {qt1 : Int} (hS : Sh L xs P S) (hM : qM P S = M) (ei1 : i1.toInt = qi1) (ei2 : i2.toInt = qi2) (et1 : t1.toInt = qt1) : qs (zf_X18_name_J49 20000 2156 i1 i2 2156 t1 S) (qf_X18_name_J49 20000 qi1 qi2 qt1 M) (tO (rr L xs P vi)) := by
  unfold zf_X18_name_J49 qf_X18_name_J49
  exact (qz_X18_name_J50 hS hM ei1 ei2 et1 k_0)
set_option maxRecDepth 20000 in
theorem qz_X18_name_J28 {P : Nat → Nat} {S : zm_S} {M : qm} {i1 : Int32} {qi1 : Int} {i2 : Int32} {qi2 : Int} {t1 : Int32} {qt1 : Int} (hS : Sh L xs P S) (hM : qM P S = M) (ei1 : i1.toInt = qi1) (ei2 : i2.toInt = qi2) (et1 : t1.toInt = qt1) : qs (zf_X18_name_J28 20000 2156 i1 i2 2156 t1 S) (qf_X18_name_J28 20000 qi1 qi2 qt1 M) (tO (rr L xs P vi)) := by
  unfold zf_X18_name_J28 qf_X18_name_J28
  refine qs_gr hS pl_2156 ts_2156 rfl ?_
  refine qs_gi hS hM pl_2157 ts_2157 (z := 10) rfl rfl (fun v1948 h1948 => ?_)
  refine qs_ite (c_eq h1948 k_0) ?_ ?_
  · exact (qz_X18_name_J49 hS hM ei1 ei2 et1)
  · refine qs_gi hS hM pl_2156 ts_2156 (z := 1) rfl rfl (fun v1949 h1949 => ?_)
    refine qs_ite (c_eq h1949 k_0) ?_ ?_
    · exact (qz_X18_name_J50 hS hM ei1 ei2 et1 k_1)
    · exact (qz_X18_name_J49 hS hM ei1 ei2 et1)
set_option maxRecDepth 20000 in
theorem qz_X18_name_J27 {P : Nat → Nat} {S : zm_S} {M : qm} {i1 : Int32} {qi1 : Int} {i2 : Int32} {qi2 : Int} (hS : Sh L xs P S) (hM : qM P S = M) (ei1 : i1.toInt = qi1) (ei2 : i2.toInt = qi2) : qs (zf_X18_name_J27 20000 2156 i1 i2 2156 S) (qf_X18_name_J27 20000 qi1 qi2 M) (tO (rr L xs P vi)) := by
  unfold zf_X18_name_J27 qf_X18_name_J27
  exact (qz_X18_name_J28 hS hM ei1 ei2 k_0)
set_option maxRecDepth 20000 in
theorem qz_X18_name {P : Nat → Nat} {S : zm_S} {M : qm} {i1 : Int32} {qi1 : Int} {i2 : Int32} {qi2 : Int} (hS : Sh L xs P S) (hM : qM P S = M) (ei1 : i1.toInt = qi1) (ei2 : i2.toInt = qi2) : qs (zf_X18_name 20000 2156 i1 i2 S) (qf_X18_name 20000 qi1 qi2 M) (tO (rr L xs P vi)) := by
  unfold zf_X18_name qf_X18_name
  refine qs_gr hS pl_2156 ts_2156 rfl ?_
  refine qs_zi hS pl_2157 ts_2157 ?_
  refine qs_bp (qz_X16_isSpace hS hM ei1) (fun v1952 S1952 w1952 h1952 hS1952 hM1952 => ?_)
  refine qs_ite (c_eq h1952 k_0) ?_ ?_
  · exact (qz_X18_name_J27 hS1952 hM1952 ei1 ei2)
  · refine qs_ite (c_lt ei2 k_0) ?_ ?_
    · exact (qz_X18_name_J27 hS1952 hM1952 ei1 ei2)
    · refine qs_ite (c_lt k_1000 ei2) ?_ ?_
      · exact (qz_X18_name_J27 hS1952 hM1952 ei1 ei2)
      · exact (qz_X18_name_J28 hS1952 hM1952 ei1 ei2 k_1)
set_option maxRecDepth 20000 in
theorem qz_X11_nameOf {P : Nat → Nat} {S : zm_S} {M : qm} {i1 : Int32} {qi1 : Int} (hS : Sh L xs P S) (hM : qM P S = M) (ei1 : i1.toInt = qi1) : qs (zf_X11_nameOf 20000 6 i1 S) (qf_X11_nameOf 20000 qi1 M) (tO (rp L xs P M (vs vi ve))) := by
  unfold zf_X11_nameOf qf_X11_nameOf
  refine qs_zi hS pl_6 ts_6 ?_
  refine qs_bp (qz_X11_isSpace hS hM ei1) (fun v1954 S1954 w1954 h1954 hS1954 hM1954 => ?_)
  refine qs_xp (qz_X11_needArgument hS1954 hM1954 h1954) ?_ ?_
  · intro v1956 S1956 w1956 h1956 hS1956 hM1956
    dsimp only
    refine qs_gr hS1956 pl_6 ts_6 rfl ?_
    refine qs_gi hS1956 hM1956 pl_51 ts_51 (z := 2) rfl rfl (fun v1958 h1958 => ?_)
    refine qs_xp (qz_X11_needState hS1956 hM1956 h1958) ?_ ?_
    · intro v1960 S1960 w1960 h1960 hS1960 hM1960
      dsimp only
      refine qs_gr hS1960 pl_6 ts_6 rfl ?_
      refine qs_gr hS1960 pl_51 ts_51 rfl ?_
      refine qs_gd (fun g1964 => ?_)
      refine qs_xi hM1960 (pa_s hS1960 (d := 58) rfl (by decide) (by decide) sf_58) ei1 g1964 (fun v1963 h1963 => ?_)
      exact qs_tp (show (vs vi ve) _ _ from h1963) hS1960 hM1960
    · intro v1960 S1960 hS1960 hM1960
      dsimp only
      exact qs_tp (show (vs vi ve) _ _ from rfl) hS1960 hM1960
  · intro v1956 S1956 hS1956 hM1956
    dsimp only
    exact qs_tp (show (vs vi ve) _ _ from rfl) hS1956 hM1956
set_option maxRecDepth 20000 in
theorem qz_L_nameOf {P : Nat → Nat} {S : zm_S} {M : qm} {i1 : Int32} {qi1 : Int} (hS : Sh L xs P S) (hM : qM P S = M) (ei1 : i1.toInt = qi1) : qs (zf_L_nameOf 20000 6 i1 2332 S) (qf_L_nameOf 20000 qi1 M) (tO (rr L xs P vi)) := by
  unfold zf_L_nameOf qf_L_nameOf
  refine qs_zi hS pl_6 ts_6 ?_
  refine qs_xp (qz_X11_nameOf hS hM ei1) ?_ ?_
  · intro v1967 S1967 w1967 h1967 hS1967 hM1967
    dsimp only
    refine qs_sl hS1967 hM1967 (pa_p hS1967 pl_2332 ts_2332) k_0 (by decide) (p_64 h1967) (fun S1968 M1968 hS1968 hM1968 => ?_)
    exact qs_tr (show vi _ _ from k_0) hS1968 hM1968
  · intro v1967 S1967 hS1967 hM1967
    dsimp only
    refine qs_ite Iff.rfl ?_ ?_
    · exact qs_tr (show vi _ _ from k_1) hS1967 hM1967
    · refine qs_ite Iff.rfl ?_ ?_
      · exact qs_tr (show vi _ _ from k_2) hS1967 hM1967
      · exact qs_none
set_option maxRecDepth 20000 in
theorem qz_X18_nameOf {P : Nat → Nat} {S : zm_S} {M : qm} {i1 : Int32} {qi1 : Int} (hS : Sh L xs P S) (hM : qM P S = M) (ei1 : i1.toInt = qi1) : qs (zf_X18_nameOf 20000 2156 i1 S) (qf_X18_nameOf 20000 qi1 M) (tO (rr L xs P vi)) := by
  unfold zf_X18_nameOf qf_X18_nameOf
  refine qs_gr hS pl_2156 ts_2156 rfl ?_
  refine qs_zi hS pl_2157 ts_2157 ?_
  refine qs_bp (qz_X16_isSpace hS hM ei1) (fun v1971 S1971 w1971 h1971 hS1971 hM1971 => ?_)
  refine qs_gr hS1971 pl_2156 ts_2156 rfl ?_
  refine qs_gi hS1971 hM1971 pl_2157 ts_2157 (z := 10) rfl rfl (fun v1973 h1973 => ?_)
  refine qs_zi hS1971 pl_2156 ts_2156 ?_
  refine qs_b (qz_X18_goes hS1971 hM1971 h1971 h1973) (fun v1975 S1975 w1975 M1975 h1975 hS1975 hM1975 => ?_)
  refine qs_ite (c_eq h1975 k_0) ?_ ?_
  · exact qs_tr (show vi _ _ from k_0) hS1975 hM1975
  · refine qs_gr hS1975 pl_2156 ts_2156 rfl ?_
    refine qs_gr hS1975 pl_2157 ts_2157 rfl ?_
    refine qs_gd (fun g1979 => ?_)
    refine qs_xi hM1975 (pa_s hS1975 (d := 2172) rfl (by decide) (by decide) sf_2172) ei1 g1979 (fun v1978 h1978 => ?_)
    exact qs_tr (show vi _ _ from h1978) hS1975 hM1975
set_option maxRecDepth 20000 in
theorem qz_X6_isSayable_L2_b (n : Nat) {P : Nat → Nat} {S : zm_S} {M : qm} {j0 : Int64} {qj0 : Int} {i2 : Int32} {qi2 : Int} (hS : Sh L xs P S) (hM : qM P S = M) (ej0 : j0.toInt = qj0) (ei2 : i2.toInt = qi2) : qs (zf_X6_isSayable_L2 20000 (n + 1) j0 i2 S) (qf_X6_isSayable_L2_b 20000 qj0 qi2 M) (tk (vs (rp L xs P M vi) (rp L xs P M vu)) (qc_X6_isSayable_L2 L xs P M (zf_X6_isSayable_L2 20000 n))) := by
  refine qs_eq (zf_X6_isSayable_L2.eq_2 ..) ?_
  unfold qf_X6_isSayable_L2_b
  refine qs_ite (c_le k_64 ei2) ?_ ?_
  · exact qs_tp2 (show vu _ _ from trivial) hS hM
  · refine qs_ite (g_eq (pl_and (pl_shr ej0 (p_64 ei2)) kl_255) kl_0) ?_ ?_
    · exact qs_tk ⟨_, _, _, rfl, ej0, (p_add ei2 k_8), hS, hM⟩
    · refine qs_ite (g_lt (pl_and (pl_shr ej0 (p_64 ei2)) kl_255) kl_32) ?_ ?_
      · exact qs_tp1 (show vi _ _ from k_0) hS hM
      · refine qs_ite (g_le (pl_and (pl_shr ej0 (p_64 ei2)) kl_255) kl_126) ?_ ?_
        · exact qs_tk ⟨_, _, _, rfl, ej0, (p_add ei2 k_8), hS, hM⟩
        · exact qs_tp1 (show vi _ _ from k_0) hS hM
theorem qz_X6_isSayable_L2 (n : Nat) : ∀ {P : Nat → Nat} {S : zm_S} {M : qm} {j0 : Int64} {qj0 : Int} {i2 : Int32} {qi2 : Int} (hS : Sh L xs P S) (hM : qM P S = M) (ej0 : j0.toInt = qj0) (ei2 : i2.toInt = qi2), qs (zf_X6_isSayable_L2 20000 n j0 i2 S) (qf_X6_isSayable_L2 20000 n qj0 qi2 M) (tO (vs (rp L xs P M vi) (rp L xs P M vu))) := by
  induction n with
  | zero =>
    intros
    exact qs_none
  | succ n ih =>
    intro P S M j0 qj0 i2 qi2 hS hM ej0 ei2
    unfold qf_X6_isSayable_L2
    refine qs_loop (C := (qc_X6_isSayable_L2 L xs P M (zf_X6_isSayable_L2 20000 n))) (qz_X6_isSayable_L2_b n hS hM ej0 ei2) ?_
    rintro x s ⟨_, _, _, rfl, u0, u1, hS2, hM2⟩
    exact ih hS2 hM2 u0 u1
set_option maxRecDepth 20000 in
theorem qz_X6_isSayable {P : Nat → Nat} {S : zm_S} {M : qm} {j0 : Int64} {qj0 : Int} (hS : Sh L xs P S) (hM : qM P S = M) (ej0 : j0.toInt = qj0) : qs (zf_X6_isSayable 20000 j0 S) (qf_X6_isSayable 20000 qj0 M) (tO (rp L xs P M vi)) := by
  unfold zf_X6_isSayable qf_X6_isSayable
  refine qs_lp (qz_X6_isSayable_L2 20000 hS hM ej0 k_0) ?_ ?_
  · intro v1981 S1981 w1981 h1981 hS1981 hM1981
    dsimp only
    exact qs_tp h1981 hS1981 hM1981
  · intro v1981 S1981 w1981 h1981 hS1981 hM1981
    dsimp only
    exact qs_tp (show vi _ _ from k_1) hS1981 hM1981
set_option maxRecDepth 20000 in
theorem qz_X6_hasRoomFor_J31 {P : Nat → Nat} {S : zm_S} {M : qm} {j1 : Int64} {qj1 : Int} {i4 : Int32} {qi4 : Int} {t0 : Int32} {qt0 : Int} {t1 : Int32} {qt1 : Int} (hS : Sh L xs P S) (hM : qM P S = M) (ej1 : j1.toInt = qj1) (ei4 : i4.toInt = qi4) (et0 : t0.toInt = qt0) (et1 : t1.toInt = qt1) {k : Nat → Int64 → Int32 → Int32 → zm_S → Option ((Int32 × zm_S) ⊕ ((Int32) × zm_S))} : qs (zf_X6_hasRoomFor_J31 20000 k 727 j1 i4 t0 t1 S) (qf_X6_hasRoomFor_J31 20000 qj1 qi4 qt0 qt1 M) (tk (vs (rp L xs P M vi) (rp L xs P M vi)) (qc_X6_hasRoomFor_L5 L xs P M k)) := by
  unfold zf_X6_hasRoomFor_J31 qf_X6_hasRoomFor_J31
  exact qs_tk ⟨_, _, _, _, rfl, ej1, (p_add et0 et1), (p_add ei4 k_8), hS, hM⟩
set_option maxRecDepth 20000 in
theorem qz_X6_hasRoomFor_L5_b (n : Nat) {P : Nat → Nat} {S : zm_S} {M : qm} {j1 : Int64} {qj1 : Int} {i3 : Int32} {qi3 : Int} {i4 : Int32} {qi4 : Int} (hS : Sh L xs P S) (hM : qM P S = M) (ej1 : j1.toInt = qj1) (ei3 : i3.toInt = qi3) (ei4 : i4.toInt = qi4) : qs (zf_X6_hasRoomFor_L5 20000 (n + 1) 727 j1 i3 i4 S) (qf_X6_hasRoomFor_L5_b 20000 qj1 qi3 qi4 M) (tk (vs (rp L xs P M vi) (rp L xs P M vi)) (qc_X6_hasRoomFor_L5 L xs P M (zf_X6_hasRoomFor_L5 20000 n))) := by
  refine qs_eq (zf_X6_hasRoomFor_L5.eq_2 ..) ?_
  unfold qf_X6_hasRoomFor_L5_b
  refine qs_ite (c_le k_64 ei4) ?_ ?_
  · exact qs_tp2 (show vi _ _ from ei3) hS hM
  · refine qs_ite (g_eq (pl_and (pl_shr ej1 (p_64 ei4)) kl_255) kl_0) ?_ ?_
    · exact (qz_X6_hasRoomFor_J31 hS hM ej1 ei4 ei3 k_0)
    · exact (qz_X6_hasRoomFor_J31 hS hM ej1 ei4 ei3 k_1)
theorem qz_X6_hasRoomFor_L5 (n : Nat) : ∀ {P : Nat → Nat} {S : zm_S} {M : qm} {j1 : Int64} {qj1 : Int} {i3 : Int32} {qi3 : Int} {i4 : Int32} {qi4 : Int} (hS : Sh L xs P S) (hM : qM P S = M) (ej1 : j1.toInt = qj1) (ei3 : i3.toInt = qi3) (ei4 : i4.toInt = qi4), qs (zf_X6_hasRoomFor_L5 20000 n 727 j1 i3 i4 S) (qf_X6_hasRoomFor_L5 20000 n qj1 qi3 qi4 M) (tO (vs (rp L xs P M vi) (rp L xs P M vi))) := by
  induction n with
  | zero =>
    intros
    exact qs_none
  | succ n ih =>
    intro P S M j1 qj1 i3 qi3 i4 qi4 hS hM ej1 ei3 ei4
    unfold qf_X6_hasRoomFor_L5
    refine qs_loop (C := (qc_X6_hasRoomFor_L5 L xs P M (zf_X6_hasRoomFor_L5 20000 n))) (qz_X6_hasRoomFor_L5_b n hS hM ej1 ei3 ei4) ?_
    rintro x s ⟨_, _, _, _, rfl, u0, u1, u2, hS2, hM2⟩
    exact ih hS2 hM2 u0 u1 u2
set_option maxRecDepth 20000 in
theorem qz_X6_hasRoomFor {P : Nat → Nat} {S : zm_S} {M : qm} {j1 : Int64} {qj1 : Int} (hS : Sh L xs P S) (hM : qM P S = M) (ej1 : j1.toInt = qj1) : qs (zf_X6_hasRoomFor 20000 727 j1 S) (qf_X6_hasRoomFor 20000 qj1 M) (tO (rp L xs P M vi)) := by
  unfold zf_X6_hasRoomFor qf_X6_hasRoomFor
  refine qs_lp (qz_X6_hasRoomFor_L5 20000 hS hM ej1 k_0 k_0) ?_ ?_
  · intro v1983 S1983 w1983 h1983 hS1983 hM1983
    dsimp only
    exact qs_tp h1983 hS1983 hM1983
  · intro v1983 S1983 w1983 h1983 hS1983 hM1983
    dsimp only
    refine qs_gi hS1983 hM1983 pl_727 ts_727 (z := 1) rfl rfl (fun v1984 h1984 => ?_)
    refine qs_ite (c_lt k_800 (p_add h1984 h1983)) ?_ ?_
    · exact qs_tp (show vi _ _ from k_0) hS1983 hM1983
    · exact qs_tp (show vi _ _ from k_1) hS1983 hM1983
set_option maxRecDepth 20000 in
theorem qz_X6_append_L3_b (n : Nat) {P : Nat → Nat} {S : zm_S} {M : qm} {j1 : Int64} {qj1 : Int} {i3 : Int32} {qi3 : Int} (hS : Sh L xs P S) (hM : qM P S = M) (ej1 : j1.toInt = qj1) (ei3 : i3.toInt = qi3) : qs (zf_X6_append_L3 20000 (n + 1) 727 j1 i3 S) (qf_X6_append_L3_b 20000 qj1 qi3 M) (tk (vs (rr L xs P vi) (rr L xs P vu)) (qc_X6_append_L3 L xs P (zf_X6_append_L3 20000 n))) := by
  refine qs_eq (zf_X6_append_L3.eq_2 ..) ?_
  unfold qf_X6_append_L3_b
  refine qs_ite (c_lt ei3 k_0) ?_ ?_
  · exact qs_tr2 (show vu _ _ from trivial) hS hM
  · refine qs_ite (g_eq (pl_and (pl_shr ej1 (p_64 ei3)) kl_255) kl_0) ?_ ?_
    · exact qs_tk ⟨_, _, _, rfl, ej1, (p_addm ei3 k_m8), hS, hM⟩
    · refine qs_gi hS hM pl_727 ts_727 (z := 1) rfl rfl (fun v1985 h1985 => ?_)
      refine qs_ite (c_le k_800 h1985) ?_ ?_
      · exact qs_tk ⟨_, _, _, rfl, ej1, (p_addm ei3 k_m8), hS, hM⟩
      · refine qs_gr hS pl_727 ts_727 rfl ?_
        refine qs_gi hS hM pl_727 ts_727 (z := 1) rfl rfl (fun v1987 h1987 => ?_)
        refine qs_gd (fun g1989 => ?_)
        refine qs_sc hS hM (pa_p hS pl_728 ts_728) h1987 g1989 (p_nar (p_chr (p_32 (pl_and (pl_shr ej1 (p_64 ei3)) kl_255)))) (fun S1988 M1988 hS1988 hM1988 => ?_)
        refine qs_gi hS1988 hM1988 pl_727 ts_727 (z := 1) rfl rfl (fun v1990 h1990 => ?_)
        refine qs_pi hS1988 hM1988 pl_727 ts_727 (z := 1) rfl rfl (p_add h1990 k_1) (fun S1991 M1991 hS1991 hM1991 => ?_)
        exact qs_tk ⟨_, _, _, rfl, ej1, (p_addm ei3 k_m8), hS1991, hM1991⟩
theorem qz_X6_append_L3 (n : Nat) : ∀ {P : Nat → Nat} {S : zm_S} {M : qm} {j1 : Int64} {qj1 : Int} {i3 : Int32} {qi3 : Int} (hS : Sh L xs P S) (hM : qM P S = M) (ej1 : j1.toInt = qj1) (ei3 : i3.toInt = qi3), qs (zf_X6_append_L3 20000 n 727 j1 i3 S) (qf_X6_append_L3 20000 n qj1 qi3 M) (tO (vs (rr L xs P vi) (rr L xs P vu))) := by
  induction n with
  | zero =>
    intros
    exact qs_none
  | succ n ih =>
    intro P S M j1 qj1 i3 qi3 hS hM ej1 ei3
    unfold qf_X6_append_L3
    refine qs_loop (C := (qc_X6_append_L3 L xs P (zf_X6_append_L3 20000 n))) (qz_X6_append_L3_b n hS hM ej1 ei3) ?_
    rintro x s ⟨_, _, _, rfl, u0, u1, hS2, hM2⟩
    exact ih hS2 hM2 u0 u1
set_option maxRecDepth 20000 in
theorem qz_X6_append {P : Nat → Nat} {S : zm_S} {M : qm} {j1 : Int64} {qj1 : Int} (hS : Sh L xs P S) (hM : qM P S = M) (ej1 : j1.toInt = qj1) : qs (zf_X6_append 20000 727 j1 S) (qf_X6_append 20000 qj1 M) (tO (rr L xs P vi)) := by
  unfold zf_X6_append qf_X6_append
  refine qs_lr (qz_X6_append_L3 20000 hS hM ej1 k_56) ?_ ?_
  · intro v1993 S1993 w1993 M1993 h1993 hS1993 hM1993
    dsimp only
    exact qs_tr h1993 hS1993 hM1993
  · intro v1993 S1993 w1993 M1993 h1993 hS1993 hM1993
    dsimp only
    refine qs_gi hS1993 hM1993 pl_727 ts_727 (z := 1) rfl rfl (fun v1994 h1994 => ?_)
    exact qs_tr (show vi _ _ from h1994) hS1993 hM1993
set_option maxRecDepth 20000 in
theorem qz_X11_say {P : Nat → Nat} {S : zm_S} {M : qm} {j1 : Int64} {qj1 : Int} (hS : Sh L xs P S) (hM : qM P S = M) (ej1 : j1.toInt = qj1) : qs (zf_X11_say 20000 6 j1 S) (qf_X11_say 20000 qj1 M) (tO (rr L xs P (vs vi ve))) := by
  unfold zf_X11_say qf_X11_say
  refine qs_bp (qz_X6_isSayable hS hM ej1) (fun v1995 S1995 w1995 h1995 hS1995 hM1995 => ?_)
  refine qs_xp (qz_X11_needArgument hS1995 hM1995 h1995) ?_ ?_
  · intro v1997 S1997 w1997 h1997 hS1997 hM1997
    dsimp only
    refine qs_gr hS1997 pl_6 ts_6 rfl ?_
    refine qs_zi hS1997 pl_727 ts_727 ?_
    refine qs_bp (qz_X6_hasRoomFor hS1997 hM1997 ej1) (fun v2000 S2000 w2000 h2000 hS2000 hM2000 => ?_)
    refine qs_xp (qz_X11_needState hS2000 hM2000 h2000) ?_ ?_
    · intro v2002 S2002 w2002 h2002 hS2002 hM2002
      dsimp only
      refine qs_gr hS2002 pl_6 ts_6 rfl ?_
      refine qs_zi hS2002 pl_727 ts_727 ?_
      refine qs_b (qz_X6_append hS2002 hM2002 ej1) (fun v2005 S2005 w2005 M2005 h2005 hS2005 hM2005 => ?_)
      exact qs_tr (show (vs vi ve) _ _ from h2005) hS2005 hM2005
    · intro v2002 S2002 hS2002 hM2002
      dsimp only
      exact qs_tr (show (vs vi ve) _ _ from rfl) hS2002 hM2002
  · intro v1997 S1997 hS1997 hM1997
    dsimp only
    exact qs_tr (show (vs vi ve) _ _ from rfl) hS1997 hM1997
set_option maxRecDepth 20000 in
theorem qz_L_say {P : Nat → Nat} {S : zm_S} {M : qm} {j1 : Int64} {qj1 : Int} (hS : Sh L xs P S) (hM : qM P S = M) (ej1 : j1.toInt = qj1) : qs (zf_L_say 20000 6 j1 2332 S) (qf_L_say 20000 qj1 M) (tO (rr L xs P vi)) := by
  unfold zf_L_say qf_L_say
  refine qs_zi hS pl_6 ts_6 ?_
  refine qs_xr (qz_X11_say hS hM ej1) ?_ ?_
  · intro v2008 S2008 w2008 M2008 h2008 hS2008 hM2008
    dsimp only
    refine qs_sl hS2008 hM2008 (pa_p hS2008 pl_2332 ts_2332) k_0 (by decide) (p_64 h2008) (fun S2009 M2009 hS2009 hM2009 => ?_)
    exact qs_tr (show vi _ _ from k_0) hS2009 hM2009
  · intro v2008 S2008 M2008 hS2008 hM2008
    dsimp only
    refine qs_ite Iff.rfl ?_ ?_
    · exact qs_tr (show vi _ _ from k_1) hS2008 hM2008
    · refine qs_ite Iff.rfl ?_ ?_
      · exact qs_tr (show vi _ _ from k_2) hS2008 hM2008
      · exact qs_none
set_option maxRecDepth 20000 in
theorem qz_X15_byteOf {P : Nat → Nat} {S : zm_S} {M : qm} {j0 : Int64} {qj0 : Int} {i2 : Int32} {qi2 : Int} (hS : Sh L xs P S) (hM : qM P S = M) (ej0 : j0.toInt = qj0) (ei2 : i2.toInt = qi2) : qs (zf_X15_byteOf 20000 j0 i2 S) (qf_X15_byteOf 20000 qj0 qi2 M) (tO (rp L xs P M vi)) := by
  unfold zf_X15_byteOf qf_X15_byteOf
  exact qs_tp (show vi _ _ from (p_32 (pl_and (pl_shr ej0 (p_64 (p_mul k_8 ei2))) kl_255))) hS hM
set_option maxRecDepth 20000 in
theorem qz_X15_characters_J49 {P : Nat → Nat} {S : zm_S} {M : qm} {j0 : Int64} {qj0 : Int} {i3 : Int32} {qi3 : Int} {t0 : Int32} {qt0 : Int} {t1 : Int32} {qt1 : Int} (hS : Sh L xs P S) (hM : qM P S = M) (ej0 : j0.toInt = qj0) (ei3 : i3.toInt = qi3) (et0 : t0.toInt = qt0) (et1 : t1.toInt = qt1) {k : Int64 → Int32 → Int32 → zm_S → Option ((Int32 × zm_S) ⊕ ((Int32) × zm_S))} : qs (zf_X15_characters_J49 20000 k j0 i3 t0 t1 S) (qf_X15_characters_J49 20000 qj0 qi3 qt0 qt1 M) (tk (vs (rp L xs P M vi) (rp L xs P M vi)) (qc_X15_characters_L4 L xs P M k)) := by
  unfold zf_X15_characters_J49 qf_X15_characters_J49
  exact qs_tk ⟨_, _, _, _, rfl, ej0, (p_add et0 et1), (p_add ei3 k_1), hS, hM⟩
set_option maxRecDepth 20000 in
theorem qz_X15_characters_J29 {P : Nat → Nat} {S : zm_S} {M : qm} {j0 : Int64} {qj0 : Int} {i2 : Int32} {qi2 : Int} {i3 : Int32} {qi3 : Int} {i4 : Int32} {qi4 : Int} (hS : Sh L xs P S) (hM : qM P S = M) (ej0 : j0.toInt = qj0) (ei2 : i2.toInt = qi2) (ei3 : i3.toInt = qi3) (ei4 : i4.toInt = qi4) {k : Int64 → Int32 → Int32 → zm_S → Option ((Int32 × zm_S) ⊕ ((Int32) × zm_S))} : qs (zf_X15_characters_J29 20000 k j0 i2 i3 i4 S) (qf_X15_characters_J29 20000 qj0 qi2 qi3 qi4 M) (tk (vs (rp L xs P M vi) (rp L xs P M vi)) (qc_X15_characters_L4 L xs P M k)) := by
  unfold zf_X15_characters_J29 qf_X15_characters_J29
  refine qs_ite (c_le ei4 k_126) ?_ ?_
  · refine qs_ite (c_le ei4 k_0) ?_ ?_
    · exact (qz_X15_characters_J49 hS hM ej0 ei3 ei2 k_0)
    · exact (qz_X15_characters_J49 hS hM ej0 ei3 ei2 k_1)
  · exact qs_tp1 (show vi _ _ from k_m1) hS hM
set_option maxRecDepth 20000 in
theorem qz_X15_characters_L4_b (n : Nat) {P : Nat → Nat} {S : zm_S} {M : qm} {j0 : Int64} {qj0 : Int} {i2 : Int32} {qi2 : Int} {i3 : Int32} {qi3 : Int} (hS : Sh L xs P S) (hM : qM P S = M) (ej0 : j0.toInt = qj0) (ei2 : i2.toInt = qi2) (ei3 : i3.toInt = qi3) : qs (zf_X15_characters_L4 20000 (n + 1) j0 i2 i3 S) (qf_X15_characters_L4_b 20000 qj0 qi2 qi3 M) (tk (vs (rp L xs P M vi) (rp L xs P M vi)) (qc_X15_characters_L4 L xs P M (zf_X15_characters_L4 20000 n))) := by
  refine qs_eq (zf_X15_characters_L4.eq_2 ..) ?_
  unfold qf_X15_characters_L4_b
  refine qs_ite (c_le k_8 ei3) ?_ ?_
  · exact qs_tp2 (show vi _ _ from ei2) hS hM
  · refine qs_bp (qz_X15_byteOf hS hM ej0 ei3) (fun v2010 S2010 w2010 h2010 hS2010 hM2010 => ?_)
    refine qs_ite (c_le h2010 k_0) ?_ ?_
    · exact (qz_X15_characters_J29 hS2010 hM2010 ej0 ei2 ei3 h2010)
    · refine qs_ite (c_lt h2010 k_32) ?_ ?_
      · exact qs_tp1 (show vi _ _ from k_m1) hS2010 hM2010
      · exact (qz_X15_characters_J29 hS2010 hM2010 ej0 ei2 ei3 h2010)
theorem qz_X15_characters_L4 (n : Nat) : ∀ {P : Nat → Nat} {S : zm_S} {M : qm} {j0 : Int64} {qj0 : Int} {i2 : Int32} {qi2 : Int} {i3 : Int32} {qi3 : Int} (hS : Sh L xs P S) (hM : qM P S = M) (ej0 : j0.toInt = qj0) (ei2 : i2.toInt = qi2) (ei3 : i3.toInt = qi3), qs (zf_X15_characters_L4 20000 n j0 i2 i3 S) (qf_X15_characters_L4 20000 n qj0 qi2 qi3 M) (tO (vs (rp L xs P M vi) (rp L xs P M vi))) := by
  induction n with
  | zero =>
    intros
    exact qs_none
  | succ n ih =>
    intro P S M j0 qj0 i2 qi2 i3 qi3 hS hM ej0 ei2 ei3
    unfold qf_X15_characters_L4
    refine qs_loop (C := (qc_X15_characters_L4 L xs P M (zf_X15_characters_L4 20000 n))) (qz_X15_characters_L4_b n hS hM ej0 ei2 ei3) ?_
    rintro x s ⟨_, _, _, _, rfl, u0, u1, u2, hS2, hM2⟩
    exact ih hS2 hM2 u0 u1 u2
set_option maxRecDepth 20000 in
theorem qz_X15_characters {P : Nat → Nat} {S : zm_S} {M : qm} {j0 : Int64} {qj0 : Int} (hS : Sh L xs P S) (hM : qM P S = M) (ej0 : j0.toInt = qj0) : qs (zf_X15_characters 20000 j0 S) (qf_X15_characters 20000 qj0 M) (tO (rp L xs P M vi)) := by
  unfold zf_X15_characters qf_X15_characters
  refine qs_lp (qz_X15_characters_L4 20000 hS hM ej0 k_0 k_0) ?_ ?_
  · intro v2012 S2012 w2012 h2012 hS2012 hM2012
    dsimp only
    exact qs_tp h2012 hS2012 hM2012
  · intro v2012 S2012 w2012 h2012 hS2012 hM2012
    dsimp only
    exact qs_tp (show vi _ _ from h2012) hS2012 hM2012
set_option maxRecDepth 20000 in
theorem qz_X15_say_L3_b (n : Nat) {P : Nat → Nat} {S : zm_S} {M : qm} {j1 : Int64} {qj1 : Int} {i3 : Int32} {qi3 : Int} (hS : Sh L xs P S) (hM : qM P S = M) (ej1 : j1.toInt = qj1) (ei3 : i3.toInt = qi3) : qs (zf_X15_say_L3 20000 (n + 1) 2184 j1 i3 S) (qf_X15_say_L3_b 20000 qj1 qi3 M) (tk (vs (rr L xs P vi) (rr L xs P vu)) (qc_X15_say_L3 L xs P (zf_X15_say_L3 20000 n))) := by
  refine qs_eq (zf_X15_say_L3.eq_2 ..) ?_
  unfold qf_X15_say_L3_b
  refine qs_ite (c_lt ei3 k_0) ?_ ?_
  · exact qs_tr2 (show vu _ _ from trivial) hS hM
  · refine qs_bp (qz_X15_byteOf hS hM ej1 ei3) (fun v2013 S2013 w2013 h2013 hS2013 hM2013 => ?_)
    refine qs_ite (c_le h2013 k_0) ?_ ?_
    · exact qs_tk ⟨_, _, _, rfl, ej1, (p_addm ei3 k_m1), hS2013, hM2013⟩
    · refine qs_gr hS2013 pl_2184 ts_2184 rfl ?_
      refine qs_gi hS2013 hM2013 pl_2184 ts_2184 (z := 1) rfl rfl (fun v2015 h2015 => ?_)
      refine qs_bp (qz_X15_byteOf hS2013 hM2013 ej1 ei3) (fun v2016 S2016 w2016 h2016 hS2016 hM2016 => ?_)
      refine qs_gd (fun g2018 => ?_)
      refine qs_si hS2016 hM2016 (pa_p hS2016 pl_2185 ts_2185) h2015 g2018 h2016 (fun S2017 M2017 hS2017 hM2017 => ?_)
      refine qs_gi hS2017 hM2017 pl_2184 ts_2184 (z := 1) rfl rfl (fun v2019 h2019 => ?_)
      refine qs_pi hS2017 hM2017 pl_2184 ts_2184 (z := 1) rfl rfl (p_add h2019 k_1) (fun S2020 M2020 hS2020 hM2020 => ?_)
      exact qs_tk ⟨_, _, _, rfl, ej1, (p_addm ei3 k_m1), hS2020, hM2020⟩
theorem qz_X15_say_L3 (n : Nat) : ∀ {P : Nat → Nat} {S : zm_S} {M : qm} {j1 : Int64} {qj1 : Int} {i3 : Int32} {qi3 : Int} (hS : Sh L xs P S) (hM : qM P S = M) (ej1 : j1.toInt = qj1) (ei3 : i3.toInt = qi3), qs (zf_X15_say_L3 20000 n 2184 j1 i3 S) (qf_X15_say_L3 20000 n qj1 qi3 M) (tO (vs (rr L xs P vi) (rr L xs P vu))) := by
  induction n with
  | zero =>
    intros
    exact qs_none
  | succ n ih =>
    intro P S M j1 qj1 i3 qi3 hS hM ej1 ei3
    unfold qf_X15_say_L3
    refine qs_loop (C := (qc_X15_say_L3 L xs P (zf_X15_say_L3 20000 n))) (qz_X15_say_L3_b n hS hM ej1 ei3) ?_
    rintro x s ⟨_, _, _, rfl, u0, u1, hS2, hM2⟩
    exact ih hS2 hM2 u0 u1
set_option maxRecDepth 20000 in
theorem qz_X15_say {P : Nat → Nat} {S : zm_S} {M : qm} {j1 : Int64} {qj1 : Int} (hS : Sh L xs P S) (hM : qM P S = M) (ej1 : j1.toInt = qj1) : qs (zf_X15_say 20000 2184 j1 S) (qf_X15_say 20000 qj1 M) (tO (rr L xs P vi)) := by
  unfold zf_X15_say qf_X15_say
  refine qs_lr (qz_X15_say_L3 20000 hS hM ej1 k_7) ?_ ?_
  · intro v2022 S2022 w2022 M2022 h2022 hS2022 hM2022
    dsimp only
    exact qs_tr h2022 hS2022 hM2022
  · intro v2022 S2022 w2022 M2022 h2022 hS2022 hM2022
    dsimp only
    refine qs_gi hS2022 hM2022 pl_2184 ts_2184 (z := 1) rfl rfl (fun v2023 h2023 => ?_)
    exact qs_tr (show vi _ _ from h2023) hS2022 hM2022
set_option maxRecDepth 20000 in
theorem qz_X18_say_J35 {P : Nat → Nat} {S : zm_S} {M : qm} {j1 : Int64} {qj1 : Int} {t1 : Int32} {qt1 : Int} {t2 : Int32} {qt2 : Int} (hS : Sh L xs P S) (hM : qM P S = M) (ej1 : j1.toInt = qj1) (et1 : t1.toInt = qt1) (et2 : t2.toInt = qt2) : qs (zf_X18_say_J35 20000 2156 j1 2156 t1 t2 S) (qf_X18_say_J35 20000 qj1 qt1 qt2 M) (tO (rr L xs P vi)) := by
  unfold zf_X18_say_J35 qf_X18_say_J35
  refine qs_zi hS pl_2156 ts_2156 ?_
  refine qs_b (qz_X18_goes hS hM et1 et2) (fun v2025 S2025 w2025 M2025 h2025 hS2025 hM2025 => ?_)
  refine qs_ite (c_eq h2025 k_0) ?_ ?_
  · exact qs_tr (show vi _ _ from k_0) hS2025 hM2025
  · refine qs_gr hS2025 pl_2156 ts_2156 rfl ?_
    refine qs_zi hS2025 pl_2184 ts_2184 ?_
    refine qs_b (qz_X15_say hS2025 hM2025 ej1) (fun v2028 S2028 w2028 M2028 h2028 hS2028 hM2028 => ?_)
    exact qs_tr (show vi _ _ from h2028) hS2028 hM2028
set_option maxRecDepth 20000 in
theorem qz_X18_say_J15 {P : Nat → Nat} {S : zm_S} {M : qm} {j1 : Int64} {qj1 : Int} {i3 : Int32} {qi3 : Int} {t1 : Int32} {qt1 : Int} (hS : Sh L xs P S) (hM : qM P S = M) (ej1 : j1.toInt = qj1) (ei3 : i3.toInt = qi3) (et1 : t1.toInt = qt1) : qs (zf_X18_say_J15 20000 2156 j1 i3 2156 t1 S) (qf_X18_say_J15 20000 qj1 qi3 qt1 M) (tO (rr L xs P vi)) := by
  unfold zf_X18_say_J15 qf_X18_say_J15
  refine qs_gr hS pl_2156 ts_2156 rfl ?_
  refine qs_gi hS hM pl_2184 ts_2184 (z := 1) rfl rfl (fun v2030 h2030 => ?_)
  refine qs_ite (c_lt k_800 (p_add h2030 ei3)) ?_ ?_
  · exact (qz_X18_say_J35 hS hM ej1 et1 k_0)
  · exact (qz_X18_say_J35 hS hM ej1 et1 k_1)
set_option maxRecDepth 20000 in
theorem qz_X18_say {P : Nat → Nat} {S : zm_S} {M : qm} {j1 : Int64} {qj1 : Int} (hS : Sh L xs P S) (hM : qM P S = M) (ej1 : j1.toInt = qj1) : qs (zf_X18_say 20000 2156 j1 S) (qf_X18_say 20000 qj1 M) (tO (rr L xs P vi)) := by
  unfold zf_X18_say qf_X18_say
  refine qs_bp (qz_X15_characters hS hM ej1) (fun v2031 S2031 w2031 h2031 hS2031 hM2031 => ?_)
  refine qs_ite (c_lt h2031 k_0) ?_ ?_
  · exact (qz_X18_say_J15 hS2031 hM2031 ej1 h2031 k_0)
  · exact (qz_X18_say_J15 hS2031 hM2031 ej1 h2031 k_1)
set_option maxRecDepth 20000 in
theorem qz_X11_trim_J20 {P : Nat → Nat} {S : zm_S} {M : qm} {i1 : Int32} {qi1 : Int} {t0 : Int32} {qt0 : Int} (hS : Sh L xs P S) (hM : qM P S = M) (ei1 : i1.toInt = qi1) (et0 : t0.toInt = qt0) : qs (zf_X11_trim_J20 20000 6 i1 t0 S) (qf_X11_trim_J20 20000 qi1 qt0 M) (tO (rr L xs P (vs vi ve))) := by
  unfold zf_X11_trim_J20 qf_X11_trim_J20
  refine qs_xp (qz_X11_needArgument hS hM et0) ?_ ?_
  · intro v2033 S2033 w2033 h2033 hS2033 hM2033
    dsimp only
    refine qs_gr hS2033 pl_6 ts_6 rfl ?_
    refine qs_gi hS2033 hM2033 pl_727 ts_727 (z := 1) rfl rfl (fun v2035 h2035 => ?_)
    refine qs_pi hS2033 hM2033 pl_727 ts_727 (z := 1) rfl rfl (p_sub h2035 ei1) (fun S2036 M2036 hS2036 hM2036 => ?_)
    refine qs_gr hS2036 pl_6 ts_6 rfl ?_
    refine qs_gi hS2036 hM2036 pl_727 ts_727 (z := 1) rfl rfl (fun v2038 h2038 => ?_)
    exact qs_tr (show (vs vi ve) _ _ from h2038) hS2036 hM2036
  · intro v2033 S2033 hS2033 hM2033
    dsimp only
    exact qs_tr (show (vs vi ve) _ _ from rfl) hS2033 hM2033
set_option maxRecDepth 20000 in
theorem qz_X11_trim_J19 {P : Nat → Nat} {S : zm_S} {M : qm} {i1 : Int32} {qi1 : Int} (hS : Sh L xs P S) (hM : qM P S = M) (ei1 : i1.toInt = qi1) : qs (zf_X11_trim_J19 20000 6 i1 S) (qf_X11_trim_J19 20000 qi1 M) (tO (rr L xs P (vs vi ve))) := by
  unfold zf_X11_trim_J19 qf_X11_trim_J19
  exact (qz_X11_trim_J20 hS hM ei1 k_0)
set_option maxRecDepth 20000 in
theorem qz_X11_trim {P : Nat → Nat} {S : zm_S} {M : qm} {i1 : Int32} {qi1 : Int} (hS : Sh L xs P S) (hM : qM P S = M) (ei1 : i1.toInt = qi1) : qs (zf_X11_trim 20000 6 i1 S) (qf_X11_trim 20000 qi1 M) (tO (rr L xs P (vs vi ve))) := by
  unfold zf_X11_trim qf_X11_trim
  refine qs_ite (c_lt ei1 k_0) ?_ ?_
  · exact (qz_X11_trim_J19 hS hM ei1)
  · refine qs_gr hS pl_6 ts_6 rfl ?_
    refine qs_gi hS hM pl_727 ts_727 (z := 1) rfl rfl (fun v2040 h2040 => ?_)
    refine qs_ite (c_lt h2040 ei1) ?_ ?_
    · exact (qz_X11_trim_J19 hS hM ei1)
    · exact (qz_X11_trim_J20 hS hM ei1 k_1)
set_option maxRecDepth 20000 in
theorem qz_L_trim {P : Nat → Nat} {S : zm_S} {M : qm} {i1 : Int32} {qi1 : Int} (hS : Sh L xs P S) (hM : qM P S = M) (ei1 : i1.toInt = qi1) : qs (zf_L_trim 20000 6 i1 2332 S) (qf_L_trim 20000 qi1 M) (tO (rr L xs P vi)) := by
  unfold zf_L_trim qf_L_trim
  refine qs_zi hS pl_6 ts_6 ?_
  refine qs_xr (qz_X11_trim hS hM ei1) ?_ ?_
  · intro v2043 S2043 w2043 M2043 h2043 hS2043 hM2043
    dsimp only
    refine qs_sl hS2043 hM2043 (pa_p hS2043 pl_2332 ts_2332) k_0 (by decide) (p_64 h2043) (fun S2044 M2044 hS2044 hM2044 => ?_)
    exact qs_tr (show vi _ _ from k_0) hS2044 hM2044
  · intro v2043 S2043 M2043 hS2043 hM2043
    dsimp only
    refine qs_ite Iff.rfl ?_ ?_
    · exact qs_tr (show vi _ _ from k_1) hS2043 hM2043
    · exact qs_none
set_option maxRecDepth 20000 in
theorem qz_X18_trim_J21 {P : Nat → Nat} {S : zm_S} {M : qm} {i1 : Int32} {qi1 : Int} {t1 : Int32} {qt1 : Int} (hS : Sh L xs P S) (hM : qM P S = M) (ei1 : i1.toInt = qi1) (et1 : t1.toInt = qt1) : qs (zf_X18_trim_J21 20000 2156 i1 2156 t1 S) (qf_X18_trim_J21 20000 qi1 qt1 M) (tO (rr L xs P vi)) := by
  unfold zf_X18_trim_J21 qf_X18_trim_J21
  refine qs_zi hS pl_2156 ts_2156 ?_
  refine qs_b (qz_X18_goes hS hM et1 k_1) (fun v2046 S2046 w2046 M2046 h2046 hS2046 hM2046 => ?_)
  refine qs_ite (c_eq h2046 k_0) ?_ ?_
  · exact qs_tr (show vi _ _ from k_0) hS2046 hM2046
  · refine qs_gr hS2046 pl_2156 ts_2156 rfl ?_
    refine qs_gi hS2046 hM2046 pl_2184 ts_2184 (z := 1) rfl rfl (fun v2048 h2048 => ?_)
    refine qs_pi hS2046 hM2046 pl_2184 ts_2184 (z := 1) rfl rfl (p_sub h2048 ei1) (fun S2049 M2049 hS2049 hM2049 => ?_)
    refine qs_gr hS2049 pl_2156 ts_2156 rfl ?_
    refine qs_gi hS2049 hM2049 pl_2184 ts_2184 (z := 1) rfl rfl (fun v2051 h2051 => ?_)
    exact qs_tr (show vi _ _ from h2051) hS2049 hM2049
set_option maxRecDepth 20000 in
theorem qz_X18_trim_J20 {P : Nat → Nat} {S : zm_S} {M : qm} {i1 : Int32} {qi1 : Int} (hS : Sh L xs P S) (hM : qM P S = M) (ei1 : i1.toInt = qi1) : qs (zf_X18_trim_J20 20000 2156 i1 2156 S) (qf_X18_trim_J20 20000 qi1 M) (tO (rr L xs P vi)) := by
  unfold zf_X18_trim_J20 qf_X18_trim_J20
  exact (qz_X18_trim_J21 hS hM ei1 k_0)
set_option maxRecDepth 20000 in
theorem qz_X18_trim {P : Nat → Nat} {S : zm_S} {M : qm} {i1 : Int32} {qi1 : Int} (hS : Sh L xs P S) (hM : qM P S = M) (ei1 : i1.toInt = qi1) : qs (zf_X18_trim 20000 2156 i1 S) (qf_X18_trim 20000 qi1 M) (tO (rr L xs P vi)) := by
  unfold zf_X18_trim qf_X18_trim
  refine qs_ite (c_lt ei1 k_0) ?_ ?_
  · exact (qz_X18_trim_J20 hS hM ei1)
  · refine qs_gr hS pl_2156 ts_2156 rfl ?_
    refine qs_gi hS hM pl_2184 ts_2184 (z := 1) rfl rfl (fun v2053 h2053 => ?_)
    refine qs_ite (c_lt h2053 ei1) ?_ ?_
    · exact (qz_X18_trim_J20 hS hM ei1)
    · exact (qz_X18_trim_J21 hS hM ei1 k_1)
set_option maxRecDepth 20000 in
theorem qz_X6_splitWords_L10_b (n : Nat) {P : Nat → Nat} {S : zm_S} {M : qm} {i1 : Int32} {qi1 : Int} {i2 : Int32} {qi2 : Int} (hS : Sh L xs P S) (hM : qM P S = M) (ei1 : i1.toInt = qi1) (ei2 : i2.toInt = qi2) : qs (zf_X6_splitWords_L10 20000 (n + 1) 727 i1 i2 S) (qf_X6_splitWords_L10_b 20000 qi1 qi2 M) (tk (vs (rp L xs P M vu) (rp L xs P M vi)) (qc_X6_splitWords_L10 L xs P M (zf_X6_splitWords_L10 20000 n))) := by
  refine qs_eq (zf_X6_splitWords_L10.eq_2 ..) ?_
  unfold qf_X6_splitWords_L10_b
  refine qs_gi hS hM pl_727 ts_727 (z := 1) rfl rfl (fun v2054 h2054 => ?_)
  refine qs_ite (c_le h2054 ei1) ?_ ?_
  · exact qs_tp2 (show vi _ _ from ei1) hS hM
  · refine qs_gr hS pl_727 ts_727 rfl ?_
    refine qs_gd (fun g2057 => ?_)
    refine qs_xi hM (pa_p hS pl_728 ts_728) ei1 g2057 (fun v2056 h2056 => ?_)
    refine qs_ite (c_eq h2056 k_32) ?_ ?_
    · exact qs_tk ⟨_, _, _, rfl, (p_add ei1 k_1), ei2, hS, hM⟩
    · exact qs_tp2 (show vi _ _ from ei1) hS hM
theorem qz_X6_splitWords_L10 (n : Nat) : ∀ {P : Nat → Nat} {S : zm_S} {M : qm} {i1 : Int32} {qi1 : Int} {i2 : Int32} {qi2 : Int} (hS : Sh L xs P S) (hM : qM P S = M) (ei1 : i1.toInt = qi1) (ei2 : i2.toInt = qi2), qs (zf_X6_splitWords_L10 20000 n 727 i1 i2 S) (qf_X6_splitWords_L10 20000 n qi1 qi2 M) (tO (vs (rp L xs P M vu) (rp L xs P M vi))) := by
  induction n with
  | zero =>
    intros
    exact qs_none
  | succ n ih =>
    intro P S M i1 qi1 i2 qi2 hS hM ei1 ei2
    unfold qf_X6_splitWords_L10
    refine qs_loop (C := (qc_X6_splitWords_L10 L xs P M (zf_X6_splitWords_L10 20000 n))) (qz_X6_splitWords_L10_b n hS hM ei1 ei2) ?_
    rintro x s ⟨_, _, _, rfl, u0, u1, hS2, hM2⟩
    exact ih hS2 hM2 u0 u1
set_option maxRecDepth 20000 in
theorem qz_X6_isDigit {P : Nat → Nat} {S : zm_S} {M : qm} {i0 : Int32} {qi0 : Int} (hS : Sh L xs P S) (hM : qM P S = M) (ei0 : i0.toInt = qi0) : qs (zf_X6_isDigit 20000 i0 S) (qf_X6_isDigit 20000 qi0 M) (tO (rp L xs P M vi)) := by
  unfold zf_X6_isDigit qf_X6_isDigit
  refine qs_ite (c_lt ei0 k_48) ?_ ?_
  · exact qs_tp (show vi _ _ from k_0) hS hM
  · refine qs_ite (c_lt k_57 ei0) ?_ ?_
    · exact qs_tp (show vi _ _ from k_0) hS hM
    · exact qs_tp (show vi _ _ from k_1) hS hM
set_option maxRecDepth 20000 in
theorem qz_X6_isLetter {P : Nat → Nat} {S : zm_S} {M : qm} {i0 : Int32} {qi0 : Int} (hS : Sh L xs P S) (hM : qM P S = M) (ei0 : i0.toInt = qi0) : qs (zf_X6_isLetter 20000 i0 S) (qf_X6_isLetter 20000 qi0 M) (tO (rp L xs P M vi)) := by
  unfold zf_X6_isLetter qf_X6_isLetter
  refine qs_ite (c_lt ei0 k_97) ?_ ?_
  · exact qs_tp (show vi _ _ from k_0) hS hM
  · refine qs_ite (c_lt k_122 ei0) ?_ ?_
    · exact qs_tp (show vi _ _ from k_0) hS hM
    · exact qs_tp (show vi _ _ from k_1) hS hM
set_option maxRecDepth 20000 in
theorem qz_X6_isSign_L2_b (n : Nat) {P : Nat → Nat} {S : zm_S} {M : qm} {i0 : Int32} {qi0 : Int} {i1 : Int32} {qi1 : Int} (hS : Sh L xs P S) (hM : qM P S = M) (ei0 : i0.toInt = qi0) (ei1 : i1.toInt = qi1) : qs (zf_X6_isSign_L2 20000 (n + 1) i0 i1 S) (qf_X6_isSign_L2_b 20000 qi0 qi1 M) (tk (vs (rp L xs P M vi) (rp L xs P M vu)) (qc_X6_isSign_L2 L xs P M (zf_X6_isSign_L2 20000 n))) := by
  refine qs_eq (zf_X6_isSign_L2.eq_2 ..) ?_
  unfold qf_X6_isSign_L2_b
  refine qs_cn1 hS (fun v2058 h2058 => ?_)
  refine qs_ite (c_le h2058 ei1) ?_ ?_
  · exact qs_tp2 (show vu _ _ from trivial) hS hM
  · refine qs_gd (fun g2060 => ?_)
    refine qs_c1 hS ei1 g2060 (fun v2059 h2059 => ?_)
    refine qs_ite (c_eq h2059 ei0) ?_ ?_
    · exact qs_tp1 (show vi _ _ from k_1) hS hM
    · exact qs_tk ⟨_, _, _, rfl, ei0, (p_add ei1 k_1), hS, hM⟩
theorem qz_X6_isSign_L2 (n : Nat) : ∀ {P : Nat → Nat} {S : zm_S} {M : qm} {i0 : Int32} {qi0 : Int} {i1 : Int32} {qi1 : Int} (hS : Sh L xs P S) (hM : qM P S = M) (ei0 : i0.toInt = qi0) (ei1 : i1.toInt = qi1), qs (zf_X6_isSign_L2 20000 n i0 i1 S) (qf_X6_isSign_L2 20000 n qi0 qi1 M) (tO (vs (rp L xs P M vi) (rp L xs P M vu))) := by
  induction n with
  | zero =>
    intros
    exact qs_none
  | succ n ih =>
    intro P S M i0 qi0 i1 qi1 hS hM ei0 ei1
    unfold qf_X6_isSign_L2
    refine qs_loop (C := (qc_X6_isSign_L2 L xs P M (zf_X6_isSign_L2 20000 n))) (qz_X6_isSign_L2_b n hS hM ei0 ei1) ?_
    rintro x s ⟨_, _, _, rfl, u0, u1, hS2, hM2⟩
    exact ih hS2 hM2 u0 u1
set_option maxRecDepth 20000 in
theorem qz_X6_isSign {P : Nat → Nat} {S : zm_S} {M : qm} {i0 : Int32} {qi0 : Int} (hS : Sh L xs P S) (hM : qM P S = M) (ei0 : i0.toInt = qi0) : qs (zf_X6_isSign 20000 i0 S) (qf_X6_isSign 20000 qi0 M) (tO (rp L xs P M vi)) := by
  unfold zf_X6_isSign qf_X6_isSign
  refine qs_lp (qz_X6_isSign_L2 20000 hS hM ei0 k_0) ?_ ?_
  · intro v2062 S2062 w2062 h2062 hS2062 hM2062
    dsimp only
    exact qs_tp h2062 hS2062 hM2062
  · intro v2062 S2062 w2062 h2062 hS2062 hM2062
    dsimp only
    exact qs_tp (show vi _ _ from k_0) hS2062 hM2062
set_option maxRecDepth 20000 in
theorem qz_X6_splitWord_J123 {P : Nat → Nat} {S : zm_S} {M : qm} {i2 : Int32} {qi2 : Int} {t1 : Int32} {qt1 : Int} {t2 : Int32} {qt2 : Int} (hS : Sh L xs P S) (hM : qM P S = M) (ei2 : i2.toInt = qi2) (et1 : t1.toInt = qt1) (et2 : t2.toInt = qt2) : qs (zf_X6_splitWord_J123 20000 i2 729 t1 t2 S) (qf_X6_splitWord_J123 20000 qi2 qt1 qt2 M) (tO (rr L xs P vi)) := by
  unfold zf_X6_splitWord_J123 qf_X6_splitWord_J123
  refine qs_gd (fun g2064 => ?_)
  refine qs_si hS hM (pa_p hS pl_729 ts_729) et1 g2064 et2 (fun S2063 M2063 hS2063 hM2063 => ?_)
  exact qs_tr (show vi _ _ from (p_add ei2 k_1)) hS2063 hM2063
set_option maxRecDepth 20000 in
theorem qz_X6_splitWord_J100 {P : Nat → Nat} {S : zm_S} {M : qm} {i2 : Int32} {qi2 : Int} {t1 : Int32} {qt1 : Int} {t2 : Int32} {qt2 : Int} (hS : Sh L xs P S) (hM : qM P S = M) (ei2 : i2.toInt = qi2) (et1 : t1.toInt = qt1) (et2 : t2.toInt = qt2) : qs (zf_X6_splitWord_J100 20000 i2 729 t1 t2 S) (qf_X6_splitWord_J100 20000 qi2 qt1 qt2 M) (tO (rr L xs P vi)) := by
  unfold zf_X6_splitWord_J100 qf_X6_splitWord_J100
  refine qs_gd (fun g2066 => ?_)
  refine qs_si hS hM (pa_p hS pl_729 ts_729) et1 g2066 et2 (fun S2065 M2065 hS2065 hM2065 => ?_)
  exact qs_tr (show vi _ _ from (p_add ei2 k_2)) hS2065 hM2065
set_option maxRecDepth 20000 in
theorem qz_X6_splitWord_J75 {P : Nat → Nat} {S : zm_S} {M : qm} {i1 : Int32} {qi1 : Int} {i2 : Int32} {qi2 : Int} {i3 : Int32} {qi3 : Int} {t0 : Int32} {qt0 : Int} (hS : Sh L xs P S) (hM : qM P S = M) (ei1 : i1.toInt = qi1) (ei2 : i2.toInt = qi2) (ei3 : i3.toInt = qi3) (et0 : t0.toInt = qt0) : qs (zf_X6_splitWord_J75 20000 727 i1 i2 i3 t0 S) (qf_X6_splitWord_J75 20000 qi1 qi2 qi3 qt0 M) (tO (rr L xs P vi)) := by
  unfold zf_X6_splitWord_J75 qf_X6_splitWord_J75
  refine qs_ite (c_eq et0 k_0) ?_ ?_
  · refine qs_gr hS pl_727 ts_727 rfl ?_
    refine qs_bp (qz_X6_isSign hS hM ei3) (fun v2068 S2068 w2068 h2068 hS2068 hM2068 => ?_)
    refine qs_ite (c_eq h2068 k_0) ?_ ?_
    · exact (qz_X6_splitWord_J123 hS2068 hM2068 ei2 ei1 k_63)
    · exact (qz_X6_splitWord_J123 hS2068 hM2068 ei2 ei1 ei3)
  · refine qs_gr hS pl_727 ts_727 rfl ?_
    refine qs_ite (c_eq ei3 k_60) ?_ ?_
    · exact (qz_X6_splitWord_J100 hS hM ei2 ei1 k_108)
    · exact (qz_X6_splitWord_J100 hS hM ei2 ei1 k_103)
set_option maxRecDepth 20000 in
theorem qz_X6_splitWord_J74 {P : Nat → Nat} {S : zm_S} {M : qm} {i1 : Int32} {qi1 : Int} {i2 : Int32} {qi2 : Int} {i3 : Int32} {qi3 : Int} (hS : Sh L xs P S) (hM : qM P S = M) (ei1 : i1.toInt = qi1) (ei2 : i2.toInt = qi2) (ei3 : i3.toInt = qi3) : qs (zf_X6_splitWord_J74 20000 727 i1 i2 i3 S) (qf_X6_splitWord_J74 20000 qi1 qi2 qi3 M) (tO (rr L xs P vi)) := by
  unfold zf_X6_splitWord_J74 qf_X6_splitWord_J74
  exact (qz_X6_splitWord_J75 hS hM ei1 ei2 ei3 k_0)
set_option maxRecDepth 20000 in
theorem qz_X6_splitWord_J47 {P : Nat → Nat} {S : zm_S} {M : qm} {i1 : Int32} {qi1 : Int} {i2 : Int32} {qi2 : Int} {i3 : Int32} {qi3 : Int} (hS : Sh L xs P S) (hM : qM P S = M) (ei1 : i1.toInt = qi1) (ei2 : i2.toInt = qi2) (ei3 : i3.toInt = qi3) : qs (zf_X6_splitWord_J47 20000 727 i1 i2 i3 S) (qf_X6_splitWord_J47 20000 qi1 qi2 qi3 M) (tO (rr L xs P vi)) := by
  unfold zf_X6_splitWord_J47 qf_X6_splitWord_J47
  refine qs_gi hS hM pl_727 ts_727 (z := 1) rfl rfl (fun v2070 h2070 => ?_)
  refine qs_ite (c_le h2070 (p_add ei2 k_1)) ?_ ?_
  · exact (qz_X6_splitWord_J74 hS hM ei1 ei2 ei3)
  · refine qs_gr hS pl_727 ts_727 rfl ?_
    refine qs_gd (fun g2073 => ?_)
    refine qs_xi hM (pa_p hS pl_728 ts_728) (p_add ei2 k_1) g2073 (fun v2072 h2072 => ?_)
    refine qs_ite (c_eq h2072 k_61) ?_ ?_
    · exact (qz_X6_splitWord_J75 hS hM ei1 ei2 ei3 k_1)
    · exact (qz_X6_splitWord_J74 hS hM ei1 ei2 ei3)
set_option maxRecDepth 20000 in
theorem qz_X6_splitName_L5_b (n : Nat) {P : Nat → Nat} {S : zm_S} {M : qm} {i1 : Int32} {qi1 : Int} {i2 : Int32} {qi2 : Int} {i3 : Int32} {qi3 : Int} {j4 : Int64} {qj4 : Int} (hS : Sh L xs P S) (hM : qM P S = M) (ei1 : i1.toInt = qi1) (ei2 : i2.toInt = qi2) (ei3 : i3.toInt = qi3) (ej4 : j4.toInt = qj4) : qs (zf_X6_splitName_L5 20000 (n + 1) 727 i1 i2 i3 j4 S) (qf_X6_splitName_L5_b 20000 qi1 qi2 qi3 qj4 M) (tk (vs (rp L xs P M vi) (rp L xs P M (vp vi vl))) (qc_X6_splitName_L5 L xs P M (zf_X6_splitName_L5 20000 n))) := by
  refine qs_eq (zf_X6_splitName_L5.eq_2 ..) ?_
  unfold qf_X6_splitName_L5_b
  refine qs_gi hS hM pl_727 ts_727 (z := 1) rfl rfl (fun v2074 h2074 => ?_)
  refine qs_ite (c_le h2074 ei3) ?_ ?_
  · exact qs_tp2 (show (vp vi vl) _ _ from ⟨ei3, ej4⟩) hS hM
  · refine qs_gr hS pl_727 ts_727 rfl ?_
    refine qs_gd (fun g2077 => ?_)
    refine qs_xi hM (pa_p hS pl_728 ts_728) ei3 g2077 (fun v2076 h2076 => ?_)
    refine qs_bp (qz_X6_isLetter hS hM h2076) (fun v2078 S2078 w2078 h2078 hS2078 hM2078 => ?_)
    refine qs_ite (c_eq h2078 k_0) ?_ ?_
    · exact qs_tp2 (show (vp vi vl) _ _ from ⟨ei3, ej4⟩) hS2078 hM2078
    · refine qs_gr hS2078 pl_727 ts_727 rfl ?_
      refine qs_gd (fun g2081 => ?_)
      refine qs_xi hM2078 (pa_p hS2078 pl_728 ts_728) ei3 g2081 (fun v2080 h2080 => ?_)
      exact qs_tk ⟨_, _, _, _, _, rfl, ei1, ei2, (p_add ei3 k_1), (pl_or (pl_shl ej4 (p_64 k_8)) (p_64 h2080)), hS2078, hM2078⟩
theorem qz_X6_splitName_L5 (n : Nat) : ∀ {P : Nat → Nat} {S : zm_S} {M : qm} {i1 : Int32} {qi1 : Int} {i2 : Int32} {qi2 : Int} {i3 : Int32} {qi3 : Int} {j4 : Int64} {qj4 : Int} (hS : Sh L xs P S) (hM : qM P S = M) (ei1 : i1.toInt = qi1) (ei2 : i2.toInt = qi2) (ei3 : i3.toInt = qi3) (ej4 : j4.toInt = qj4), qs (zf_X6_splitName_L5 20000 n 727 i1 i2 i3 j4 S) (qf_X6_splitName_L5 20000 n qi1 qi2 qi3 qj4 M) (tO (vs (rp L xs P M vi) (rp L xs P M (vp vi vl)))) := by
  induction n with
  | zero =>
    intros
    exact qs_none
  | succ n ih =>
    intro P S M i1 qi1 i2 qi2 i3 qi3 j4 qj4 hS hM ei1 ei2 ei3 ej4
    unfold qf_X6_splitName_L5
    refine qs_loop (C := (qc_X6_splitName_L5 L xs P M (zf_X6_splitName_L5 20000 n))) (qz_X6_splitName_L5_b n hS hM ei1 ei2 ei3 ej4) ?_
    rintro x s ⟨_, _, _, _, _, rfl, u0, u1, u2, u3, hS2, hM2⟩
    exact ih hS2 hM2 u0 u1 u2 u3
set_option maxRecDepth 20000 in
theorem qz_X6_splitName_J46 {P : Nat → Nat} {S : zm_S} {M : qm} {i1 : Int32} {qi1 : Int} {i2 : Int32} {qi2 : Int} {i3 : Int32} {qi3 : Int} {j4 : Int64} {qj4 : Int} (hS : Sh L xs P S) (hM : qM P S = M) (ei1 : i1.toInt = qi1) (ei2 : i2.toInt = qi2) (ei3 : i3.toInt = qi3) (ej4 : j4.toInt = qj4) : qs (zf_X6_splitName_J46 20000 727 i1 i2 i3 j4 S) (qf_X6_splitName_J46 20000 qi1 qi2 qi3 qj4 M) (tO (rr L xs P vi)) := by
  unfold zf_X6_splitName_J46 qf_X6_splitName_J46
  refine qs_gr hS pl_727 ts_727 rfl ?_
  refine qs_gd (fun g2084 => ?_)
  refine qs_sl hS hM (pa_p hS pl_730 ts_730) ei1 g2084 ej4 (fun S2083 M2083 hS2083 hM2083 => ?_)
  refine qs_gr hS2083 pl_727 ts_727 rfl ?_
  refine qs_ite (c_lt k_8 (p_sub ei3 ei2)) ?_ ?_
  · refine qs_gd (fun g2087 => ?_)
    refine qs_si hS2083 hM2083 (pa_p hS2083 pl_729 ts_729) ei1 g2087 k_63 (fun S2086 M2086 hS2086 hM2086 => ?_)
    exact qs_tr (show vi _ _ from ei3) hS2086 hM2086
  · refine qs_gd (fun g2089 => ?_)
    refine qs_si hS2083 hM2083 (pa_p hS2083 pl_729 ts_729) ei1 g2089 k_97 (fun S2088 M2088 hS2088 hM2088 => ?_)
    exact qs_tr (show vi _ _ from ei3) hS2088 hM2088
set_option maxRecDepth 20000 in
theorem qz_X6_splitName {P : Nat → Nat} {S : zm_S} {M : qm} {i1 : Int32} {qi1 : Int} {i2 : Int32} {qi2 : Int} (hS : Sh L xs P S) (hM : qM P S = M) (ei1 : i1.toInt = qi1) (ei2 : i2.toInt = qi2) : qs (zf_X6_splitName 20000 727 i1 i2 S) (qf_X6_splitName 20000 qi1 qi2 M) (tO (rr L xs P vi)) := by
  unfold zf_X6_splitName qf_X6_splitName
  refine qs_lp (qz_X6_splitName_L5 20000 hS hM ei1 ei2 ei2 kl_0) ?_ ?_
  · intro v2091 S2091 w2091 h2091 hS2091 hM2091
    dsimp only
    exact qs_tr h2091 hS2091 hM2091
  · intro v2091 S2091 w2091 h2091 hS2091 hM2091
    dsimp only
    exact (qz_X6_splitName_J46 hS2091 hM2091 ei1 ei2 h2091.1 h2091.2)
set_option maxRecDepth 20000 in
theorem qz_X6_splitNumber_L5_b (n : Nat) {P : Nat → Nat} {S : zm_S} {M : qm} {i1 : Int32} {qi1 : Int} {i2 : Int32} {qi2 : Int} {i3 : Int32} {qi3 : Int} {j4 : Int64} {qj4 : Int} (hS : Sh L xs P S) (hM : qM P S = M) (ei1 : i1.toInt = qi1) (ei2 : i2.toInt = qi2) (ei3 : i3.toInt = qi3) (ej4 : j4.toInt = qj4) : qs (zf_X6_splitNumber_L5 20000 (n + 1) 727 i1 i2 i3 j4 S) (qf_X6_splitNumber_L5_b 20000 qi1 qi2 qi3 qj4 M) (tk (vs (rp L xs P M vi) (rp L xs P M (vp vi vl))) (qc_X6_splitNumber_L5 L xs P M (zf_X6_splitNumber_L5 20000 n))) := by
  refine qs_eq (zf_X6_splitNumber_L5.eq_2 ..) ?_
  unfold qf_X6_splitNumber_L5_b
  refine qs_gi hS hM pl_727 ts_727 (z := 1) rfl rfl (fun v2092 h2092 => ?_)
  refine qs_ite (c_le h2092 ei3) ?_ ?_
  · exact qs_tp2 (show (vp vi vl) _ _ from ⟨ei3, ej4⟩) hS hM
  · refine qs_gr hS pl_727 ts_727 rfl ?_
    refine qs_gd (fun g2095 => ?_)
    refine qs_xi hM (pa_p hS pl_728 ts_728) ei3 g2095 (fun v2094 h2094 => ?_)
    refine qs_bp (qz_X6_isDigit hS hM h2094) (fun v2096 S2096 w2096 h2096 hS2096 hM2096 => ?_)
    refine qs_ite (c_eq h2096 k_0) ?_ ?_
    · exact qs_tp2 (show (vp vi vl) _ _ from ⟨ei3, ej4⟩) hS2096 hM2096
    · refine qs_gr hS2096 pl_727 ts_727 rfl ?_
      refine qs_gd (fun g2099 => ?_)
      refine qs_xi hM2096 (pa_p hS2096 pl_728 ts_728) ei3 g2099 (fun v2098 h2098 => ?_)
      exact qs_tk ⟨_, _, _, _, _, rfl, ei1, ei2, (p_add ei3 k_1), (pl_add (pl_mul ej4 kl_10) (p_64 (p_sub h2098 k_48))), hS2096, hM2096⟩
theorem qz_X6_splitNumber_L5 (n : Nat) : ∀ {P : Nat → Nat} {S : zm_S} {M : qm} {i1 : Int32} {qi1 : Int} {i2 : Int32} {qi2 : Int} {i3 : Int32} {qi3 : Int} {j4 : Int64} {qj4 : Int} (hS : Sh L xs P S) (hM : qM P S = M) (ei1 : i1.toInt = qi1) (ei2 : i2.toInt = qi2) (ei3 : i3.toInt = qi3) (ej4 : j4.toInt = qj4), qs (zf_X6_splitNumber_L5 20000 n 727 i1 i2 i3 j4 S) (qf_X6_splitNumber_L5 20000 n qi1 qi2 qi3 qj4 M) (tO (vs (rp L xs P M vi) (rp L xs P M (vp vi vl)))) := by
  induction n with
  | zero =>
    intros
    exact qs_none
  | succ n ih =>
    intro P S M i1 qi1 i2 qi2 i3 qi3 j4 qj4 hS hM ei1 ei2 ei3 ej4
    unfold qf_X6_splitNumber_L5
    refine qs_loop (C := (qc_X6_splitNumber_L5 L xs P M (zf_X6_splitNumber_L5 20000 n))) (qz_X6_splitNumber_L5_b n hS hM ei1 ei2 ei3 ej4) ?_
    rintro x s ⟨_, _, _, _, _, rfl, u0, u1, u2, u3, hS2, hM2⟩
    exact ih hS2 hM2 u0 u1 u2 u3
set_option maxRecDepth 20000 in
theorem qz_X6_splitNumber_J50 {P : Nat → Nat} {S : zm_S} {M : qm} {i1 : Int32} {qi1 : Int} {i2 : Int32} {qi2 : Int} {i3 : Int32} {qi3 : Int} {j4 : Int64} {qj4 : Int} (hS : Sh L xs P S) (hM : qM P S = M) (ei1 : i1.toInt = qi1) (ei2 : i2.toInt = qi2) (ei3 : i3.toInt = qi3) (ej4 : j4.toInt = qj4) : qs (zf_X6_splitNumber_J50 20000 727 i1 i2 i3 j4 S) (qf_X6_splitNumber_J50 20000 qi1 qi2 qi3 qj4 M) (tO (rr L xs P vi)) := by
  unfold zf_X6_splitNumber_J50 qf_X6_splitNumber_J50
  refine qs_gr hS pl_727 ts_727 rfl ?_
  refine qs_gd (fun g2102 => ?_)
  refine qs_sl hS hM (pa_p hS pl_730 ts_730) ei1 g2102 ej4 (fun S2101 M2101 hS2101 hM2101 => ?_)
  refine qs_gr hS2101 pl_727 ts_727 rfl ?_
  refine qs_ite (c_lt k_9 (p_sub ei3 ei2)) ?_ ?_
  · refine qs_gd (fun g2105 => ?_)
    refine qs_si hS2101 hM2101 (pa_p hS2101 pl_729 ts_729) ei1 g2105 k_63 (fun S2104 M2104 hS2104 hM2104 => ?_)
    exact qs_tr (show vi _ _ from ei3) hS2104 hM2104
  · refine qs_gd (fun g2107 => ?_)
    refine qs_si hS2101 hM2101 (pa_p hS2101 pl_729 ts_729) ei1 g2107 k_48 (fun S2106 M2106 hS2106 hM2106 => ?_)
    exact qs_tr (show vi _ _ from ei3) hS2106 hM2106
set_option maxRecDepth 20000 in
theorem qz_X6_splitNumber {P : Nat → Nat} {S : zm_S} {M : qm} {i1 : Int32} {qi1 : Int} {i2 : Int32} {qi2 : Int} (hS : Sh L xs P S) (hM : qM P S = M) (ei1 : i1.toInt = qi1) (ei2 : i2.toInt = qi2) : qs (zf_X6_splitNumber 20000 727 i1 i2 S) (qf_X6_splitNumber 20000 qi1 qi2 M) (tO (rr L xs P vi)) := by
  unfold zf_X6_splitNumber qf_X6_splitNumber
  refine qs_lp (qz_X6_splitNumber_L5 20000 hS hM ei1 ei2 ei2 kl_0) ?_ ?_
  · intro v2109 S2109 w2109 h2109 hS2109 hM2109
    dsimp only
    exact qs_tr h2109 hS2109 hM2109
  · intro v2109 S2109 w2109 h2109 hS2109 hM2109
    dsimp only
    exact (qz_X6_splitNumber_J50 hS2109 hM2109 ei1 ei2 h2109.1 h2109.2)
set_option maxRecDepth 20000 in
theorem qz_X6_splitWord {P : Nat → Nat} {S : zm_S} {M : qm} {i1 : Int32} {qi1 : Int} {i2 : Int32} {qi2 : Int} (hS : Sh L xs P S) (hM : qM P S = M) (ei1 : i1.toInt = qi1) (ei2 : i2.toInt = qi2) : qs (zf_X6_splitWord 20000 727 i1 i2 S) (qf_X6_splitWord 20000 qi1 qi2 M) (tO (rr L xs P vi)) := by
  unfold zf_X6_splitWord qf_X6_splitWord
  refine qs_gr hS pl_727 ts_727 rfl ?_
  refine qs_gd (fun g2112 => ?_)
  refine qs_xi hM (pa_p hS pl_728 ts_728) ei2 g2112 (fun v2111 h2111 => ?_)
  refine qs_bp (qz_X6_isDigit hS hM h2111) (fun v2113 S2113 w2113 h2113 hS2113 hM2113 => ?_)
  refine qs_ite (c_eq h2113 k_0) ?_ ?_
  · refine qs_bp (qz_X6_isLetter hS2113 hM2113 h2111) (fun v2114 S2114 w2114 h2114 hS2114 hM2114 => ?_)
    refine qs_ite (c_eq h2114 k_0) ?_ ?_
    · refine qs_ite (c_eq h2111 k_60) ?_ ?_
      · exact (qz_X6_splitWord_J47 hS2114 hM2114 ei1 ei2 h2111)
      · refine qs_ite (c_eq h2111 k_62) ?_ ?_
        · exact (qz_X6_splitWord_J47 hS2114 hM2114 ei1 ei2 h2111)
        · exact (qz_X6_splitWord_J74 hS2114 hM2114 ei1 ei2 h2111)
    · refine qs_zi hS2114 pl_727 ts_727 ?_
      refine qs_b (qz_X6_splitName hS2114 hM2114 ei1 ei2) (fun v2116 S2116 w2116 M2116 h2116 hS2116 hM2116 => ?_)
      exact qs_tr (show vi _ _ from h2116) hS2116 hM2116
  · refine qs_zi hS2113 pl_727 ts_727 ?_
    refine qs_b (qz_X6_splitNumber hS2113 hM2113 ei1 ei2) (fun v2118 S2118 w2118 M2118 h2118 hS2118 hM2118 => ?_)
    exact qs_tr (show vi _ _ from h2118) hS2118 hM2118
set_option maxRecDepth 20000 in
theorem qz_X6_splitWords_J35 {P : Nat → Nat} {S : zm_S} {M : qm} {i1 : Int32} {qi1 : Int} {i2 : Int32} {qi2 : Int} (hS : Sh L xs P S) (hM : qM P S = M) (ei1 : i1.toInt = qi1) (ei2 : i2.toInt = qi2) {k : Nat → Int32 → Int32 → zm_S → Option ((Unit × zm_S) ⊕ ((Unit) × zm_S))} : qs (zf_X6_splitWords_J35 20000 k 727 i1 i2 S) (qf_X6_splitWords_J35 20000 qi1 qi2 M) (tk (vs (rr L xs P vu) (rr L xs P vu)) (qc_X6_splitWords_L4 L xs P k)) := by
  unfold zf_X6_splitWords_J35 qf_X6_splitWords_J35
  refine qs_gr hS pl_727 ts_727 rfl ?_
  refine qs_gd (fun g2121 => ?_)
  refine qs_si hS hM (pa_p hS pl_731 ts_731) ei2 g2121 ei1 (fun S2120 M2120 hS2120 hM2120 => ?_)
  refine qs_gr hS2120 pl_727 ts_727 rfl ?_
  refine qs_gd (fun g2124 => ?_)
  refine qs_sl hS2120 hM2120 (pa_p hS2120 pl_730 ts_730) ei2 g2124 kl_0 (fun S2123 M2123 hS2123 hM2123 => ?_)
  refine qs_gi hS2123 hM2123 pl_727 ts_727 (z := 1) rfl rfl (fun v2125 h2125 => ?_)
  refine qs_ite (c_lt ei1 h2125) ?_ ?_
  · refine qs_ite (c_eq ei2 k_120) ?_ ?_
    · refine qs_gr hS2123 pl_727 ts_727 rfl ?_
      refine qs_gd (fun g2128 => ?_)
      refine qs_si hS2123 hM2123 (pa_p hS2123 pl_729 ts_729) ei2 g2128 k_63 (fun S2127 M2127 hS2127 hM2127 => ?_)
      exact qs_tr1 (show vu _ _ from trivial) hS2127 hM2127
    · refine qs_zi hS2123 pl_727 ts_727 ?_
      refine qs_b (qz_X6_splitWord hS2123 hM2123 ei2 ei1) (fun v2130 S2130 w2130 M2130 h2130 hS2130 hM2130 => ?_)
      refine qs_gr hS2130 pl_727 ts_727 rfl ?_
      refine qs_gd (fun g2133 => ?_)
      refine qs_xi hM2130 (pa_p hS2130 pl_729 ts_729) ei2 g2133 (fun v2132 h2132 => ?_)
      refine qs_ite (c_eq h2132 k_63) ?_ ?_
      · exact qs_tr1 (show vu _ _ from trivial) hS2130 hM2130
      · exact qs_tk ⟨_, _, _, rfl, h2130, (p_add ei2 k_1), hS2130, hM2130⟩
  · refine qs_gr hS2123 pl_727 ts_727 rfl ?_
    refine qs_gd (fun g2136 => ?_)
    refine qs_si hS2123 hM2123 (pa_p hS2123 pl_729 ts_729) ei2 g2136 k_101 (fun S2135 M2135 hS2135 hM2135 => ?_)
    exact qs_tr1 (show vu _ _ from trivial) hS2135 hM2135
set_option maxRecDepth 20000 in
theorem qz_X6_splitWords_L4_b (n : Nat) {P : Nat → Nat} {S : zm_S} {M : qm} {i1 : Int32} {qi1 : Int} {i2 : Int32} {qi2 : Int} (hS : Sh L xs P S) (hM : qM P S = M) (ei1 : i1.toInt = qi1) (ei2 : i2.toInt = qi2) : qs (zf_X6_splitWords_L4 20000 (n + 1) 727 i1 i2 S) (qf_X6_splitWords_L4_b 20000 qi1 qi2 M) (tk (vs (rr L xs P vu) (rr L xs P vu)) (qc_X6_splitWords_L4 L xs P (zf_X6_splitWords_L4 20000 n))) := by
  refine qs_eq (zf_X6_splitWords_L4.eq_2 ..) ?_
  unfold qf_X6_splitWords_L4_b
  refine qs_ite (c_lt k_120 ei2) ?_ ?_
  · exact qs_tr2 (show vu _ _ from trivial) hS hM
  · refine qs_lp (qz_X6_splitWords_L10 20000 hS hM ei1 ei2) ?_ ?_
    · intro v2138 S2138 w2138 h2138 hS2138 hM2138
      dsimp only
      exact qs_tr1 h2138 hS2138 hM2138
    · intro v2138 S2138 w2138 h2138 hS2138 hM2138
      dsimp only
      exact (qz_X6_splitWords_J35 hS2138 hM2138 h2138 ei2)
theorem qz_X6_splitWords_L4 (n : Nat) : ∀ {P : Nat → Nat} {S : zm_S} {M : qm} {i1 : Int32} {qi1 : Int} {i2 : Int32} {qi2 : Int} (hS : Sh L xs P S) (hM : qM P S = M) (ei1 : i1.toInt = qi1) (ei2 : i2.toInt = qi2), qs (zf_X6_splitWords_L4 20000 n 727 i1 i2 S) (qf_X6_splitWords_L4 20000 n qi1 qi2 M) (tO (vs (rr L xs P vu) (rr L xs P vu))) := by
  induction n with
  | zero =>
    intros
    exact qs_none
  | succ n ih =>
    intro P S M i1 qi1 i2 qi2 hS hM ei1 ei2
    unfold qf_X6_splitWords_L4
    refine qs_loop (C := (qc_X6_splitWords_L4 L xs P (zf_X6_splitWords_L4 20000 n))) (qz_X6_splitWords_L4_b n hS hM ei1 ei2) ?_
    rintro x s ⟨_, _, _, rfl, u0, u1, hS2, hM2⟩
    exact ih hS2 hM2 u0 u1
set_option maxRecDepth 20000 in
theorem qz_X6_splitWords {P : Nat → Nat} {S : zm_S} {M : qm}  (hS : Sh L xs P S) (hM : qM P S = M)  : qs (zf_X6_splitWords 20000 727 S) (qf_X6_splitWords 20000 M) (tO (rr L xs P vu)) := by
  unfold zf_X6_splitWords qf_X6_splitWords
  refine qs_lr (qz_X6_splitWords_L4 20000 hS hM k_0 k_0) ?_ ?_
  · intro v2140 S2140 w2140 M2140 h2140 hS2140 hM2140
    dsimp only
    exact qs_tr h2140 hS2140 hM2140
  · intro v2140 S2140 w2140 M2140 h2140 hS2140 hM2140
    dsimp only
    exact qs_tr (show vu _ _ from trivial) hS2140 hM2140
set_option maxRecDepth 20000 in
theorem qz_X6_isRuleName_L2_b (n : Nat) {P : Nat → Nat} {S : zm_S} {M : qm} {j1 : Int64} {qj1 : Int} {i3 : Int32} {qi3 : Int} (hS : Sh L xs P S) (hM : qM P S = M) (ej1 : j1.toInt = qj1) (ei3 : i3.toInt = qi3) : qs (zf_X6_isRuleName_L2 20000 (n + 1) 727 j1 i3 S) (qf_X6_isRuleName_L2_b 20000 qj1 qi3 M) (tk (vs (rp L xs P M vi) (rp L xs P M vu)) (qc_X6_isRuleName_L2 L xs P M (zf_X6_isRuleName_L2 20000 n))) := by
  refine qs_eq (zf_X6_isRuleName_L2.eq_2 ..) ?_
  unfold qf_X6_isRuleName_L2_b
  refine qs_gi hS hM pl_727 ts_727 (z := 6) rfl rfl (fun v2141 h2141 => ?_)
  refine qs_ite (c_le h2141 ei3) ?_ ?_
  · exact qs_tp2 (show vu _ _ from trivial) hS hM
  · refine qs_gr hS pl_727 ts_727 rfl ?_
    refine qs_gd (fun g2144 => ?_)
    refine qs_xl hM (pa_p hS pl_732 ts_732) ei3 g2144 (fun v2143 h2143 => ?_)
    refine qs_ite (g_eq h2143 ej1) ?_ ?_
    · exact qs_tp1 (show vi _ _ from k_1) hS hM
    · exact qs_tk ⟨_, _, _, rfl, ej1, (p_add ei3 k_1), hS, hM⟩
theorem qz_X6_isRuleName_L2 (n : Nat) : ∀ {P : Nat → Nat} {S : zm_S} {M : qm} {j1 : Int64} {qj1 : Int} {i3 : Int32} {qi3 : Int} (hS : Sh L xs P S) (hM : qM P S = M) (ej1 : j1.toInt = qj1) (ei3 : i3.toInt = qi3), qs (zf_X6_isRuleName_L2 20000 n 727 j1 i3 S) (qf_X6_isRuleName_L2 20000 n qj1 qi3 M) (tO (vs (rp L xs P M vi) (rp L xs P M vu))) := by
  induction n with
  | zero =>
    intros
    exact qs_none
  | succ n ih =>
    intro P S M j1 qj1 i3 qi3 hS hM ej1 ei3
    unfold qf_X6_isRuleName_L2
    refine qs_loop (C := (qc_X6_isRuleName_L2 L xs P M (zf_X6_isRuleName_L2 20000 n))) (qz_X6_isRuleName_L2_b n hS hM ej1 ei3) ?_
    rintro x s ⟨_, _, _, rfl, u0, u1, hS2, hM2⟩
    exact ih hS2 hM2 u0 u1
end QZ
