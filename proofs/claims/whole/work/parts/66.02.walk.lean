/-! ===== each function over memories is the one over plain states, by program (wip/tools/q) ===== -/
section QZ
variable {L : Nat} {xs : Nat → Int32}
set_option maxRecDepth 20000 in
theorem qz_X6_isRuleName {P : Nat → Nat} {S : zm_S} {M : qm} {j1 : Int64} {qj1 : Int} (hS : Sh L xs P S) (hM : qM P S = M) (ej1 : j1.toInt = qj1) : qs (zf_X6_isRuleName 20000 727 j1 S) (qf_X6_isRuleName 20000 qj1 M) (tO (rp L xs P M vi)) := by
  unfold zf_X6_isRuleName qf_X6_isRuleName
  refine qs_lp (qz_X6_isRuleName_L2 20000 hS hM ej1 k_0) ?_ ?_
  · intro v2146 S2146 w2146 h2146 hS2146 hM2146
    dsimp only
    exact qs_tp h2146 hS2146 hM2146
  · intro v2146 S2146 w2146 h2146 hS2146 hM2146
    dsimp only
    exact qs_tp (show vi _ _ from k_0) hS2146 hM2146
set_option maxRecDepth 20000 in
theorem qz_X6_skipSign {P : Nat → Nat} {S : zm_S} {M : qm} {i1 : Int32} {qi1 : Int} (hS : Sh L xs P S) (hM : qM P S = M) (ei1 : i1.toInt = qi1) : qs (zf_X6_skipSign 20000 727 i1 S) (qf_X6_skipSign 20000 qi1 M) (tO (rr L xs P vi)) := by
  unfold zf_X6_skipSign qf_X6_skipSign
  refine qs_gr hS pl_727 ts_727 rfl ?_
  refine qs_gi hS hM pl_727 ts_727 (z := 5) rfl rfl (fun v2148 h2148 => ?_)
  refine qs_gd (fun g2150 => ?_)
  refine qs_xi hM (pa_p hS pl_729 ts_729) h2148 g2150 (fun v2149 h2149 => ?_)
  refine qs_ite (c_eq h2149 ei1) ?_ ?_
  · refine qs_gi hS hM pl_727 ts_727 (z := 5) rfl rfl (fun v2151 h2151 => ?_)
    refine qs_ite (c_lt h2151 k_120) ?_ ?_
    · refine qs_gi hS hM pl_727 ts_727 (z := 5) rfl rfl (fun v2152 h2152 => ?_)
      refine qs_pi hS hM pl_727 ts_727 (z := 5) rfl rfl (p_add h2152 k_1) (fun S2153 M2153 hS2153 hM2153 => ?_)
      exact qs_tr (show vi _ _ from k_1) hS2153 hM2153
    · exact qs_tr (show vi _ _ from k_0) hS hM
  · exact qs_tr (show vi _ _ from k_0) hS hM
set_option maxRecDepth 20000 in
theorem qz_X6_readFactor {P : Nat → Nat} {S : zm_S} {M : qm} {i1 : Int32} {qi1 : Int} {K : Nat → Int32 → zm_S → Option (Int32 × zm_S)} {Kq : Int → qm → Option (Int × qm)} (hK : ∀ {S : zm_S} {M : qm} {x2 : Int32} {y2 : Int}, Sh L xs P S → qM P S = M → x2.toInt = y2 → qs (K 727 x2 S) (Kq y2 M) (tO (rr L xs P vi))) (hS : Sh L xs P S) (hM : qM P S = M) (ei1 : i1.toInt = qi1) : qs (zf_X6_readFactor 20000 K 727 i1 S) (qf_X6_readFactor 20000 Kq qi1 M) (tO (rr L xs P vi)) := by
  unfold zf_X6_readFactor qf_X6_readFactor
  refine qs_zi hS pl_727 ts_727 ?_
  refine qs_b (qz_X6_skipSign hS hM k_48) (fun v2155 S2155 w2155 M2155 h2155 hS2155 hM2155 => ?_)
  refine qs_ite (c_eq h2155 k_0) ?_ ?_
  · refine qs_zi hS2155 pl_727 ts_727 ?_
    refine qs_b (qz_X6_skipSign hS2155 hM2155 k_97) (fun v2157 S2157 w2157 M2157 h2157 hS2157 hM2157 => ?_)
    refine qs_ite (c_eq h2157 k_0) ?_ ?_
    · refine qs_ite (c_le k_8 ei1) ?_ ?_
      · exact qs_tr (show vi _ _ from k_0) hS2157 hM2157
      · refine qs_zi hS2157 pl_727 ts_727 ?_
        refine qs_b (qz_X6_skipSign hS2157 hM2157 k_40) (fun v2159 S2159 w2159 M2159 h2159 hS2159 hM2159 => ?_)
        refine qs_ite (c_eq h2159 k_0) ?_ ?_
        · exact qs_tr (show vi _ _ from k_0) hS2159 hM2159
        · refine qs_zi hS2159 pl_727 ts_727 ?_
          refine qs_b (hK hS2159 hM2159 (p_add ei1 k_1)) (fun v2161 S2161 w2161 M2161 h2161 hS2161 hM2161 => ?_)
          refine qs_ite (c_eq h2161 k_0) ?_ ?_
          · exact qs_tr (show vi _ _ from k_0) hS2161 hM2161
          · refine qs_zi hS2161 pl_727 ts_727 ?_
            refine qs_b (qz_X6_skipSign hS2161 hM2161 k_41) (fun v2163 S2163 w2163 M2163 h2163 hS2163 hM2163 => ?_)
            refine qs_ite (c_eq h2163 k_0) ?_ ?_
            · exact qs_tr (show vi _ _ from k_0) hS2163 hM2163
            · exact qs_tr (show vi _ _ from k_1) hS2163 hM2163
    · exact qs_tr (show vi _ _ from k_1) hS2157 hM2157
  · exact qs_tr (show vi _ _ from k_1) hS2155 hM2155
set_option maxRecDepth 20000 in
theorem qz_X6_readTerm_J36 {P : Nat → Nat} {S : zm_S} {M : qm} {i1 : Int32} {qi1 : Int} {i3 : Int32} {qi3 : Int} {K : Nat → Int32 → zm_S → Option (Int32 × zm_S)} {Kq : Int → qm → Option (Int × qm)} (hK : ∀ {S : zm_S} {M : qm} {x2 : Int32} {y2 : Int}, Sh L xs P S → qM P S = M → x2.toInt = y2 → qs (K 727 x2 S) (Kq y2 M) (tO (rr L xs P vi))) (hS : Sh L xs P S) (hM : qM P S = M) (ei1 : i1.toInt = qi1) (ei3 : i3.toInt = qi3) {k : Nat → Int32 → Int32 → Int32 → zm_S → Option ((Int32 × zm_S) ⊕ ((Int32) × zm_S))} : qs (zf_X6_readTerm_J36 20000 K k 727 i1 i3 S) (qf_X6_readTerm_J36 20000 Kq qi1 qi3 M) (tk (vs (rr L xs P vi) (rr L xs P vi)) (qc_X6_readTerm_L8 L xs P k)) := by
  unfold zf_X6_readTerm_J36 qf_X6_readTerm_J36
  refine qs_zi hS pl_727 ts_727 ?_
  refine qs_b (qz_X6_readFactor hK hS hM ei1) (fun v2165 S2165 w2165 M2165 h2165 hS2165 hM2165 => ?_)
  exact qs_tk ⟨_, _, _, _, rfl, ei1, h2165, (p_add ei3 k_1), hS2165, hM2165⟩
set_option maxRecDepth 20000 in
theorem qz_X6_readTerm_L8_b (n : Nat) {P : Nat → Nat} {S : zm_S} {M : qm} {i1 : Int32} {qi1 : Int} {i2 : Int32} {qi2 : Int} {i3 : Int32} {qi3 : Int} {K : Nat → Int32 → zm_S → Option (Int32 × zm_S)} {Kq : Int → qm → Option (Int × qm)} (hK : ∀ {S : zm_S} {M : qm} {x2 : Int32} {y2 : Int}, Sh L xs P S → qM P S = M → x2.toInt = y2 → qs (K 727 x2 S) (Kq y2 M) (tO (rr L xs P vi))) (hS : Sh L xs P S) (hM : qM P S = M) (ei1 : i1.toInt = qi1) (ei2 : i2.toInt = qi2) (ei3 : i3.toInt = qi3) : qs (zf_X6_readTerm_L8 20000 K (n + 1) 727 i1 i2 i3 S) (qf_X6_readTerm_L8_b 20000 Kq qi1 qi2 qi3 M) (tk (vs (rr L xs P vi) (rr L xs P vi)) (qc_X6_readTerm_L8 L xs P (zf_X6_readTerm_L8 20000 K n))) := by
  refine qs_eq (zf_X6_readTerm_L8.eq_2 ..) ?_
  unfold qf_X6_readTerm_L8_b
  refine qs_ite (c_le k_120 ei3) ?_ ?_
  · exact qs_tr2 (show vi _ _ from ei2) hS hM
  · refine qs_ite (c_eq ei2 k_0) ?_ ?_
    · exact qs_tr2 (show vi _ _ from ei2) hS hM
    · refine qs_zi hS pl_727 ts_727 ?_
      refine qs_b (qz_X6_skipSign hS hM k_42) (fun v2167 S2167 w2167 M2167 h2167 hS2167 hM2167 => ?_)
      refine qs_ite (c_eq h2167 k_0) ?_ ?_
      · refine qs_zi hS2167 pl_727 ts_727 ?_
        refine qs_b (qz_X6_skipSign hS2167 hM2167 k_47) (fun v2169 S2169 w2169 M2169 h2169 hS2169 hM2169 => ?_)
        refine qs_ite (c_eq h2169 k_0) ?_ ?_
        · exact qs_tr2 (show vi _ _ from ei2) hS2169 hM2169
        · exact (qz_X6_readTerm_J36 hK hS2169 hM2169 ei1 ei3)
      · exact (qz_X6_readTerm_J36 hK hS2167 hM2167 ei1 ei3)
theorem qz_X6_readTerm_L8 (n : Nat) : ∀ {P : Nat → Nat} {S : zm_S} {M : qm} {i1 : Int32} {qi1 : Int} {i2 : Int32} {qi2 : Int} {i3 : Int32} {qi3 : Int} {K : Nat → Int32 → zm_S → Option (Int32 × zm_S)} {Kq : Int → qm → Option (Int × qm)} (hK : ∀ {S : zm_S} {M : qm} {x2 : Int32} {y2 : Int}, Sh L xs P S → qM P S = M → x2.toInt = y2 → qs (K 727 x2 S) (Kq y2 M) (tO (rr L xs P vi))) (hS : Sh L xs P S) (hM : qM P S = M) (ei1 : i1.toInt = qi1) (ei2 : i2.toInt = qi2) (ei3 : i3.toInt = qi3), qs (zf_X6_readTerm_L8 20000 K n 727 i1 i2 i3 S) (qf_X6_readTerm_L8 20000 Kq n qi1 qi2 qi3 M) (tO (vs (rr L xs P vi) (rr L xs P vi))) := by
  induction n with
  | zero =>
    intros
    exact qs_none
  | succ n ih =>
    intro P S M i1 qi1 i2 qi2 i3 qi3 K Kq hK hS hM ei1 ei2 ei3
    unfold qf_X6_readTerm_L8
    refine qs_loop (C := (qc_X6_readTerm_L8 L xs P (zf_X6_readTerm_L8 20000 K n))) (qz_X6_readTerm_L8_b n hK hS hM ei1 ei2 ei3) ?_
    rintro x s ⟨_, _, _, _, rfl, u0, u1, u2, hS2, hM2⟩
    exact ih hK hS2 hM2 u0 u1 u2
set_option maxRecDepth 20000 in
theorem qz_X6_readTerm {P : Nat → Nat} {S : zm_S} {M : qm} {i1 : Int32} {qi1 : Int} {K : Nat → Int32 → zm_S → Option (Int32 × zm_S)} {Kq : Int → qm → Option (Int × qm)} (hK : ∀ {S : zm_S} {M : qm} {x2 : Int32} {y2 : Int}, Sh L xs P S → qM P S = M → x2.toInt = y2 → qs (K 727 x2 S) (Kq y2 M) (tO (rr L xs P vi))) (hS : Sh L xs P S) (hM : qM P S = M) (ei1 : i1.toInt = qi1) : qs (zf_X6_readTerm 20000 K 727 i1 S) (qf_X6_readTerm 20000 Kq qi1 M) (tO (rr L xs P vi)) := by
  unfold zf_X6_readTerm qf_X6_readTerm
  refine qs_zi hS pl_727 ts_727 ?_
  refine qs_b (qz_X6_readFactor hK hS hM ei1) (fun v2171 S2171 w2171 M2171 h2171 hS2171 hM2171 => ?_)
  refine qs_lr (qz_X6_readTerm_L8 20000 hK hS2171 hM2171 ei1 h2171 k_0) ?_ ?_
  · intro v2173 S2173 w2173 M2173 h2173 hS2173 hM2173
    dsimp only
    exact qs_tr h2173 hS2173 hM2173
  · intro v2173 S2173 w2173 M2173 h2173 hS2173 hM2173
    dsimp only
    refine qs_ite (or_congr (c_eq h2173 k_0) (c_eq h2173 k_1)) ?_ ?_
    · exact qs_tr (show vi _ _ from h2173) hS2173 hM2173
    · exact qs_none
set_option maxRecDepth 20000 in
theorem qz_X6_readSide_B_J43 {P : Nat → Nat} {S : zm_S} {M : qm} {i1 : Int32} {qi1 : Int} {i3 : Int32} {qi3 : Int} {K : Nat → Int32 → zm_S → Option (Int32 × zm_S)} {Kq : Int → qm → Option (Int × qm)} (hK : ∀ {S : zm_S} {M : qm} {x2 : Int32} {y2 : Int}, Sh L xs P S → qM P S = M → x2.toInt = y2 → qs (K 727 x2 S) (Kq y2 M) (tO (rr L xs P vi))) (hS : Sh L xs P S) (hM : qM P S = M) (ei1 : i1.toInt = qi1) (ei3 : i3.toInt = qi3) {k : Nat → Int32 → Int32 → Int32 → zm_S → Option ((Int32 × zm_S) ⊕ ((Int32) × zm_S))} : qs (zf_X6_readSide_B_J43 20000 K k 727 i1 i3 S) (qf_X6_readSide_B_J43 20000 Kq qi1 qi3 M) (tk (vs (rr L xs P vi) (rr L xs P vi)) (qc_X6_readSide_B_L15 L xs P k)) := by
  unfold zf_X6_readSide_B_J43 qf_X6_readSide_B_J43
  refine qs_zi hS pl_727 ts_727 ?_
  refine qs_b (qz_X6_readTerm hK hS hM ei1) (fun v2175 S2175 w2175 M2175 h2175 hS2175 hM2175 => ?_)
  exact qs_tk ⟨_, _, _, _, rfl, ei1, h2175, (p_add ei3 k_1), hS2175, hM2175⟩
set_option maxRecDepth 20000 in
theorem qz_X6_readSide_B_L15_b (n : Nat) {P : Nat → Nat} {S : zm_S} {M : qm} {i1 : Int32} {qi1 : Int} {i2 : Int32} {qi2 : Int} {i3 : Int32} {qi3 : Int} {K : Nat → Int32 → zm_S → Option (Int32 × zm_S)} {Kq : Int → qm → Option (Int × qm)} (hK : ∀ {S : zm_S} {M : qm} {x2 : Int32} {y2 : Int}, Sh L xs P S → qM P S = M → x2.toInt = y2 → qs (K 727 x2 S) (Kq y2 M) (tO (rr L xs P vi))) (hS : Sh L xs P S) (hM : qM P S = M) (ei1 : i1.toInt = qi1) (ei2 : i2.toInt = qi2) (ei3 : i3.toInt = qi3) : qs (zf_X6_readSide_B_L15 20000 K (n + 1) 727 i1 i2 i3 S) (qf_X6_readSide_B_L15_b 20000 Kq qi1 qi2 qi3 M) (tk (vs (rr L xs P vi) (rr L xs P vi)) (qc_X6_readSide_B_L15 L xs P (zf_X6_readSide_B_L15 20000 K n))) := by
  refine qs_eq (zf_X6_readSide_B_L15.eq_2 ..) ?_
  unfold qf_X6_readSide_B_L15_b
  refine qs_ite (c_le k_120 ei3) ?_ ?_
  · exact qs_tr2 (show vi _ _ from ei2) hS hM
  · refine qs_ite (c_eq ei2 k_0) ?_ ?_
    · exact qs_tr2 (show vi _ _ from ei2) hS hM
    · refine qs_zi hS pl_727 ts_727 ?_
      refine qs_b (qz_X6_skipSign hS hM k_43) (fun v2177 S2177 w2177 M2177 h2177 hS2177 hM2177 => ?_)
      refine qs_ite (c_eq h2177 k_0) ?_ ?_
      · refine qs_zi hS2177 pl_727 ts_727 ?_
        refine qs_b (qz_X6_skipSign hS2177 hM2177 k_45) (fun v2179 S2179 w2179 M2179 h2179 hS2179 hM2179 => ?_)
        refine qs_ite (c_eq h2179 k_0) ?_ ?_
        · exact qs_tr2 (show vi _ _ from ei2) hS2179 hM2179
        · exact (qz_X6_readSide_B_J43 hK hS2179 hM2179 ei1 ei3)
      · exact (qz_X6_readSide_B_J43 hK hS2177 hM2177 ei1 ei3)
theorem qz_X6_readSide_B_L15 (n : Nat) : ∀ {P : Nat → Nat} {S : zm_S} {M : qm} {i1 : Int32} {qi1 : Int} {i2 : Int32} {qi2 : Int} {i3 : Int32} {qi3 : Int} {K : Nat → Int32 → zm_S → Option (Int32 × zm_S)} {Kq : Int → qm → Option (Int × qm)} (hK : ∀ {S : zm_S} {M : qm} {x2 : Int32} {y2 : Int}, Sh L xs P S → qM P S = M → x2.toInt = y2 → qs (K 727 x2 S) (Kq y2 M) (tO (rr L xs P vi))) (hS : Sh L xs P S) (hM : qM P S = M) (ei1 : i1.toInt = qi1) (ei2 : i2.toInt = qi2) (ei3 : i3.toInt = qi3), qs (zf_X6_readSide_B_L15 20000 K n 727 i1 i2 i3 S) (qf_X6_readSide_B_L15 20000 Kq n qi1 qi2 qi3 M) (tO (vs (rr L xs P vi) (rr L xs P vi))) := by
  induction n with
  | zero =>
    intros
    exact qs_none
  | succ n ih =>
    intro P S M i1 qi1 i2 qi2 i3 qi3 K Kq hK hS hM ei1 ei2 ei3
    unfold qf_X6_readSide_B_L15
    refine qs_loop (C := (qc_X6_readSide_B_L15 L xs P (zf_X6_readSide_B_L15 20000 K n))) (qz_X6_readSide_B_L15_b n hK hS hM ei1 ei2 ei3) ?_
    rintro x s ⟨_, _, _, _, rfl, u0, u1, u2, hS2, hM2⟩
    exact ih hK hS2 hM2 u0 u1 u2
set_option maxRecDepth 20000 in
theorem qz_X6_readSide_B {P : Nat → Nat} {S : zm_S} {M : qm} {i1 : Int32} {qi1 : Int} {K : Nat → Int32 → zm_S → Option (Int32 × zm_S)} {Kq : Int → qm → Option (Int × qm)} (hK : ∀ {S : zm_S} {M : qm} {x2 : Int32} {y2 : Int}, Sh L xs P S → qM P S = M → x2.toInt = y2 → qs (K 727 x2 S) (Kq y2 M) (tO (rr L xs P vi))) (hS : Sh L xs P S) (hM : qM P S = M) (ei1 : i1.toInt = qi1) : qs (zf_X6_readSide_B 20000 K 727 i1 S) (qf_X6_readSide_B 20000 Kq qi1 M) (tO (rr L xs P vi)) := by
  unfold zf_X6_readSide_B qf_X6_readSide_B
  refine qs_zi hS pl_727 ts_727 ?_
  refine qs_b (qz_X6_skipSign hS hM k_45) (fun v2181 S2181 w2181 M2181 h2181 hS2181 hM2181 => ?_)
  refine qs_zi hS2181 pl_727 ts_727 ?_
  refine qs_b (qz_X6_readTerm hK hS2181 hM2181 ei1) (fun v2183 S2183 w2183 M2183 h2183 hS2183 hM2183 => ?_)
  refine qs_lr (qz_X6_readSide_B_L15 20000 hK hS2183 hM2183 ei1 h2183 k_0) ?_ ?_
  · intro v2185 S2185 w2185 M2185 h2185 hS2185 hM2185
    dsimp only
    exact qs_tr h2185 hS2185 hM2185
  · intro v2185 S2185 w2185 M2185 h2185 hS2185 hM2185
    dsimp only
    refine qs_ite (or_congr (c_eq h2185 k_0) (c_eq h2185 k_1)) ?_ ?_
    · exact qs_tr (show vi _ _ from h2185) hS2185 hM2185
    · exact qs_none
theorem qy_X6_readSide (n : Nat) : ∀ {P : Nat → Nat} {S : zm_S} {M : qm} {i1 : Int32} {qi1 : Int} (hS : Sh L xs P S) (hM : qM P S = M) (ei1 : i1.toInt = qi1), qs (zr_X6_readSide 20000 n 727 i1 S) (qr_X6_readSide 20000 n qi1 M) (tO (rr L xs P vi)) := by
  induction n with
  | zero =>
    intros
    exact qs_none
  | succ n ih =>
    intro P S M i1 qi1 hS hM ei1
    refine qs_eq (zr_X6_readSide.eq_2 ..) (qs_eqr (qr_X6_readSide.eq_2 ..) ?_)
    exact qz_X6_readSide_B (K := zr_X6_readSide 20000 n) (Kq := qr_X6_readSide 20000 n) (fun u0 u1 u2 => ih u0 u1 u2) hS hM ei1
set_option maxRecDepth 20000 in
theorem qz_X6_readSide {P : Nat → Nat} {S : zm_S} {M : qm} {i1 : Int32} {qi1 : Int} (hS : Sh L xs P S) (hM : qM P S = M) (ei1 : i1.toInt = qi1) : qs (zf_X6_readSide 20000 727 i1 S) (qf_X6_readSide 20000 qi1 M) (tO (rr L xs P vi)) := by
  unfold zf_X6_readSide qf_X6_readSide
  exact (qy_X6_readSide 12 hS hM ei1)
set_option maxRecDepth 20000 in
theorem qz_X6_skipCompareSign {P : Nat → Nat} {S : zm_S} {M : qm}  (hS : Sh L xs P S) (hM : qM P S = M)  : qs (zf_X6_skipCompareSign 20000 727 S) (qf_X6_skipCompareSign 20000 M) (tO (rr L xs P vi)) := by
  unfold zf_X6_skipCompareSign qf_X6_skipCompareSign
  refine qs_zi hS pl_727 ts_727 ?_
  refine qs_b (qz_X6_skipSign hS hM k_60) (fun v2187 S2187 w2187 M2187 h2187 hS2187 hM2187 => ?_)
  refine qs_ite (c_eq h2187 k_0) ?_ ?_
  · refine qs_zi hS2187 pl_727 ts_727 ?_
    refine qs_b (qz_X6_skipSign hS2187 hM2187 k_108) (fun v2189 S2189 w2189 M2189 h2189 hS2189 hM2189 => ?_)
    refine qs_ite (c_eq h2189 k_0) ?_ ?_
    · refine qs_zi hS2189 pl_727 ts_727 ?_
      refine qs_b (qz_X6_skipSign hS2189 hM2189 k_61) (fun v2191 S2191 w2191 M2191 h2191 hS2191 hM2191 => ?_)
      refine qs_ite (c_eq h2191 k_0) ?_ ?_
      · refine qs_zi hS2191 pl_727 ts_727 ?_
        refine qs_b (qz_X6_skipSign hS2191 hM2191 k_103) (fun v2193 S2193 w2193 M2193 h2193 hS2193 hM2193 => ?_)
        refine qs_ite (c_eq h2193 k_0) ?_ ?_
        · refine qs_zi hS2193 pl_727 ts_727 ?_
          refine qs_b (qz_X6_skipSign hS2193 hM2193 k_62) (fun v2195 S2195 w2195 M2195 h2195 hS2195 hM2195 => ?_)
          refine qs_ite (c_eq h2195 k_0) ?_ ?_
          · exact qs_tr (show vi _ _ from k_0) hS2195 hM2195
          · exact qs_tr (show vi _ _ from k_1) hS2195 hM2195
        · exact qs_tr (show vi _ _ from k_1) hS2193 hM2193
      · exact qs_tr (show vi _ _ from k_1) hS2191 hM2191
    · exact qs_tr (show vi _ _ from k_1) hS2189 hM2189
  · exact qs_tr (show vi _ _ from k_1) hS2187 hM2187
set_option maxRecDepth 20000 in
theorem qz_X6_readClause {P : Nat → Nat} {S : zm_S} {M : qm}  (hS : Sh L xs P S) (hM : qM P S = M)  : qs (zf_X6_readClause 20000 727 S) (qf_X6_readClause 20000 M) (tO (rr L xs P vi)) := by
  unfold zf_X6_readClause qf_X6_readClause
  refine qs_zi hS pl_727 ts_727 ?_
  refine qs_b (qz_X6_readSide hS hM k_0) (fun v2197 S2197 w2197 M2197 h2197 hS2197 hM2197 => ?_)
  refine qs_ite (c_eq h2197 k_0) ?_ ?_
  · exact qs_tr (show vi _ _ from k_0) hS2197 hM2197
  · refine qs_zi hS2197 pl_727 ts_727 ?_
    refine qs_b (qz_X6_skipCompareSign hS2197 hM2197 ) (fun v2199 S2199 w2199 M2199 h2199 hS2199 hM2199 => ?_)
    refine qs_ite (c_eq h2199 k_0) ?_ ?_
    · exact qs_tr (show vi _ _ from k_0) hS2199 hM2199
    · refine qs_zi hS2199 pl_727 ts_727 ?_
      refine qs_b (qz_X6_readSide hS2199 hM2199 k_0) (fun v2201 S2201 w2201 M2201 h2201 hS2201 hM2201 => ?_)
      refine qs_ite (c_eq h2201 k_0) ?_ ?_
      · exact qs_tr (show vi _ _ from k_0) hS2201 hM2201
      · exact qs_tr (show vi _ _ from k_1) hS2201 hM2201
set_option maxRecDepth 20000 in
theorem qz_X6_readRule_L113_b (n : Nat) {P : Nat → Nat} {S : zm_S} {M : qm} {i1 : Int32} {qi1 : Int} (hS : Sh L xs P S) (hM : qM P S = M) (ei1 : i1.toInt = qi1) : qs (zf_X6_readRule_L113 20000 (n + 1) 727 i1 S) (qf_X6_readRule_L113_b 20000 qi1 M) (tk (vs (rr L xs P vi) (rr L xs P vu)) (qc_X6_readRule_L113 L xs P (zf_X6_readRule_L113 20000 n))) := by
  refine qs_eq (zf_X6_readRule_L113.eq_2 ..) ?_
  unfold qf_X6_readRule_L113_b
  refine qs_ite (c_le k_120 ei1) ?_ ?_
  · exact qs_tr2 (show vu _ _ from trivial) hS hM
  · refine qs_zi hS pl_727 ts_727 ?_
    refine qs_b (qz_X6_skipSign hS hM k_33) (fun v2203 S2203 w2203 M2203 h2203 hS2203 hM2203 => ?_)
    refine qs_ite (c_eq h2203 k_0) ?_ ?_
    · exact qs_tr2 (show vu _ _ from trivial) hS2203 hM2203
    · refine qs_zi hS2203 pl_727 ts_727 ?_
      refine qs_b (qz_X6_readClause hS2203 hM2203 ) (fun v2205 S2205 w2205 M2205 h2205 hS2205 hM2205 => ?_)
      refine qs_ite (c_eq h2205 k_0) ?_ ?_
      · exact qs_tr1 (show vi _ _ from k_0) hS2205 hM2205
      · exact qs_tk ⟨_, _, rfl, (p_add ei1 k_1), hS2205, hM2205⟩
theorem qz_X6_readRule_L113 (n : Nat) : ∀ {P : Nat → Nat} {S : zm_S} {M : qm} {i1 : Int32} {qi1 : Int} (hS : Sh L xs P S) (hM : qM P S = M) (ei1 : i1.toInt = qi1), qs (zf_X6_readRule_L113 20000 n 727 i1 S) (qf_X6_readRule_L113 20000 n qi1 M) (tO (vs (rr L xs P vi) (rr L xs P vu))) := by
  induction n with
  | zero =>
    intros
    exact qs_none
  | succ n ih =>
    intro P S M i1 qi1 hS hM ei1
    unfold qf_X6_readRule_L113
    refine qs_loop (C := (qc_X6_readRule_L113 L xs P (zf_X6_readRule_L113 20000 n))) (qz_X6_readRule_L113_b n hS hM ei1) ?_
    rintro x s ⟨_, _, rfl, u0, hS2, hM2⟩
    exact ih hS2 hM2 u0
set_option maxRecDepth 20000 in
theorem qz_X6_readRule_J182 {P : Nat → Nat} {S : zm_S} {M : qm}  (hS : Sh L xs P S) (hM : qM P S = M)  : qs (zf_X6_readRule_J182 20000 727 S) (qf_X6_readRule_J182 20000 M) (tO (rr L xs P vi)) := by
  unfold zf_X6_readRule_J182 qf_X6_readRule_J182
  refine qs_gi hS hM pl_727 ts_727 (z := 6) rfl rfl (fun v2206 h2206 => ?_)
  refine qs_pi hS hM pl_727 ts_727 (z := 6) rfl rfl (p_add h2206 k_1) (fun S2207 M2207 hS2207 hM2207 => ?_)
  exact qs_tr (show vi _ _ from k_1) hS2207 hM2207
set_option maxRecDepth 20000 in
theorem qz_X6_readRule_J143 {P : Nat → Nat} {S : zm_S} {M : qm}  (hS : Sh L xs P S) (hM : qM P S = M)  : qs (zf_X6_readRule_J143 20000 727 S) (qf_X6_readRule_J143 20000 M) (tO (rr L xs P vi)) := by
  unfold zf_X6_readRule_J143 qf_X6_readRule_J143
  refine qs_zi hS pl_727 ts_727 ?_
  refine qs_b (qz_X6_skipSign hS hM k_64) (fun v2209 S2209 w2209 M2209 h2209 hS2209 hM2209 => ?_)
  refine qs_ite (c_eq h2209 k_0) ?_ ?_
  · exact (qz_X6_readRule_J182 hS2209 hM2209 )
  · refine qs_gr hS2209 pl_727 ts_727 rfl ?_
    refine qs_gi hS2209 hM2209 pl_727 ts_727 (z := 6) rfl rfl (fun v2211 h2211 => ?_)
    refine qs_gr hS2209 pl_727 ts_727 rfl ?_
    refine qs_gi hS2209 hM2209 pl_727 ts_727 (z := 5) rfl rfl (fun v2213 h2213 => ?_)
    refine qs_gd (fun g2215 => ?_)
    refine qs_xl hM2209 (pa_p hS2209 pl_730 ts_730) h2213 g2215 (fun v2214 h2214 => ?_)
    refine qs_gd (fun g2217 => ?_)
    refine qs_si hS2209 hM2209 (pa_p hS2209 pl_734 ts_734) h2211 g2217 (p_32 h2214) (fun S2216 M2216 hS2216 hM2216 => ?_)
    refine qs_zi hS2216 pl_727 ts_727 ?_
    refine qs_b (qz_X6_skipSign hS2216 hM2216 k_48) (fun v2219 S2219 w2219 M2219 h2219 hS2219 hM2219 => ?_)
    refine qs_ite (c_eq h2219 k_0) ?_ ?_
    · exact qs_tr (show vi _ _ from k_0) hS2219 hM2219
    · exact (qz_X6_readRule_J182 hS2219 hM2219 )
set_option maxRecDepth 20000 in
theorem qz_X6_readRule {P : Nat → Nat} {S : zm_S} {M : qm}  (hS : Sh L xs P S) (hM : qM P S = M)  : qs (zf_X6_readRule 20000 727 S) (qf_X6_readRule 20000 M) (tO (rr L xs P vi)) := by
  unfold zf_X6_readRule qf_X6_readRule
  refine qs_gr hS pl_727 ts_727 rfl ?_
  refine qs_gi hS hM pl_727 ts_727 (z := 5) rfl rfl (fun v2221 h2221 => ?_)
  refine qs_gd (fun g2223 => ?_)
  refine qs_xi hM (pa_p hS pl_729 ts_729) h2221 g2223 (fun v2222 h2222 => ?_)
  refine qs_ite (c_eq h2222 k_97) ?_ ?_
  · refine qs_gi hS hM pl_727 ts_727 (z := 6) rfl rfl (fun v2224 h2224 => ?_)
    refine qs_ite (c_le k_12 h2224) ?_ ?_
    · exact qs_tr (show vi _ _ from k_0) hS hM
    · refine qs_gr hS pl_727 ts_727 rfl ?_
      refine qs_gi hS hM pl_727 ts_727 (z := 5) rfl rfl (fun v2226 h2226 => ?_)
      refine qs_gd (fun g2228 => ?_)
      refine qs_xl hM (pa_p hS pl_730 ts_730) h2226 g2228 (fun v2227 h2227 => ?_)
      refine qs_zi hS pl_727 ts_727 ?_
      refine qs_bp (qz_X6_isRuleName hS hM h2227) (fun v2230 S2230 w2230 h2230 hS2230 hM2230 => ?_)
      refine qs_ite (c_eq h2230 k_0) ?_ ?_
      · refine qs_gr hS2230 pl_727 ts_727 rfl ?_
        refine qs_gi hS2230 hM2230 pl_727 ts_727 (z := 6) rfl rfl (fun v2232 h2232 => ?_)
        refine qs_gr hS2230 pl_727 ts_727 rfl ?_
        refine qs_gi hS2230 hM2230 pl_727 ts_727 (z := 5) rfl rfl (fun v2234 h2234 => ?_)
        refine qs_gd (fun g2236 => ?_)
        refine qs_xl hM2230 (pa_p hS2230 pl_730 ts_730) h2234 g2236 (fun v2235 h2235 => ?_)
        refine qs_gd (fun g2238 => ?_)
        refine qs_sl hS2230 hM2230 (pa_p hS2230 pl_732 ts_732) h2232 g2238 h2235 (fun S2237 M2237 hS2237 hM2237 => ?_)
        refine qs_zi hS2237 pl_727 ts_727 ?_
        refine qs_b (qz_X6_skipSign hS2237 hM2237 k_97) (fun v2240 S2240 w2240 M2240 h2240 hS2240 hM2240 => ?_)
        refine qs_ite (c_eq h2240 k_0) ?_ ?_
        · exact qs_tr (show vi _ _ from k_0) hS2240 hM2240
        · refine qs_zi hS2240 pl_727 ts_727 ?_
          refine qs_b (qz_X6_skipSign hS2240 hM2240 k_58) (fun v2242 S2242 w2242 M2242 h2242 hS2242 hM2242 => ?_)
          refine qs_ite (c_eq h2242 k_0) ?_ ?_
          · exact qs_tr (show vi _ _ from k_0) hS2242 hM2242
          · refine qs_gr hS2242 pl_727 ts_727 rfl ?_
            refine qs_gi hS2242 hM2242 pl_727 ts_727 (z := 6) rfl rfl (fun v2244 h2244 => ?_)
            refine qs_gi hS2242 hM2242 pl_727 ts_727 (z := 5) rfl rfl (fun v2245 h2245 => ?_)
            refine qs_gd (fun g2247 => ?_)
            refine qs_si hS2242 hM2242 (pa_p hS2242 pl_733 ts_733) h2244 g2247 h2245 (fun S2246 M2246 hS2246 hM2246 => ?_)
            refine qs_gr hS2246 pl_727 ts_727 rfl ?_
            refine qs_gi hS2246 hM2246 pl_727 ts_727 (z := 6) rfl rfl (fun v2249 h2249 => ?_)
            refine qs_gd (fun g2251 => ?_)
            refine qs_si hS2246 hM2246 (pa_p hS2246 pl_734 ts_734) h2249 g2251 k_0 (fun S2250 M2250 hS2250 hM2250 => ?_)
            refine qs_zi hS2250 pl_727 ts_727 ?_
            refine qs_b (qz_X6_readClause hS2250 hM2250 ) (fun v2253 S2253 w2253 M2253 h2253 hS2253 hM2253 => ?_)
            refine qs_ite (c_eq h2253 k_0) ?_ ?_
            · exact qs_tr (show vi _ _ from k_0) hS2253 hM2253
            · refine qs_lr (qz_X6_readRule_L113 20000 hS2253 hM2253 k_0) ?_ ?_
              · intro v2255 S2255 w2255 M2255 h2255 hS2255 hM2255
                dsimp only
                exact qs_tr h2255 hS2255 hM2255
              · intro v2255 S2255 w2255 M2255 h2255 hS2255 hM2255
                dsimp only
                exact (qz_X6_readRule_J143 hS2255 hM2255 )
      · exact qs_tr (show vi _ _ from k_0) hS2230 hM2230
  · exact qs_tr (show vi _ _ from k_0) hS hM
set_option maxRecDepth 20000 in
theorem qz_X6_readRules_L16_b (n : Nat) {P : Nat → Nat} {S : zm_S} {M : qm} {i1 : Int32} {qi1 : Int} (hS : Sh L xs P S) (hM : qM P S = M) (ei1 : i1.toInt = qi1) : qs (zf_X6_readRules_L16 20000 (n + 1) 727 i1 S) (qf_X6_readRules_L16_b 20000 qi1 M) (tk (vs (rr L xs P vi) (rr L xs P vu)) (qc_X6_readRules_L16 L xs P (zf_X6_readRules_L16 20000 n))) := by
  refine qs_eq (zf_X6_readRules_L16.eq_2 ..) ?_
  unfold qf_X6_readRules_L16_b
  refine qs_ite (c_lt k_12 ei1) ?_ ?_
  · exact qs_tr2 (show vu _ _ from trivial) hS hM
  · refine qs_zi hS pl_727 ts_727 ?_
    refine qs_b (qz_X6_readRule hS hM ) (fun v2257 S2257 w2257 M2257 h2257 hS2257 hM2257 => ?_)
    refine qs_ite (c_eq h2257 k_0) ?_ ?_
    · exact qs_tr1 (show vi _ _ from k_0) hS2257 hM2257
    · refine qs_gr hS2257 pl_727 ts_727 rfl ?_
      refine qs_gi hS2257 hM2257 pl_727 ts_727 (z := 5) rfl rfl (fun v2259 h2259 => ?_)
      refine qs_gd (fun g2261 => ?_)
      refine qs_xi hM2257 (pa_p hS2257 pl_729 ts_729) h2259 g2261 (fun v2260 h2260 => ?_)
      refine qs_ite (c_eq h2260 k_101) ?_ ?_
      · exact qs_tr1 (show vi _ _ from k_1) hS2257 hM2257
      · refine qs_zi hS2257 pl_727 ts_727 ?_
        refine qs_b (qz_X6_skipSign hS2257 hM2257 k_59) (fun v2263 S2263 w2263 M2263 h2263 hS2263 hM2263 => ?_)
        refine qs_ite (c_eq h2263 k_0) ?_ ?_
        · exact qs_tr1 (show vi _ _ from k_0) hS2263 hM2263
        · refine qs_gr hS2263 pl_727 ts_727 rfl ?_
          refine qs_gi hS2263 hM2263 pl_727 ts_727 (z := 5) rfl rfl (fun v2265 h2265 => ?_)
          refine qs_gd (fun g2267 => ?_)
          refine qs_xi hM2263 (pa_p hS2263 pl_729 ts_729) h2265 g2267 (fun v2266 h2266 => ?_)
          refine qs_ite (c_eq h2266 k_101) ?_ ?_
          · exact qs_tr1 (show vi _ _ from k_1) hS2263 hM2263
          · exact qs_tk ⟨_, _, rfl, (p_add ei1 k_1), hS2263, hM2263⟩
theorem qz_X6_readRules_L16 (n : Nat) : ∀ {P : Nat → Nat} {S : zm_S} {M : qm} {i1 : Int32} {qi1 : Int} (hS : Sh L xs P S) (hM : qM P S = M) (ei1 : i1.toInt = qi1), qs (zf_X6_readRules_L16 20000 n 727 i1 S) (qf_X6_readRules_L16 20000 n qi1 M) (tO (vs (rr L xs P vi) (rr L xs P vu))) := by
  induction n with
  | zero =>
    intros
    exact qs_none
  | succ n ih =>
    intro P S M i1 qi1 hS hM ei1
    unfold qf_X6_readRules_L16
    refine qs_loop (C := (qc_X6_readRules_L16 L xs P (zf_X6_readRules_L16 20000 n))) (qz_X6_readRules_L16_b n hS hM ei1) ?_
    rintro x s ⟨_, _, rfl, u0, hS2, hM2⟩
    exact ih hS2 hM2 u0
set_option maxRecDepth 20000 in
theorem qz_X6_readRules {P : Nat → Nat} {S : zm_S} {M : qm}  (hS : Sh L xs P S) (hM : qM P S = M)  : qs (zf_X6_readRules 20000 727 S) (qf_X6_readRules 20000 M) (tO (rr L xs P vi)) := by
  unfold zf_X6_readRules qf_X6_readRules
  refine qs_zi hS pl_727 ts_727 ?_
  refine qs_b (qz_X6_splitWords hS hM ) (fun v2269 S2269 w2269 M2269 h2269 hS2269 hM2269 => ?_)
  refine qs_pi hS2269 hM2269 pl_727 ts_727 (z := 5) rfl rfl k_0 (fun S2270 M2270 hS2270 hM2270 => ?_)
  refine qs_pi hS2270 hM2270 pl_727 ts_727 (z := 6) rfl rfl k_0 (fun S2271 M2271 hS2271 hM2271 => ?_)
  refine qs_lr (qz_X6_readRules_L16 20000 hS2271 hM2271 k_0) ?_ ?_
  · intro v2273 S2273 w2273 M2273 h2273 hS2273 hM2273
    dsimp only
    exact qs_tr h2273 hS2273 hM2273
  · intro v2273 S2273 w2273 M2273 h2273 hS2273 hM2273
    dsimp only
    exact qs_tr (show vi _ _ from k_0) hS2273 hM2273
set_option maxRecDepth 20000 in
theorem qz_X6_wrongPlace {P : Nat → Nat} {S : zm_S} {M : qm}  (hS : Sh L xs P S) (hM : qM P S = M)  : qs (zf_X6_wrongPlace 20000 727 S) (qf_X6_wrongPlace 20000 M) (tO (rp L xs P M vi)) := by
  unfold zf_X6_wrongPlace qf_X6_wrongPlace
  refine qs_gr hS pl_727 ts_727 rfl ?_
  refine qs_gi hS hM pl_727 ts_727 (z := 5) rfl rfl (fun v2275 h2275 => ?_)
  refine qs_gd (fun g2277 => ?_)
  refine qs_xi hM (pa_p hS pl_731 ts_731) h2275 g2277 (fun v2276 h2276 => ?_)
  exact qs_tp (show vi _ _ from h2276) hS hM
set_option maxRecDepth 20000 in
theorem qz_X7_takeRules {P : Nat → Nat} {S : zm_S} {M : qm}  (hS : Sh L xs P S) (hM : qM P S = M)  : qs (zf_X7_takeRules 20000 735 727 S) (qf_X7_takeRules 20000 M) (tO (rr L xs P vu)) := by
  unfold zf_X7_takeRules qf_X7_takeRules
  refine qs_gr hS pl_727 ts_727 rfl ?_
  refine qs_gr hS pl_735 ts_735 rfl ?_
  refine qs_gr hS pl_735 ts_735 rfl ?_
  refine qs_n (pa_p hS pl_736 ts_736) (by decide) (x := 121) (by decide) (fun v2281 h2281 => ?_)
  refine qs_cpi hS hM (pa_p hS pl_729 ts_729) (pa_p hS pl_736 ts_736) k_0 k_0 h2281 (by decide) (fun S2282 M2282 hS2282 hM2282 => ?_)
  refine qs_gr hS2282 pl_727 ts_727 rfl ?_
  refine qs_gr hS2282 pl_735 ts_735 rfl ?_
  refine qs_gr hS2282 pl_735 ts_735 rfl ?_
  refine qs_n (pa_p hS2282 pl_737 ts_737) (by decide) (x := 121) (by decide) (fun v2286 h2286 => ?_)
  refine qs_cpl hS2282 hM2282 (pa_p hS2282 pl_730 ts_730) (pa_p hS2282 pl_737 ts_737) k_0 k_0 h2286 (by decide) (fun S2287 M2287 hS2287 hM2287 => ?_)
  refine qs_gr hS2287 pl_727 ts_727 rfl ?_
  refine qs_gr hS2287 pl_735 ts_735 rfl ?_
  refine qs_gr hS2287 pl_735 ts_735 rfl ?_
  refine qs_n (pa_p hS2287 pl_738 ts_738) (by decide) (x := 12) (by decide) (fun v2291 h2291 => ?_)
  refine qs_cpi hS2287 hM2287 (pa_p hS2287 pl_733 ts_733) (pa_p hS2287 pl_738 ts_738) k_0 k_0 h2291 (by decide) (fun S2292 M2292 hS2292 hM2292 => ?_)
  refine qs_gr hS2292 pl_727 ts_727 rfl ?_
  refine qs_gr hS2292 pl_735 ts_735 rfl ?_
  refine qs_gr hS2292 pl_735 ts_735 rfl ?_
  refine qs_n (pa_p hS2292 pl_739 ts_739) (by decide) (x := 12) (by decide) (fun v2296 h2296 => ?_)
  refine qs_cpi hS2292 hM2292 (pa_p hS2292 pl_734 ts_734) (pa_p hS2292 pl_739 ts_739) k_0 k_0 h2296 (by decide) (fun S2297 M2297 hS2297 hM2297 => ?_)
  refine qs_gi hS2297 hM2297 pl_727 ts_727 (z := 6) rfl rfl (fun v2298 h2298 => ?_)
  refine qs_pi hS2297 hM2297 pl_735 ts_735 (z := 0) rfl rfl h2298 (fun S2299 M2299 hS2299 hM2299 => ?_)
  refine qs_pi hS2299 hM2299 pl_735 ts_735 (z := 1) rfl rfl k_0 (fun S2300 M2300 hS2300 hM2300 => ?_)
  exact qs_tr (show vu _ _ from trivial) hS2300 hM2300
set_option maxRecDepth 20000 in
theorem qz_X11_rules {P : Nat → Nat} {S : zm_S} {M : qm}  (hS : Sh L xs P S) (hM : qM P S = M)  : qs (zf_X11_rules 20000 6 S) (qf_X11_rules 20000 M) (tO (rr L xs P vi)) := by
  unfold zf_X11_rules qf_X11_rules
  refine qs_gr hS pl_6 ts_6 rfl ?_
  refine qs_zi hS pl_727 ts_727 ?_
  refine qs_b (qz_X6_readRules hS hM ) (fun v2303 S2303 w2303 M2303 h2303 hS2303 hM2303 => ?_)
  refine qs_ite (c_eq h2303 k_0) ?_ ?_
  · refine qs_gr hS2303 pl_6 ts_6 rfl ?_
    refine qs_zi hS2303 pl_727 ts_727 ?_
    refine qs_bp (qz_X6_wrongPlace hS2303 hM2303 ) (fun v2306 S2306 w2306 h2306 hS2306 hM2306 => ?_)
    exact qs_tr (show vi _ _ from (p_sub k_m1 h2306)) hS2306 hM2306
  · refine qs_gr hS2303 pl_6 ts_6 rfl ?_
    refine qs_gr hS2303 pl_6 ts_6 rfl ?_
    refine qs_zi hS2303 pl_735 ts_735 ?_
    refine qs_b (qz_X7_takeRules hS2303 hM2303 ) (fun v2310 S2310 w2310 M2310 h2310 hS2310 hM2310 => ?_)
    refine qs_gr hS2310 pl_6 ts_6 rfl ?_
    refine qs_pi hS2310 hM2310 pl_727 ts_727 (z := 1) rfl rfl k_0 (fun S2312 M2312 hS2312 hM2312 => ?_)
    refine qs_gr hS2312 pl_6 ts_6 rfl ?_
    refine qs_gi hS2312 hM2312 pl_735 ts_735 (z := 0) rfl rfl (fun v2314 h2314 => ?_)
    exact qs_tr (show vi _ _ from h2314) hS2312 hM2312
set_option maxRecDepth 20000 in
theorem qz_X15_step_L0_b (n : Nat) {P : Nat → Nat} {S : zm_S} {M : qm}  (hS : Sh L xs P S) (hM : qM P S = M)  : qs (zf_X15_step_L0 20000 (n + 1) 2184 S) (qf_X15_step_L0_b 20000 M) (tk (vs (rr L xs P vu) (rr L xs P vu)) (qc_X15_step_L0 L xs P (zf_X15_step_L0 20000 n))) := by
  refine qs_eq (zf_X15_step_L0.eq_2 ..) ?_
  unfold qf_X15_step_L0_b
  refine qs_gi hS hM pl_2184 ts_2184 (z := 27) rfl rfl (fun v2315 h2315 => ?_)
  refine qs_gi hS hM pl_2184 ts_2184 (z := 1) rfl rfl (fun v2316 h2316 => ?_)
  refine qs_ite (c_le h2316 h2315) ?_ ?_
  · exact qs_tr2 (show vu _ _ from trivial) hS hM
  · refine qs_gr hS pl_2184 ts_2184 rfl ?_
    refine qs_gi hS hM pl_2184 ts_2184 (z := 27) rfl rfl (fun v2318 h2318 => ?_)
    refine qs_gd (fun g2320 => ?_)
    refine qs_xi hM (pa_p hS pl_2185 ts_2185) h2318 g2320 (fun v2319 h2319 => ?_)
    refine qs_ite (c_eq h2319 k_32) ?_ ?_
    · refine qs_gi hS hM pl_2184 ts_2184 (z := 27) rfl rfl (fun v2321 h2321 => ?_)
      refine qs_pi hS hM pl_2184 ts_2184 (z := 27) rfl rfl (p_add h2321 k_1) (fun S2322 M2322 hS2322 hM2322 => ?_)
      exact qs_tk ⟨_, rfl, hS2322, hM2322⟩
    · exact qs_tr2 (show vu _ _ from trivial) hS hM
theorem qz_X15_step_L0 (n : Nat) : ∀ {P : Nat → Nat} {S : zm_S} {M : qm}  (hS : Sh L xs P S) (hM : qM P S = M) , qs (zf_X15_step_L0 20000 n 2184 S) (qf_X15_step_L0 20000 n M) (tO (vs (rr L xs P vu) (rr L xs P vu))) := by
  induction n with
  | zero =>
    intros
    exact qs_none
  | succ n ih =>
    intro P S M hS hM
    unfold qf_X15_step_L0
    refine qs_loop (C := (qc_X15_step_L0 L xs P (zf_X15_step_L0 20000 n))) (qz_X15_step_L0_b n hS hM ) ?_
    rintro x s ⟨_, rfl, hS2, hM2⟩
    exact ih hS2 hM2 
set_option maxRecDepth 20000 in
theorem qz_X15_isDigit {P : Nat → Nat} {S : zm_S} {M : qm} {i0 : Int32} {qi0 : Int} (hS : Sh L xs P S) (hM : qM P S = M) (ei0 : i0.toInt = qi0) : qs (zf_X15_isDigit 20000 i0 S) (qf_X15_isDigit 20000 qi0 M) (tO (rp L xs P M vi)) := by
  unfold zf_X15_isDigit qf_X15_isDigit
  refine qs_ite (c_le ei0 k_47) ?_ ?_
  · exact qs_tp (show vi _ _ from k_0) hS hM
  · refine qs_ite (c_le k_58 ei0) ?_ ?_
    · exact qs_tp (show vi _ _ from k_0) hS hM
    · exact qs_tp (show vi _ _ from k_1) hS hM
set_option maxRecDepth 20000 in
theorem qz_X15_isLetter {P : Nat → Nat} {S : zm_S} {M : qm} {i0 : Int32} {qi0 : Int} (hS : Sh L xs P S) (hM : qM P S = M) (ei0 : i0.toInt = qi0) : qs (zf_X15_isLetter 20000 i0 S) (qf_X15_isLetter 20000 qi0 M) (tO (rp L xs P M vi)) := by
  unfold zf_X15_isLetter qf_X15_isLetter
  refine qs_ite (c_le ei0 k_96) ?_ ?_
  · exact qs_tp (show vi _ _ from k_0) hS hM
  · refine qs_ite (c_le k_123 ei0) ?_ ?_
    · exact qs_tp (show vi _ _ from k_0) hS hM
    · exact qs_tp (show vi _ _ from k_1) hS hM
set_option maxRecDepth 20000 in
theorem qz_X15_charAt {P : Nat → Nat} {S : zm_S} {M : qm} {i1 : Int32} {qi1 : Int} (hS : Sh L xs P S) (hM : qM P S = M) (ei1 : i1.toInt = qi1) : qs (zf_X15_charAt 20000 2184 i1 S) (qf_X15_charAt 20000 qi1 M) (tO (rp L xs P M vi)) := by
  unfold zf_X15_charAt qf_X15_charAt
  refine qs_gi hS hM pl_2184 ts_2184 (z := 1) rfl rfl (fun v2323 h2323 => ?_)
  refine qs_ite (c_le h2323 ei1) ?_ ?_
  · exact qs_tp (show vi _ _ from k_32) hS hM
  · refine qs_gr hS pl_2184 ts_2184 rfl ?_
    refine qs_gd (fun g2326 => ?_)
    refine qs_xi hM (pa_p hS pl_2185 ts_2185) ei1 g2326 (fun v2325 h2325 => ?_)
    exact qs_tp (show vi _ _ from h2325) hS hM
set_option maxRecDepth 20000 in
theorem qz_X15_isSign {P : Nat → Nat} {S : zm_S} {M : qm} {i0 : Int32} {qi0 : Int} (hS : Sh L xs P S) (hM : qM P S = M) (ei0 : i0.toInt = qi0) : qs (zf_X15_isSign 20000 i0 S) (qf_X15_isSign 20000 qi0 M) (tO (rp L xs P M vi)) := by
  unfold zf_X15_isSign qf_X15_isSign
  refine qs_ite (c_eq ei0 k_43) ?_ ?_
  · exact qs_tp (show vi _ _ from k_1) hS hM
  · refine qs_ite (c_eq ei0 k_45) ?_ ?_
    · exact qs_tp (show vi _ _ from k_1) hS hM
    · refine qs_ite (c_eq ei0 k_42) ?_ ?_
      · exact qs_tp (show vi _ _ from k_1) hS hM
      · refine qs_ite (c_eq ei0 k_47) ?_ ?_
        · exact qs_tp (show vi _ _ from k_1) hS hM
        · refine qs_ite (c_eq ei0 k_40) ?_ ?_
          · exact qs_tp (show vi _ _ from k_1) hS hM
          · refine qs_ite (c_eq ei0 k_41) ?_ ?_
            · exact qs_tp (show vi _ _ from k_1) hS hM
            · refine qs_ite (c_eq ei0 k_60) ?_ ?_
              · exact qs_tp (show vi _ _ from k_1) hS hM
              · refine qs_ite (c_eq ei0 k_61) ?_ ?_
                · exact qs_tp (show vi _ _ from k_1) hS hM
                · refine qs_ite (c_eq ei0 k_62) ?_ ?_
                  · exact qs_tp (show vi _ _ from k_1) hS hM
                  · refine qs_ite (c_eq ei0 k_58) ?_ ?_
                    · exact qs_tp (show vi _ _ from k_1) hS hM
                    · refine qs_ite (c_eq ei0 k_59) ?_ ?_
                      · exact qs_tp (show vi _ _ from k_1) hS hM
                      · refine qs_ite (c_eq ei0 k_33) ?_ ?_
                        · exact qs_tp (show vi _ _ from k_1) hS hM
                        · refine qs_ite (c_eq ei0 k_64) ?_ ?_
                          · exact qs_tp (show vi _ _ from k_1) hS hM
                          · exact qs_tp (show vi _ _ from k_0) hS hM
set_option maxRecDepth 20000 in
theorem qz_X15_step_J387 {P : Nat → Nat} {S : zm_S} {M : qm}  (hS : Sh L xs P S) (hM : qM P S = M)  : qs (zf_X15_step_J387 20000 2184 S) (qf_X15_step_J387 20000 M) (tO (rr L xs P vu)) := by
  unfold zf_X15_step_J387 qf_X15_step_J387
  refine qs_pi hS hM pl_2184 ts_2184 (z := 31) rfl rfl k_1 (fun S2327 M2327 hS2327 hM2327 => ?_)
  exact qs_tr (show vu _ _ from trivial) hS2327 hM2327
set_option maxRecDepth 20000 in
theorem qz_X15_step_J370 {P : Nat → Nat} {S : zm_S} {M : qm}  (hS : Sh L xs P S) (hM : qM P S = M)  : qs (zf_X15_step_J370 20000 2184 S) (qf_X15_step_J370 20000 M) (tO (rr L xs P vu)) := by
  unfold zf_X15_step_J370 qf_X15_step_J370
  refine qs_gi hS hM pl_2184 ts_2184 (z := 31) rfl rfl (fun v2328 h2328 => ?_)
  refine qs_ite (c_eq h2328 k_0) ?_ ?_
  · refine qs_gi hS hM pl_2184 ts_2184 (z := 30) rfl rfl (fun v2329 h2329 => ?_)
    refine qs_ite (c_le h2329 k_120) ?_ ?_
    · refine qs_pi hS hM pl_2184 ts_2184 (z := 31) rfl rfl k_0 (fun S2330 M2330 hS2330 hM2330 => ?_)
      exact qs_tr (show vu _ _ from trivial) hS2330 hM2330
    · exact (qz_X15_step_J387 hS hM )
  · exact (qz_X15_step_J387 hS hM )
set_option maxRecDepth 20000 in
theorem qz_X15_step_J367 {P : Nat → Nat} {S : zm_S} {M : qm} {t1 : Int32} {qt1 : Int} (hS : Sh L xs P S) (hM : qM P S = M) (et1 : t1.toInt = qt1) : qs (zf_X15_step_J367 20000 2184 2184 t1 S) (qf_X15_step_J367 20000 qt1 M) (tO (rr L xs P vu)) := by
  unfold zf_X15_step_J367 qf_X15_step_J367
  refine qs_gd (fun g2332 => ?_)
  refine qs_pz hS hM pl_2184 ts_2184 (z := 31) rfl rfl et1 g2332 (fun S2331 M2331 hS2331 hM2331 => ?_)
  exact (qz_X15_step_J370 hS2331 hM2331 )
set_option maxRecDepth 20000 in
theorem qz_X15_step_J350 {P : Nat → Nat} {S : zm_S} {M : qm} {i1 : Int32} {qi1 : Int} {t1 : Int32} {qt1 : Int} {t2 : Int32} {qt2 : Int} (hS : Sh L xs P S) (hM : qM P S = M) (ei1 : i1.toInt = qi1) (et1 : t1.toInt = qt1) (et2 : t2.toInt = qt2) : qs (zf_X15_step_J350 20000 2184 i1 2184 t1 t2 S) (qf_X15_step_J350 20000 qi1 qt1 qt2 M) (tO (rr L xs P vu)) := by
  unfold zf_X15_step_J350 qf_X15_step_J350
  refine qs_pi hS hM pl_2184 ts_2184 (z := 27) rfl rfl (p_add et1 et2) (fun S2333 M2333 hS2333 hM2333 => ?_)
  refine qs_bp (qz_X15_isSign hS2333 hM2333 ei1) (fun v2334 S2334 w2334 h2334 hS2334 hM2334 => ?_)
  refine qs_ite (c_eq h2334 k_0) ?_ ?_
  · exact (qz_X15_step_J367 hS2334 hM2334 k_1)
  · exact (qz_X15_step_J367 hS2334 hM2334 k_0)
set_option maxRecDepth 20000 in
theorem qz_X15_step_J333 {P : Nat → Nat} {S : zm_S} {M : qm} {i1 : Int32} {qi1 : Int} {i2 : Int32} {qi2 : Int} {t1 : Int32} {qt1 : Int} (hS : Sh L xs P S) (hM : qM P S = M) (ei1 : i1.toInt = qi1) (ei2 : i2.toInt = qi2) (et1 : t1.toInt = qt1) : qs (zf_X15_step_J333 20000 2184 i1 i2 2184 t1 S) (qf_X15_step_J333 20000 qi1 qi2 qt1 M) (tO (rr L xs P vu)) := by
  unfold zf_X15_step_J333 qf_X15_step_J333
  refine qs_pi hS hM pl_2184 ts_2184 (z := 28) rfl rfl et1 (fun S2335 M2335 hS2335 hM2335 => ?_)
  refine qs_gi hS2335 hM2335 pl_2184 ts_2184 (z := 27) rfl rfl (fun v2336 h2336 => ?_)
  refine qs_ite (c_eq ei2 k_0) ?_ ?_
  · exact (qz_X15_step_J350 hS2335 hM2335 ei1 h2336 k_1)
  · exact (qz_X15_step_J350 hS2335 hM2335 ei1 h2336 k_2)
set_option maxRecDepth 20000 in
theorem qz_X15_step_J318 {P : Nat → Nat} {S : zm_S} {M : qm} {i1 : Int32} {qi1 : Int} {t0 : Int32} {qt0 : Int} (hS : Sh L xs P S) (hM : qM P S = M) (ei1 : i1.toInt = qi1) (et0 : t0.toInt = qt0) : qs (zf_X15_step_J318 20000 2184 i1 t0 S) (qf_X15_step_J318 20000 qi1 qt0 M) (tO (rr L xs P vu)) := by
  unfold zf_X15_step_J318 qf_X15_step_J318
  refine qs_ite (c_eq et0 k_0) ?_ ?_
  · exact (qz_X15_step_J333 hS hM ei1 et0 ei1)
  · exact (qz_X15_step_J333 hS hM ei1 et0 (p_add ei1 k_256))
set_option maxRecDepth 20000 in
theorem qz_X15_step_J317 {P : Nat → Nat} {S : zm_S} {M : qm} {i1 : Int32} {qi1 : Int} (hS : Sh L xs P S) (hM : qM P S = M) (ei1 : i1.toInt = qi1) : qs (zf_X15_step_J317 20000 2184 i1 S) (qf_X15_step_J317 20000 qi1 M) (tO (rr L xs P vu)) := by
  unfold zf_X15_step_J317 qf_X15_step_J317
  exact (qz_X15_step_J318 hS hM ei1 k_0)
set_option maxRecDepth 20000 in
theorem qz_X15_step_J298 {P : Nat → Nat} {S : zm_S} {M : qm} {i1 : Int32} {qi1 : Int} (hS : Sh L xs P S) (hM : qM P S = M) (ei1 : i1.toInt = qi1) : qs (zf_X15_step_J298 20000 2184 i1 S) (qf_X15_step_J298 20000 qi1 M) (tO (rr L xs P vu)) := by
  unfold zf_X15_step_J298 qf_X15_step_J298
  refine qs_gi hS hM pl_2184 ts_2184 (z := 26) rfl rfl (fun v2337 h2337 => ?_)
  refine qs_zi hS pl_2184 ts_2184 ?_
  refine qs_bp (qz_X15_charAt hS hM (p_add h2337 k_1)) (fun v2339 S2339 w2339 h2339 hS2339 hM2339 => ?_)
  refine qs_ite (c_eq h2339 k_61) ?_ ?_
  · exact (qz_X15_step_J318 hS2339 hM2339 ei1 k_1)
  · exact (qz_X15_step_J317 hS2339 hM2339 ei1)
set_option maxRecDepth 20000 in
theorem qz_X15_step_L212_b (n : Nat) {P : Nat → Nat} {S : zm_S} {M : qm}  (hS : Sh L xs P S) (hM : qM P S = M)  : qs (zf_X15_step_L212 20000 (n + 1) 2184 S) (qf_X15_step_L212_b 20000 M) (tk (vs (rr L xs P vu) (rr L xs P vu)) (qc_X15_step_L212 L xs P (zf_X15_step_L212 20000 n))) := by
  refine qs_eq (zf_X15_step_L212.eq_2 ..) ?_
  unfold qf_X15_step_L212_b
  refine qs_gi hS hM pl_2184 ts_2184 (z := 27) rfl rfl (fun v2340 h2340 => ?_)
  refine qs_zi hS pl_2184 ts_2184 ?_
  refine qs_bp (qz_X15_charAt hS hM h2340) (fun v2342 S2342 w2342 h2342 hS2342 hM2342 => ?_)
  refine qs_bp (qz_X15_isLetter hS2342 hM2342 h2342) (fun v2343 S2343 w2343 h2343 hS2343 hM2343 => ?_)
  refine qs_ite (c_eq h2343 k_0) ?_ ?_
  · exact qs_tr2 (show vu _ _ from trivial) hS2343 hM2343
  · refine qs_gl hS2343 hM2343 pl_2184 ts_2184 (z := 29) rfl rfl (fun v2344 h2344 => ?_)
    refine qs_gi hS2343 hM2343 pl_2184 ts_2184 (z := 27) rfl rfl (fun v2345 h2345 => ?_)
    refine qs_zi hS2343 pl_2184 ts_2184 ?_
    refine qs_bp (qz_X15_charAt hS2343 hM2343 h2345) (fun v2347 S2347 w2347 h2347 hS2347 hM2347 => ?_)
    refine qs_pl hS2347 hM2347 pl_2184 ts_2184 (z := 29) rfl rfl (pl_or (pl_shl h2344 (p_64 k_8)) (p_64 h2347)) (fun S2348 M2348 hS2348 hM2348 => ?_)
    refine qs_gi hS2348 hM2348 pl_2184 ts_2184 (z := 27) rfl rfl (fun v2349 h2349 => ?_)
    refine qs_pi hS2348 hM2348 pl_2184 ts_2184 (z := 27) rfl rfl (p_add h2349 k_1) (fun S2350 M2350 hS2350 hM2350 => ?_)
    exact qs_tk ⟨_, rfl, hS2350, hM2350⟩
theorem qz_X15_step_L212 (n : Nat) : ∀ {P : Nat → Nat} {S : zm_S} {M : qm}  (hS : Sh L xs P S) (hM : qM P S = M) , qs (zf_X15_step_L212 20000 n 2184 S) (qf_X15_step_L212 20000 n M) (tO (vs (rr L xs P vu) (rr L xs P vu))) := by
  induction n with
  | zero =>
    intros
    exact qs_none
  | succ n ih =>
    intro P S M hS hM
    unfold qf_X15_step_L212
    refine qs_loop (C := (qc_X15_step_L212 L xs P (zf_X15_step_L212 20000 n))) (qz_X15_step_L212_b n hS hM ) ?_
    rintro x s ⟨_, rfl, hS2, hM2⟩
    exact ih hS2 hM2 
set_option maxRecDepth 20000 in
theorem qz_X15_step_J280 {P : Nat → Nat} {S : zm_S} {M : qm} {t1 : Int32} {qt1 : Int} (hS : Sh L xs P S) (hM : qM P S = M) (et1 : t1.toInt = qt1) : qs (zf_X15_step_J280 20000 2184 2184 t1 S) (qf_X15_step_J280 20000 qt1 M) (tO (rr L xs P vu)) := by
  unfold zf_X15_step_J280 qf_X15_step_J280
  refine qs_gd (fun g2352 => ?_)
  refine qs_pz hS hM pl_2184 ts_2184 (z := 31) rfl rfl et1 g2352 (fun S2351 M2351 hS2351 hM2351 => ?_)
  exact (qz_X15_step_J370 hS2351 hM2351 )
set_option maxRecDepth 20000 in
theorem qz_X15_step_J158 {P : Nat → Nat} {S : zm_S} {M : qm} {t1 : Int64} {qt1 : Int} (hS : Sh L xs P S) (hM : qM P S = M) (et1 : t1.toInt = qt1) {k : Nat → zm_S → Option ((Unit × zm_S) ⊕ ((Unit) × zm_S))} : qs (zf_X15_step_J158 20000 k 2184 2184 t1 S) (qf_X15_step_J158 20000 qt1 M) (tk (vs (rr L xs P vu) (rr L xs P vu)) (qc_X15_step_L100 L xs P k)) := by
  unfold zf_X15_step_J158 qf_X15_step_J158
  refine qs_pl hS hM pl_2184 ts_2184 (z := 29) rfl rfl et1 (fun S2353 M2353 hS2353 hM2353 => ?_)
  refine qs_gi hS2353 hM2353 pl_2184 ts_2184 (z := 27) rfl rfl (fun v2354 h2354 => ?_)
  refine qs_pi hS2353 hM2353 pl_2184 ts_2184 (z := 27) rfl rfl (p_add h2354 k_1) (fun S2355 M2355 hS2355 hM2355 => ?_)
  exact qs_tk ⟨_, rfl, hS2355, hM2355⟩
set_option maxRecDepth 20000 in
theorem qz_X15_step_L100_b (n : Nat) {P : Nat → Nat} {S : zm_S} {M : qm}  (hS : Sh L xs P S) (hM : qM P S = M)  : qs (zf_X15_step_L100 20000 (n + 1) 2184 S) (qf_X15_step_L100_b 20000 M) (tk (vs (rr L xs P vu) (rr L xs P vu)) (qc_X15_step_L100 L xs P (zf_X15_step_L100 20000 n))) := by
  refine qs_eq (zf_X15_step_L100.eq_2 ..) ?_
  unfold qf_X15_step_L100_b
  refine qs_gi hS hM pl_2184 ts_2184 (z := 27) rfl rfl (fun v2356 h2356 => ?_)
  refine qs_zi hS pl_2184 ts_2184 ?_
  refine qs_bp (qz_X15_charAt hS hM h2356) (fun v2358 S2358 w2358 h2358 hS2358 hM2358 => ?_)
  refine qs_bp (qz_X15_isDigit hS2358 hM2358 h2358) (fun v2359 S2359 w2359 h2359 hS2359 hM2359 => ?_)
  refine qs_ite (c_eq h2359 k_0) ?_ ?_
  · exact qs_tr2 (show vu _ _ from trivial) hS2359 hM2359
  · refine qs_gi hS2359 hM2359 pl_2184 ts_2184 (z := 27) rfl rfl (fun v2360 h2360 => ?_)
    refine qs_gi hS2359 hM2359 pl_2184 ts_2184 (z := 26) rfl rfl (fun v2361 h2361 => ?_)
    refine qs_ite (c_le k_9 (p_sub h2360 h2361)) ?_ ?_
    · refine qs_gl hS2359 hM2359 pl_2184 ts_2184 (z := 29) rfl rfl (fun v2362 h2362 => ?_)
      exact (qz_X15_step_J158 hS2359 hM2359 h2362)
    · refine qs_gl hS2359 hM2359 pl_2184 ts_2184 (z := 29) rfl rfl (fun v2363 h2363 => ?_)
      refine qs_gi hS2359 hM2359 pl_2184 ts_2184 (z := 27) rfl rfl (fun v2364 h2364 => ?_)
      refine qs_zi hS2359 pl_2184 ts_2184 ?_
      refine qs_bp (qz_X15_charAt hS2359 hM2359 h2364) (fun v2366 S2366 w2366 h2366 hS2366 hM2366 => ?_)
      exact (qz_X15_step_J158 hS2366 hM2366 (pl_sub (pl_add (pl_mul kl_10 h2363) (p_64 h2366)) kl_48))
theorem qz_X15_step_L100 (n : Nat) : ∀ {P : Nat → Nat} {S : zm_S} {M : qm}  (hS : Sh L xs P S) (hM : qM P S = M) , qs (zf_X15_step_L100 20000 n 2184 S) (qf_X15_step_L100 20000 n M) (tO (vs (rr L xs P vu) (rr L xs P vu))) := by
  induction n with
  | zero =>
    intros
    exact qs_none
  | succ n ih =>
    intro P S M hS hM
    unfold qf_X15_step_L100
    refine qs_loop (C := (qc_X15_step_L100 L xs P (zf_X15_step_L100 20000 n))) (qz_X15_step_L100_b n hS hM ) ?_
    rintro x s ⟨_, rfl, hS2, hM2⟩
    exact ih hS2 hM2 
set_option maxRecDepth 20000 in
theorem qz_X15_step_J194 {P : Nat → Nat} {S : zm_S} {M : qm} {t1 : Int32} {qt1 : Int} (hS : Sh L xs P S) (hM : qM P S = M) (et1 : t1.toInt = qt1) : qs (zf_X15_step_J194 20000 2184 2184 t1 S) (qf_X15_step_J194 20000 qt1 M) (tO (rr L xs P vu)) := by
  unfold zf_X15_step_J194 qf_X15_step_J194
  refine qs_gd (fun g2368 => ?_)
  refine qs_pz hS hM pl_2184 ts_2184 (z := 31) rfl rfl et1 g2368 (fun S2367 M2367 hS2367 hM2367 => ?_)
  exact (qz_X15_step_J370 hS2367 hM2367 )
set_option maxRecDepth 20000 in
theorem qz_X15_step_J38 {P : Nat → Nat} {S : zm_S} {M : qm}  (hS : Sh L xs P S) (hM : qM P S = M)  : qs (zf_X15_step_J38 20000 2184 S) (qf_X15_step_J38 20000 M) (tO (rr L xs P vu)) := by
  unfold zf_X15_step_J38 qf_X15_step_J38
  refine qs_gi hS hM pl_2184 ts_2184 (z := 27) rfl rfl (fun v2369 h2369 => ?_)
  refine qs_pi hS hM pl_2184 ts_2184 (z := 26) rfl rfl h2369 (fun S2370 M2370 hS2370 hM2370 => ?_)
  refine qs_pi hS2370 hM2370 pl_2184 ts_2184 (z := 28) rfl rfl k_0 (fun S2371 M2371 hS2371 hM2371 => ?_)
  refine qs_pl hS2371 hM2371 pl_2184 ts_2184 (z := 29) rfl rfl kl_0 (fun S2372 M2372 hS2372 hM2372 => ?_)
  refine qs_gi hS2372 hM2372 pl_2184 ts_2184 (z := 26) rfl rfl (fun v2373 h2373 => ?_)
  refine qs_gi hS2372 hM2372 pl_2184 ts_2184 (z := 1) rfl rfl (fun v2374 h2374 => ?_)
  refine qs_ite (c_eq h2373 h2374) ?_ ?_
  · exact qs_tr (show vu _ _ from trivial) hS2372 hM2372
  · refine qs_gr hS2372 pl_2184 ts_2184 rfl ?_
    refine qs_gi hS2372 hM2372 pl_2184 ts_2184 (z := 26) rfl rfl (fun v2376 h2376 => ?_)
    refine qs_gd (fun g2378 => ?_)
    refine qs_xi hM2372 (pa_p hS2372 pl_2185 ts_2185) h2376 g2378 (fun v2377 h2377 => ?_)
    refine qs_gi hS2372 hM2372 pl_2184 ts_2184 (z := 30) rfl rfl (fun v2379 h2379 => ?_)
    refine qs_pi hS2372 hM2372 pl_2184 ts_2184 (z := 30) rfl rfl (p_add h2379 k_1) (fun S2380 M2380 hS2380 hM2380 => ?_)
    refine qs_bp (qz_X15_isDigit hS2380 hM2380 h2377) (fun v2381 S2381 w2381 h2381 hS2381 hM2381 => ?_)
    refine qs_ite (c_eq h2381 k_0) ?_ ?_
    · refine qs_bp (qz_X15_isLetter hS2381 hM2381 h2377) (fun v2382 S2382 w2382 h2382 hS2382 hM2382 => ?_)
      refine qs_ite (c_eq h2382 k_0) ?_ ?_
      · refine qs_ite (c_eq h2377 k_60) ?_ ?_
        · exact (qz_X15_step_J298 hS2382 hM2382 h2377)
        · refine qs_ite (c_eq h2377 k_62) ?_ ?_
          · exact (qz_X15_step_J298 hS2382 hM2382 h2377)
          · exact (qz_X15_step_J317 hS2382 hM2382 h2377)
      · refine qs_pi hS2382 hM2382 pl_2184 ts_2184 (z := 28) rfl rfl k_2 (fun S2383 M2383 hS2383 hM2383 => ?_)
        refine qs_lr (qz_X15_step_L212 20000 hS2383 hM2383 ) ?_ ?_
        · intro v2385 S2385 w2385 M2385 h2385 hS2385 hM2385
          dsimp only
          exact qs_tr h2385 hS2385 hM2385
        · intro v2385 S2385 w2385 M2385 h2385 hS2385 hM2385
          dsimp only
          refine qs_gi hS2385 hM2385 pl_2184 ts_2184 (z := 27) rfl rfl (fun v2386 h2386 => ?_)
          refine qs_gi hS2385 hM2385 pl_2184 ts_2184 (z := 26) rfl rfl (fun v2387 h2387 => ?_)
          refine qs_ite (c_le (p_sub h2386 h2387) k_8) ?_ ?_
          · exact (qz_X15_step_J280 hS2385 hM2385 k_0)
          · exact (qz_X15_step_J280 hS2385 hM2385 k_1)
    · refine qs_pi hS2381 hM2381 pl_2184 ts_2184 (z := 28) rfl rfl k_1 (fun S2388 M2388 hS2388 hM2388 => ?_)
      refine qs_lr (qz_X15_step_L100 20000 hS2388 hM2388 ) ?_ ?_
      · intro v2390 S2390 w2390 M2390 h2390 hS2390 hM2390
        dsimp only
        exact qs_tr h2390 hS2390 hM2390
      · intro v2390 S2390 w2390 M2390 h2390 hS2390 hM2390
        dsimp only
        refine qs_gi hS2390 hM2390 pl_2184 ts_2184 (z := 27) rfl rfl (fun v2391 h2391 => ?_)
        refine qs_gi hS2390 hM2390 pl_2184 ts_2184 (z := 26) rfl rfl (fun v2392 h2392 => ?_)
        refine qs_ite (c_le (p_sub h2391 h2392) k_9) ?_ ?_
        · exact (qz_X15_step_J194 hS2390 hM2390 k_0)
        · exact (qz_X15_step_J194 hS2390 hM2390 k_1)
set_option maxRecDepth 20000 in
theorem qz_X15_step {P : Nat → Nat} {S : zm_S} {M : qm}  (hS : Sh L xs P S) (hM : qM P S = M)  : qs (zf_X15_step 20000 2184 S) (qf_X15_step 20000 M) (tO (rr L xs P vu)) := by
  unfold zf_X15_step qf_X15_step
  refine qs_lr (qz_X15_step_L0 20000 hS hM ) ?_ ?_
  · intro v2394 S2394 w2394 M2394 h2394 hS2394 hM2394
    dsimp only
    exact qs_tr h2394 hS2394 hM2394
  · intro v2394 S2394 w2394 M2394 h2394 hS2394 hM2394
    dsimp only
    exact (qz_X15_step_J38 hS2394 hM2394 )
set_option maxRecDepth 20000 in
theorem qz_X15_take_J17 {P : Nat → Nat} {S : zm_S} {M : qm} {t1 : Int32} {qt1 : Int} (hS : Sh L xs P S) (hM : qM P S = M) (et1 : t1.toInt = qt1) : qs (zf_X15_take_J17 20000 2184 2184 t1 S) (qf_X15_take_J17 20000 qt1 M) (tO (rr L xs P vu)) := by
  unfold zf_X15_take_J17 qf_X15_take_J17
  refine qs_gd (fun g2396 => ?_)
  refine qs_pz hS hM pl_2184 ts_2184 (z := 31) rfl rfl et1 g2396 (fun S2395 M2395 hS2395 hM2395 => ?_)
  refine qs_gi hS2395 hM2395 pl_2184 ts_2184 (z := 31) rfl rfl (fun v2397 h2397 => ?_)
  refine qs_ite (c_eq h2397 k_0) ?_ ?_
  · refine qs_zi hS2395 pl_2184 ts_2184 ?_
    refine qs_b (qz_X15_step hS2395 hM2395 ) (fun v2399 S2399 w2399 M2399 h2399 hS2399 hM2399 => ?_)
    exact qs_tr (show vu _ _ from trivial) hS2399 hM2399
  · exact qs_tr (show vu _ _ from trivial) hS2395 hM2395
set_option maxRecDepth 20000 in
theorem qz_X15_take_J12 {P : Nat → Nat} {S : zm_S} {M : qm}  (hS : Sh L xs P S) (hM : qM P S = M)  : qs (zf_X15_take_J12 20000 2184 2184 S) (qf_X15_take_J12 20000 M) (tO (rr L xs P vu)) := by
  unfold zf_X15_take_J12 qf_X15_take_J12
  exact (qz_X15_take_J17 hS hM k_1)
set_option maxRecDepth 20000 in
theorem qz_X15_take {P : Nat → Nat} {S : zm_S} {M : qm} {i1 : Int32} {qi1 : Int} (hS : Sh L xs P S) (hM : qM P S = M) (ei1 : i1.toInt = qi1) : qs (zf_X15_take 20000 2184 i1 S) (qf_X15_take 20000 qi1 M) (tO (rr L xs P vu)) := by
  unfold zf_X15_take qf_X15_take
  refine qs_gi hS hM pl_2184 ts_2184 (z := 31) rfl rfl (fun v2400 h2400 => ?_)
  refine qs_ite (c_eq h2400 k_0) ?_ ?_
  · refine qs_ite (c_eq ei1 k_0) ?_ ?_
    · exact (qz_X15_take_J12 hS hM )
    · exact (qz_X15_take_J17 hS hM k_0)
  · exact (qz_X15_take_J12 hS hM )
set_option maxRecDepth 20000 in
theorem qz_X15_operation {P : Nat → Nat} {S : zm_S} {M : qm} {i0 : Int32} {qi0 : Int} (hS : Sh L xs P S) (hM : qM P S = M) (ei0 : i0.toInt = qi0) : qs (zf_X15_operation 20000 i0 S) (qf_X15_operation 20000 qi0 M) (tO (rp L xs P M vi)) := by
  unfold zf_X15_operation qf_X15_operation
  refine qs_ite (c_eq ei0 k_43) ?_ ?_
  · exact qs_tp (show vi _ _ from k_2) hS hM
  · refine qs_ite (c_eq ei0 k_45) ?_ ?_
    · exact qs_tp (show vi _ _ from k_3) hS hM
    · refine qs_ite (c_eq ei0 k_42) ?_ ?_
      · exact qs_tp (show vi _ _ from k_4) hS hM
      · refine qs_ite (c_eq ei0 k_47) ?_ ?_
        · exact qs_tp (show vi _ _ from k_5) hS hM
        · exact qs_tp (show vi _ _ from k_0) hS hM
set_option maxRecDepth 20000 in
theorem qz_X15_side_J306 {P : Nat → Nat} {S : zm_S} {M : qm} {i1 : Int32} {qi1 : Int} {i2 : Int32} {qi2 : Int} {i3 : Int32} {qi3 : Int} {t1 : Int32} {qt1 : Int} (hS : Sh L xs P S) (hM : qM P S = M) (ei1 : i1.toInt = qi1) (ei2 : i2.toInt = qi2) (ei3 : i3.toInt = qi3) (et1 : t1.toInt = qt1) {k : Nat → Int32 → Int32 → Int32 → Int32 → zm_S → Option ((Unit × zm_S) ⊕ ((Unit) × zm_S))} : qs (zf_X15_side_J306 20000 k 2184 i1 i2 i3 2184 t1 S) (qf_X15_side_J306 20000 qi1 qi2 qi3 qt1 M) (tk (vs (rr L xs P vu) (rr L xs P vu)) (qc_X15_side_L14 L xs P k)) := by
  unfold zf_X15_side_J306 qf_X15_side_J306
  refine qs_gd (fun g2402 => ?_)
  refine qs_pz hS hM pl_2184 ts_2184 (z := 31) rfl rfl et1 g2402 (fun S2401 M2401 hS2401 hM2401 => ?_)
  exact qs_tk ⟨_, _, _, _, _, rfl, ei1, ei2, ei3, k_0, hS2401, hM2401⟩
set_option maxRecDepth 20000 in
theorem qz_X15_side_J296 {P : Nat → Nat} {S : zm_S} {M : qm} {i1 : Int32} {qi1 : Int} {i2 : Int32} {qi2 : Int} {i3 : Int32} {qi3 : Int} (hS : Sh L xs P S) (hM : qM P S = M) (ei1 : i1.toInt = qi1) (ei2 : i2.toInt = qi2) (ei3 : i3.toInt = qi3) {k : Nat → Int32 → Int32 → Int32 → Int32 → zm_S → Option ((Unit × zm_S) ⊕ ((Unit) × zm_S))} : qs (zf_X15_side_J296 20000 k 2184 i1 i2 i3 S) (qf_X15_side_J296 20000 qi1 qi2 qi3 M) (tk (vs (rr L xs P vu) (rr L xs P vu)) (qc_X15_side_L14 L xs P k)) := by
  unfold zf_X15_side_J296 qf_X15_side_J296
  refine qs_ite (c_le ei1 k_0) ?_ ?_
  · exact (qz_X15_side_J306 hS hM ei1 ei2 ei3 k_0)
  · exact (qz_X15_side_J306 hS hM ei1 ei2 ei3 k_1)
set_option maxRecDepth 20000 in
theorem qz_X15_emit {P : Nat → Nat} {S : zm_S} {M : qm} {i1 : Int32} {qi1 : Int} {j2 : Int64} {qj2 : Int} (hS : Sh L xs P S) (hM : qM P S = M) (ei1 : i1.toInt = qi1) (ej2 : j2.toInt = qj2) : qs (zf_X15_emit 20000 2184 i1 j2 S) (qf_X15_emit 20000 qi1 qj2 M) (tO (rr L xs P vu)) := by
  unfold zf_X15_emit qf_X15_emit
  refine qs_gr hS pl_2184 ts_2184 rfl ?_
  refine qs_gi hS hM pl_2184 ts_2184 (z := 34) rfl rfl (fun v2404 h2404 => ?_)
  refine qs_gd (fun g2406 => ?_)
  refine qs_si hS hM (pa_p hS pl_2196 ts_2196) (p_add k_400 h2404) g2406 ei1 (fun S2405 M2405 hS2405 hM2405 => ?_)
  refine qs_gr hS2405 pl_2184 ts_2184 rfl ?_
  refine qs_gi hS2405 hM2405 pl_2184 ts_2184 (z := 34) rfl rfl (fun v2408 h2408 => ?_)
  refine qs_gd (fun g2410 => ?_)
  refine qs_sl hS2405 hM2405 (pa_p hS2405 pl_2197 ts_2197) (p_add k_400 h2408) g2410 ej2 (fun S2409 M2409 hS2409 hM2409 => ?_)
  refine qs_gi hS2409 hM2409 pl_2184 ts_2184 (z := 34) rfl rfl (fun v2411 h2411 => ?_)
  refine qs_pi hS2409 hM2409 pl_2184 ts_2184 (z := 34) rfl rfl (p_add h2411 k_1) (fun S2412 M2412 hS2412 hM2412 => ?_)
  exact qs_tr (show vu _ _ from trivial) hS2412 hM2412
set_option maxRecDepth 20000 in
theorem qz_X15_unpile_J42 {P : Nat → Nat} {S : zm_S} {M : qm} {i1 : Int32} {qi1 : Int} (hS : Sh L xs P S) (hM : qM P S = M) (ei1 : i1.toInt = qi1) {k : Nat → Int32 → zm_S → Option ((Unit × zm_S) ⊕ ((Unit) × zm_S))} : qs (zf_X15_unpile_J42 20000 k 2184 i1 S) (qf_X15_unpile_J42 20000 qi1 M) (tk (vs (rr L xs P vu) (rr L xs P vu)) (qc_X15_unpile_L0 L xs P k)) := by
  unfold zf_X15_unpile_J42 qf_X15_unpile_J42
  refine qs_gi hS hM pl_2184 ts_2184 (z := 36) rfl rfl (fun v2413 h2413 => ?_)
  refine qs_pi hS hM pl_2184 ts_2184 (z := 36) rfl rfl (p_sub h2413 k_1) (fun S2414 M2414 hS2414 hM2414 => ?_)
  refine qs_gr hS2414 pl_2184 ts_2184 rfl ?_
  refine qs_gi hS2414 hM2414 pl_2184 ts_2184 (z := 36) rfl rfl (fun v2416 h2416 => ?_)
  refine qs_gd (fun g2418 => ?_)
  refine qs_xi hM2414 (pa_p hS2414 pl_2205 ts_2205) h2416 g2418 (fun v2417 h2417 => ?_)
  refine qs_zi hS2414 pl_2184 ts_2184 ?_
  refine qs_b (qz_X15_emit hS2414 hM2414 h2417 kl_0) (fun v2420 S2420 w2420 M2420 h2420 hS2420 hM2420 => ?_)
  exact qs_tk ⟨_, _, rfl, ei1, hS2420, hM2420⟩
set_option maxRecDepth 20000 in
theorem qz_X15_unpile_L0_b (n : Nat) {P : Nat → Nat} {S : zm_S} {M : qm} {i1 : Int32} {qi1 : Int} (hS : Sh L xs P S) (hM : qM P S = M) (ei1 : i1.toInt = qi1) : qs (zf_X15_unpile_L0 20000 (n + 1) 2184 i1 S) (qf_X15_unpile_L0_b 20000 qi1 M) (tk (vs (rr L xs P vu) (rr L xs P vu)) (qc_X15_unpile_L0 L xs P (zf_X15_unpile_L0 20000 n))) := by
  refine qs_eq (zf_X15_unpile_L0.eq_2 ..) ?_
  unfold qf_X15_unpile_L0_b
  refine qs_gi hS hM pl_2184 ts_2184 (z := 36) rfl rfl (fun v2421 h2421 => ?_)
  refine qs_ite (c_le h2421 k_0) ?_ ?_
  · exact qs_tr2 (show vu _ _ from trivial) hS hM
  · refine qs_gr hS pl_2184 ts_2184 rfl ?_
    refine qs_gi hS hM pl_2184 ts_2184 (z := 36) rfl rfl (fun v2423 h2423 => ?_)
    refine qs_gd (fun g2425 => ?_)
    refine qs_xi hM (pa_p hS pl_2205 ts_2205) (p_sub h2423 k_1) g2425 (fun v2424 h2424 => ?_)
    refine qs_ite (c_le h2424 k_1) ?_ ?_
    · exact qs_tr2 (show vu _ _ from trivial) hS hM
    · refine qs_gr hS pl_2184 ts_2184 rfl ?_
      refine qs_gi hS hM pl_2184 ts_2184 (z := 36) rfl rfl (fun v2427 h2427 => ?_)
      refine qs_gd (fun g2429 => ?_)
      refine qs_xi hM (pa_p hS pl_2205 ts_2205) (p_sub h2427 k_1) g2429 (fun v2428 h2428 => ?_)
      refine qs_ite (c_lt k_3 h2428) ?_ ?_
      · exact (qz_X15_unpile_J42 hS hM ei1)
      · refine qs_ite (c_le k_2 ei1) ?_ ?_
        · exact qs_tr2 (show vu _ _ from trivial) hS hM
        · exact (qz_X15_unpile_J42 hS hM ei1)
theorem qz_X15_unpile_L0 (n : Nat) : ∀ {P : Nat → Nat} {S : zm_S} {M : qm} {i1 : Int32} {qi1 : Int} (hS : Sh L xs P S) (hM : qM P S = M) (ei1 : i1.toInt = qi1), qs (zf_X15_unpile_L0 20000 n 2184 i1 S) (qf_X15_unpile_L0 20000 n qi1 M) (tO (vs (rr L xs P vu) (rr L xs P vu))) := by
  induction n with
  | zero =>
    intros
    exact qs_none
  | succ n ih =>
    intro P S M i1 qi1 hS hM ei1
    unfold qf_X15_unpile_L0
    refine qs_loop (C := (qc_X15_unpile_L0 L xs P (zf_X15_unpile_L0 20000 n))) (qz_X15_unpile_L0_b n hS hM ei1) ?_
    rintro x s ⟨_, _, rfl, u0, hS2, hM2⟩
    exact ih hS2 hM2 u0
set_option maxRecDepth 20000 in
theorem qz_X15_unpile {P : Nat → Nat} {S : zm_S} {M : qm} {i1 : Int32} {qi1 : Int} (hS : Sh L xs P S) (hM : qM P S = M) (ei1 : i1.toInt = qi1) : qs (zf_X15_unpile 20000 2184 i1 S) (qf_X15_unpile 20000 qi1 M) (tO (rr L xs P vu)) := by
  unfold zf_X15_unpile qf_X15_unpile
  refine qs_lr (qz_X15_unpile_L0 20000 hS hM ei1) ?_ ?_
  · intro v2431 S2431 w2431 M2431 h2431 hS2431 hM2431
    dsimp only
    exact qs_tr h2431 hS2431 hM2431
  · intro v2431 S2431 w2431 M2431 h2431 hS2431 hM2431
    dsimp only
    exact qs_tr (show vu _ _ from trivial) hS2431 hM2431
set_option maxRecDepth 20000 in
theorem qz_X15_side_J221 {P : Nat → Nat} {S : zm_S} {M : qm} {i1 : Int32} {qi1 : Int} {i4 : Int32} {qi4 : Int} {i5 : Int32} {qi5 : Int} {t1 : Int32} {qt1 : Int} (hS : Sh L xs P S) (hM : qM P S = M) (ei1 : i1.toInt = qi1) (ei4 : i4.toInt = qi4) (ei5 : i5.toInt = qi5) (et1 : t1.toInt = qt1) {k : Nat → Int32 → Int32 → Int32 → Int32 → zm_S → Option ((Unit × zm_S) ⊕ ((Unit) × zm_S))} : qs (zf_X15_side_J221 20000 k 2184 i1 i4 i5 2184 t1 S) (qf_X15_side_J221 20000 qi1 qi4 qi5 qt1 M) (tk (vs (rr L xs P vu) (rr L xs P vu)) (qc_X15_side_L14 L xs P k)) := by
  unfold zf_X15_side_J221 qf_X15_side_J221
  refine qs_zi hS pl_2184 ts_2184 ?_
  refine qs_b (qz_X15_unpile hS hM et1) (fun v2433 S2433 w2433 M2433 h2433 hS2433 hM2433 => ?_)
  refine qs_gr hS2433 pl_2184 ts_2184 rfl ?_
  refine qs_gi hS2433 hM2433 pl_2184 ts_2184 (z := 36) rfl rfl (fun v2435 h2435 => ?_)
  refine qs_gd (fun g2437 => ?_)
  refine qs_si hS2433 hM2433 (pa_p hS2433 pl_2205 ts_2205) h2435 g2437 ei5 (fun S2436 M2436 hS2436 hM2436 => ?_)
  refine qs_gi hS2436 hM2436 pl_2184 ts_2184 (z := 36) rfl rfl (fun v2438 h2438 => ?_)
  refine qs_pi hS2436 hM2436 pl_2184 ts_2184 (z := 36) rfl rfl (p_add h2438 k_1) (fun S2439 M2439 hS2439 hM2439 => ?_)
  refine qs_zi hS2439 pl_2184 ts_2184 ?_
  refine qs_b (qz_X15_take hS2439 hM2439 k_1) (fun v2441 S2441 w2441 M2441 h2441 hS2441 hM2441 => ?_)
  exact qs_tk ⟨_, _, _, _, _, rfl, ei1, k_0, k_1, ei4, hS2441, hM2441⟩
set_option maxRecDepth 20000 in
theorem qz_X15_side_J193 {P : Nat → Nat} {S : zm_S} {M : qm} {i1 : Int32} {qi1 : Int} {i2 : Int32} {qi2 : Int} {i3 : Int32} {qi3 : Int} {i4 : Int32} {qi4 : Int} (hS : Sh L xs P S) (hM : qM P S = M) (ei1 : i1.toInt = qi1) (ei2 : i2.toInt = qi2) (ei3 : i3.toInt = qi3) (ei4 : i4.toInt = qi4) {k : Nat → Int32 → Int32 → Int32 → Int32 → zm_S → Option ((Unit × zm_S) ⊕ ((Unit) × zm_S))} : qs (zf_X15_side_J193 20000 k 2184 i1 i2 i3 i4 2184 S) (qf_X15_side_J193 20000 qi1 qi2 qi3 qi4 M) (tk (vs (rr L xs P vu) (rr L xs P vu)) (qc_X15_side_L14 L xs P k)) := by
  unfold zf_X15_side_J193 qf_X15_side_J193
  refine qs_zi hS pl_2184 ts_2184 ?_
  refine qs_b (qz_X15_take hS hM k_1) (fun v2443 S2443 w2443 M2443 h2443 hS2443 hM2443 => ?_)
  exact qs_tk ⟨_, _, _, _, _, rfl, ei1, ei2, ei3, ei4, hS2443, hM2443⟩
set_option maxRecDepth 20000 in
theorem qz_X15_side_J167 {P : Nat → Nat} {S : zm_S} {M : qm} {i1 : Int32} {qi1 : Int} {i2 : Int32} {qi2 : Int} {i4 : Int32} {qi4 : Int} {t1 : Int32} {qt1 : Int} (hS : Sh L xs P S) (hM : qM P S = M) (ei1 : i1.toInt = qi1) (ei2 : i2.toInt = qi2) (ei4 : i4.toInt = qi4) (et1 : t1.toInt = qt1) {k : Nat → Int32 → Int32 → Int32 → Int32 → zm_S → Option ((Unit × zm_S) ⊕ ((Unit) × zm_S))} : qs (zf_X15_side_J167 20000 k 2184 i1 i2 i4 2184 t1 S) (qf_X15_side_J167 20000 qi1 qi2 qi4 qt1 M) (tk (vs (rr L xs P vu) (rr L xs P vu)) (qc_X15_side_L14 L xs P k)) := by
  unfold zf_X15_side_J167 qf_X15_side_J167
  refine qs_gl hS hM pl_2184 ts_2184 (z := 29) rfl rfl (fun v2444 h2444 => ?_)
  refine qs_zi hS pl_2184 ts_2184 ?_
  refine qs_b (qz_X15_emit hS hM et1 h2444) (fun v2446 S2446 w2446 M2446 h2446 hS2446 hM2446 => ?_)
  refine qs_gi hS2446 hM2446 pl_2184 ts_2184 (z := 28) rfl rfl (fun v2447 h2447 => ?_)
  refine qs_ite (c_eq h2447 k_1) ?_ ?_
  · exact (qz_X15_side_J193 hS2446 hM2446 ei1 ei2 k_0 ei4)
  · refine qs_gi hS2446 hM2446 pl_2184 ts_2184 (z := 28) rfl rfl (fun v2448 h2448 => ?_)
    refine qs_ite (c_eq h2448 k_2) ?_ ?_
    · exact (qz_X15_side_J193 hS2446 hM2446 ei1 ei2 k_0 ei4)
    · refine qs_zi hS2446 pl_2184 ts_2184 ?_
      refine qs_b (qz_X15_take hS2446 hM2446 k_0) (fun v2450 S2450 w2450 M2450 h2450 hS2450 hM2450 => ?_)
      exact qs_tk ⟨_, _, _, _, _, rfl, ei1, ei2, k_0, ei4, hS2450, hM2450⟩
set_option maxRecDepth 20000 in
theorem qz_X15_side_J149 {P : Nat → Nat} {S : zm_S} {M : qm} {i1 : Int32} {qi1 : Int} {i2 : Int32} {qi2 : Int} {i3 : Int32} {qi3 : Int} {i4 : Int32} {qi4 : Int} {i5 : Int32} {qi5 : Int} (hS : Sh L xs P S) (hM : qM P S = M) (ei1 : i1.toInt = qi1) (ei2 : i2.toInt = qi2) (ei3 : i3.toInt = qi3) (ei4 : i4.toInt = qi4) (ei5 : i5.toInt = qi5) {k : Nat → Int32 → Int32 → Int32 → Int32 → zm_S → Option ((Unit × zm_S) ⊕ ((Unit) × zm_S))} : qs (zf_X15_side_J149 20000 k 2184 i1 i2 i3 i4 i5 S) (qf_X15_side_J149 20000 qi1 qi2 qi3 qi4 qi5 M) (tk (vs (rr L xs P vu) (rr L xs P vu)) (qc_X15_side_L14 L xs P k)) := by
  unfold zf_X15_side_J149 qf_X15_side_J149
  refine qs_ite (c_eq ei3 k_0) ?_ ?_
  · refine qs_ite (c_le ei5 k_0) ?_ ?_
    · refine qs_gi hS hM pl_2184 ts_2184 (z := 28) rfl rfl (fun v2451 h2451 => ?_)
      refine qs_ite (c_eq h2451 k_41) ?_ ?_
      · refine qs_ite (c_le ei1 k_0) ?_ ?_
        · exact (qz_X15_side_J296 hS hM ei1 ei2 ei3)
        · refine qs_zi hS pl_2184 ts_2184 ?_
          refine qs_b (qz_X15_unpile hS hM k_1) (fun v2453 S2453 w2453 M2453 h2453 hS2453 hM2453 => ?_)
          refine qs_gi hS2453 hM2453 pl_2184 ts_2184 (z := 36) rfl rfl (fun v2454 h2454 => ?_)
          refine qs_pi hS2453 hM2453 pl_2184 ts_2184 (z := 36) rfl rfl (p_sub h2454 k_1) (fun S2455 M2455 hS2455 hM2455 => ?_)
          refine qs_zi hS2455 pl_2184 ts_2184 ?_
          refine qs_b (qz_X15_take hS2455 hM2455 k_1) (fun v2457 S2457 w2457 M2457 h2457 hS2457 hM2457 => ?_)
          exact qs_tk ⟨_, _, _, _, _, rfl, (p_addm ei1 k_m1), ei2, ei3, ei4, hS2457, hM2457⟩
      · exact (qz_X15_side_J296 hS hM ei1 ei2 ei3)
    · refine qs_ite (c_le ei5 k_3) ?_ ?_
      · exact (qz_X15_side_J221 hS hM ei1 ei4 ei5 k_1)
      · exact (qz_X15_side_J221 hS hM ei1 ei4 ei5 k_2)
  · refine qs_gi hS hM pl_2184 ts_2184 (z := 28) rfl rfl (fun v2458 h2458 => ?_)
    refine qs_ite (c_eq h2458 k_1) ?_ ?_
    · exact (qz_X15_side_J167 hS hM ei1 ei2 ei4 k_0)
    · exact (qz_X15_side_J167 hS hM ei1 ei2 ei4 k_1)
set_option maxRecDepth 20000 in
theorem qz_X15_side_J113 {P : Nat → Nat} {S : zm_S} {M : qm} {i1 : Int32} {qi1 : Int} {i3 : Int32} {qi3 : Int} {i4 : Int32} {qi4 : Int} {t1 : Int32} {qt1 : Int} (hS : Sh L xs P S) (hM : qM P S = M) (ei1 : i1.toInt = qi1) (ei3 : i3.toInt = qi3) (ei4 : i4.toInt = qi4) (et1 : t1.toInt = qt1) {k : Nat → Int32 → Int32 → Int32 → Int32 → zm_S → Option ((Unit × zm_S) ⊕ ((Unit) × zm_S))} : qs (zf_X15_side_J113 20000 k 2184 i1 i3 i4 2184 t1 S) (qf_X15_side_J113 20000 qi1 qi3 qi4 qt1 M) (tk (vs (rr L xs P vu) (rr L xs P vu)) (qc_X15_side_L14 L xs P k)) := by
  unfold zf_X15_side_J113 qf_X15_side_J113
  refine qs_gd (fun g2460 => ?_)
  refine qs_pz hS hM pl_2184 ts_2184 (z := 31) rfl rfl et1 g2460 (fun S2459 M2459 hS2459 hM2459 => ?_)
  refine qs_gr hS2459 pl_2184 ts_2184 rfl ?_
  refine qs_gi hS2459 hM2459 pl_2184 ts_2184 (z := 36) rfl rfl (fun v2462 h2462 => ?_)
  refine qs_gd (fun g2464 => ?_)
  refine qs_si hS2459 hM2459 (pa_p hS2459 pl_2205 ts_2205) h2462 g2464 k_1 (fun S2463 M2463 hS2463 hM2463 => ?_)
  refine qs_gi hS2463 hM2463 pl_2184 ts_2184 (z := 36) rfl rfl (fun v2465 h2465 => ?_)
  refine qs_pi hS2463 hM2463 pl_2184 ts_2184 (z := 36) rfl rfl (p_add h2465 k_1) (fun S2466 M2466 hS2466 hM2466 => ?_)
  refine qs_zi hS2466 pl_2184 ts_2184 ?_
  refine qs_b (qz_X15_take hS2466 hM2466 k_1) (fun v2468 S2468 w2468 M2468 h2468 hS2468 hM2468 => ?_)
  exact qs_tk ⟨_, _, _, _, _, rfl, (p_add ei1 k_1), k_1, ei3, ei4, hS2468, hM2468⟩
set_option maxRecDepth 20000 in
theorem qz_X15_side_J88 {P : Nat → Nat} {S : zm_S} {M : qm} {i1 : Int32} {qi1 : Int} {i2 : Int32} {qi2 : Int} {i3 : Int32} {qi3 : Int} {i4 : Int32} {qi4 : Int} {i5 : Int32} {qi5 : Int} (hS : Sh L xs P S) (hM : qM P S = M) (ei1 : i1.toInt = qi1) (ei2 : i2.toInt = qi2) (ei3 : i3.toInt = qi3) (ei4 : i4.toInt = qi4) (ei5 : i5.toInt = qi5) {k : Nat → Int32 → Int32 → Int32 → Int32 → zm_S → Option ((Unit × zm_S) ⊕ ((Unit) × zm_S))} : qs (zf_X15_side_J88 20000 k 2184 i1 i2 i3 i4 i5 S) (qf_X15_side_J88 20000 qi1 qi2 qi3 qi4 qi5 M) (tk (vs (rr L xs P vu) (rr L xs P vu)) (qc_X15_side_L14 L xs P k)) := by
  unfold zf_X15_side_J88 qf_X15_side_J88
  refine qs_ite (c_eq ei3 k_0) ?_ ?_
  · exact (qz_X15_side_J149 hS hM ei1 ei2 ei3 ei4 ei5)
  · refine qs_gi hS hM pl_2184 ts_2184 (z := 28) rfl rfl (fun v2469 h2469 => ?_)
    refine qs_ite (c_eq h2469 k_40) ?_ ?_
    · refine qs_ite (c_eq ei1 k_8) ?_ ?_
      · exact (qz_X15_side_J113 hS hM ei1 ei3 ei4 k_1)
      · exact (qz_X15_side_J113 hS hM ei1 ei3 ei4 k_0)
    · exact (qz_X15_side_J149 hS hM ei1 ei2 ei3 ei4 ei5)
set_option maxRecDepth 20000 in
theorem qz_X15_side_L14_b (n : Nat) {P : Nat → Nat} {S : zm_S} {M : qm} {i1 : Int32} {qi1 : Int} {i2 : Int32} {qi2 : Int} {i3 : Int32} {qi3 : Int} {i4 : Int32} {qi4 : Int} (hS : Sh L xs P S) (hM : qM P S = M) (ei1 : i1.toInt = qi1) (ei2 : i2.toInt = qi2) (ei3 : i3.toInt = qi3) (ei4 : i4.toInt = qi4) : qs (zf_X15_side_L14 20000 (n + 1) 2184 i1 i2 i3 i4 S) (qf_X15_side_L14_b 20000 qi1 qi2 qi3 qi4 M) (tk (vs (rr L xs P vu) (rr L xs P vu)) (qc_X15_side_L14 L xs P (zf_X15_side_L14 20000 n))) := by
  refine qs_eq (zf_X15_side_L14.eq_2 ..) ?_
  unfold qf_X15_side_L14_b
  refine qs_ite (c_eq ei4 k_0) ?_ ?_
  · exact qs_tr2 (show vu _ _ from trivial) hS hM
  · refine qs_gi hS hM pl_2184 ts_2184 (z := 31) rfl rfl (fun v2470 h2470 => ?_)
    refine qs_ite (c_eq h2470 k_0) ?_ ?_
    · refine qs_gi hS hM pl_2184 ts_2184 (z := 28) rfl rfl (fun v2471 h2471 => ?_)
      refine qs_bp (qz_X15_operation hS hM h2471) (fun v2472 S2472 w2472 h2472 hS2472 hM2472 => ?_)
      refine qs_ite (c_eq ei3 k_0) ?_ ?_
      · exact (qz_X15_side_J88 hS2472 hM2472 ei1 ei2 ei3 ei4 h2472)
      · refine qs_ite (c_eq ei2 k_0) ?_ ?_
        · exact (qz_X15_side_J88 hS2472 hM2472 ei1 ei2 ei3 ei4 h2472)
        · refine qs_gi hS2472 hM2472 pl_2184 ts_2184 (z := 28) rfl rfl (fun v2473 h2473 => ?_)
          refine qs_ite (c_eq h2473 k_45) ?_ ?_
          · refine qs_zi hS2472 pl_2184 ts_2184 ?_
            refine qs_b (qz_X15_emit hS2472 hM2472 k_0 kl_0) (fun v2475 S2475 w2475 M2475 h2475 hS2475 hM2475 => ?_)
            refine qs_gr hS2475 pl_2184 ts_2184 rfl ?_
            refine qs_gi hS2475 hM2475 pl_2184 ts_2184 (z := 36) rfl rfl (fun v2477 h2477 => ?_)
            refine qs_gd (fun g2479 => ?_)
            refine qs_si hS2475 hM2475 (pa_p hS2475 pl_2205 ts_2205) h2477 g2479 k_3 (fun S2478 M2478 hS2478 hM2478 => ?_)
            refine qs_gi hS2478 hM2478 pl_2184 ts_2184 (z := 36) rfl rfl (fun v2480 h2480 => ?_)
            refine qs_pi hS2478 hM2478 pl_2184 ts_2184 (z := 36) rfl rfl (p_add h2480 k_1) (fun S2481 M2481 hS2481 hM2481 => ?_)
            refine qs_zi hS2481 pl_2184 ts_2184 ?_
            refine qs_b (qz_X15_take hS2481 hM2481 k_1) (fun v2483 S2483 w2483 M2483 h2483 hS2483 hM2483 => ?_)
            exact qs_tk ⟨_, _, _, _, _, rfl, ei1, k_0, ei3, ei4, hS2483, hM2483⟩
          · exact (qz_X15_side_J88 hS2472 hM2472 ei1 ei2 ei3 ei4 h2472)
    · exact qs_tr2 (show vu _ _ from trivial) hS hM
theorem qz_X15_side_L14 (n : Nat) : ∀ {P : Nat → Nat} {S : zm_S} {M : qm} {i1 : Int32} {qi1 : Int} {i2 : Int32} {qi2 : Int} {i3 : Int32} {qi3 : Int} {i4 : Int32} {qi4 : Int} (hS : Sh L xs P S) (hM : qM P S = M) (ei1 : i1.toInt = qi1) (ei2 : i2.toInt = qi2) (ei3 : i3.toInt = qi3) (ei4 : i4.toInt = qi4), qs (zf_X15_side_L14 20000 n 2184 i1 i2 i3 i4 S) (qf_X15_side_L14 20000 n qi1 qi2 qi3 qi4 M) (tO (vs (rr L xs P vu) (rr L xs P vu))) := by
  induction n with
  | zero =>
    intros
    exact qs_none
  | succ n ih =>
    intro P S M i1 qi1 i2 qi2 i3 qi3 i4 qi4 hS hM ei1 ei2 ei3 ei4
    unfold qf_X15_side_L14
    refine qs_loop (C := (qc_X15_side_L14 L xs P (zf_X15_side_L14 20000 n))) (qz_X15_side_L14_b n hS hM ei1 ei2 ei3 ei4) ?_
    rintro x s ⟨_, _, _, _, _, rfl, u0, u1, u2, u3, hS2, hM2⟩
    exact ih hS2 hM2 u0 u1 u2 u3
set_option maxRecDepth 20000 in
theorem qz_X15_side_J315 {P : Nat → Nat} {S : zm_S} {M : qm}  (hS : Sh L xs P S) (hM : qM P S = M)  : qs (zf_X15_side_J315 20000 2184 S) (qf_X15_side_J315 20000 M) (tO (rr L xs P vu)) := by
  unfold zf_X15_side_J315 qf_X15_side_J315
  refine qs_zi hS pl_2184 ts_2184 ?_
  refine qs_b (qz_X15_unpile hS hM k_1) (fun v2485 S2485 w2485 M2485 h2485 hS2485 hM2485 => ?_)
  exact qs_tr (show vu _ _ from trivial) hS2485 hM2485
set_option maxRecDepth 20000 in
theorem qz_X15_side {P : Nat → Nat} {S : zm_S} {M : qm}  (hS : Sh L xs P S) (hM : qM P S = M)  : qs (zf_X15_side 20000 2184 S) (qf_X15_side 20000 M) (tO (rr L xs P vu)) := by
  unfold zf_X15_side qf_X15_side
  refine qs_pi hS hM pl_2184 ts_2184 (z := 36) rfl rfl k_0 (fun S2486 M2486 hS2486 hM2486 => ?_)
  refine qs_lr (qz_X15_side_L14 20000 hS2486 hM2486 k_0 k_1 k_1 k_1) ?_ ?_
  · intro v2488 S2488 w2488 M2488 h2488 hS2488 hM2488
    dsimp only
    exact qs_tr h2488 hS2488 hM2488
  · intro v2488 S2488 w2488 M2488 h2488 hS2488 hM2488
    dsimp only
    exact (qz_X15_side_J315 hS2488 hM2488 )
set_option maxRecDepth 20000 in
theorem qz_X15_relation {P : Nat → Nat} {S : zm_S} {M : qm} {i0 : Int32} {qi0 : Int} (hS : Sh L xs P S) (hM : qM P S = M) (ei0 : i0.toInt = qi0) : qs (zf_X15_relation 20000 i0 S) (qf_X15_relation 20000 qi0 M) (tO (rp L xs P M vi)) := by
  unfold zf_X15_relation qf_X15_relation
  refine qs_ite (c_eq ei0 k_60) ?_ ?_
  · exact qs_tp (show vi _ _ from k_0) hS hM
  · refine qs_ite (c_eq ei0 k_316) ?_ ?_
    · exact qs_tp (show vi _ _ from k_1) hS hM
    · refine qs_ite (c_eq ei0 k_61) ?_ ?_
      · exact qs_tp (show vi _ _ from k_2) hS hM
      · refine qs_ite (c_eq ei0 k_318) ?_ ?_
        · exact qs_tp (show vi _ _ from k_3) hS hM
        · refine qs_ite (c_eq ei0 k_62) ?_ ?_
          · exact qs_tp (show vi _ _ from k_4) hS hM
          · exact qs_tp (show vi _ _ from k_m1) hS hM
set_option maxRecDepth 20000 in
theorem qz_X15_clause_J92 {P : Nat → Nat} {S : zm_S} {M : qm} {i1 : Int32} {qi1 : Int} (hS : Sh L xs P S) (hM : qM P S = M) (ei1 : i1.toInt = qi1) : qs (zf_X15_clause_J92 20000 2184 i1 S) (qf_X15_clause_J92 20000 qi1 M) (tO (rr L xs P vu)) := by
  unfold zf_X15_clause_J92 qf_X15_clause_J92
  refine qs_gr hS pl_2184 ts_2184 rfl ?_
  refine qs_gi hS hM pl_2184 ts_2184 (z := 34) rfl rfl (fun v2490 h2490 => ?_)
  refine qs_gd (fun g2492 => ?_)
  refine qs_si hS hM (pa_p hS pl_2194 ts_2194) ei1 g2492 h2490 (fun S2491 M2491 hS2491 hM2491 => ?_)
  exact qs_tr (show vu _ _ from trivial) hS2491 hM2491
set_option maxRecDepth 20000 in
theorem qz_X15_clause_J78 {P : Nat → Nat} {S : zm_S} {M : qm} {i1 : Int32} {qi1 : Int} {t1 : Int32} {qt1 : Int} (hS : Sh L xs P S) (hM : qM P S = M) (ei1 : i1.toInt = qi1) (et1 : t1.toInt = qt1) : qs (zf_X15_clause_J78 20000 2184 i1 2184 t1 S) (qf_X15_clause_J78 20000 qi1 qt1 M) (tO (rr L xs P vu)) := by
  unfold zf_X15_clause_J78 qf_X15_clause_J78
  refine qs_zi hS pl_2184 ts_2184 ?_
  refine qs_b (qz_X15_take hS hM et1) (fun v2494 S2494 w2494 M2494 h2494 hS2494 hM2494 => ?_)
  refine qs_gi hS2494 hM2494 pl_2184 ts_2184 (z := 31) rfl rfl (fun v2495 h2495 => ?_)
  refine qs_ite (c_eq h2495 k_0) ?_ ?_
  · refine qs_zi hS2494 pl_2184 ts_2184 ?_
    refine qs_b (qz_X15_side hS2494 hM2494 ) (fun v2497 S2497 w2497 M2497 h2497 hS2497 hM2497 => ?_)
    exact (qz_X15_clause_J92 hS2497 hM2497 ei1)
  · exact (qz_X15_clause_J92 hS2494 hM2494 ei1)
set_option maxRecDepth 20000 in
theorem qz_X15_clause_J77 {P : Nat → Nat} {S : zm_S} {M : qm} {i1 : Int32} {qi1 : Int} (hS : Sh L xs P S) (hM : qM P S = M) (ei1 : i1.toInt = qi1) : qs (zf_X15_clause_J77 20000 2184 i1 2184 S) (qf_X15_clause_J77 20000 qi1 M) (tO (rr L xs P vu)) := by
  unfold zf_X15_clause_J77 qf_X15_clause_J77
  exact (qz_X15_clause_J78 hS hM ei1 k_0)
set_option maxRecDepth 20000 in
theorem qz_X15_clause {P : Nat → Nat} {S : zm_S} {M : qm}  (hS : Sh L xs P S) (hM : qM P S = M)  : qs (zf_X15_clause 20000 2184 S) (qf_X15_clause 20000 M) (tO (rr L xs P vu)) := by
  unfold zf_X15_clause qf_X15_clause
  refine qs_gi hS hM pl_2184 ts_2184 (z := 33) rfl rfl (fun v2498 h2498 => ?_)
  refine qs_gi hS hM pl_2184 ts_2184 (z := 33) rfl rfl (fun v2499 h2499 => ?_)
  refine qs_pi hS hM pl_2184 ts_2184 (z := 33) rfl rfl (p_add h2499 k_1) (fun S2500 M2500 hS2500 hM2500 => ?_)
  refine qs_gr hS2500 pl_2184 ts_2184 rfl ?_
  refine qs_gi hS2500 hM2500 pl_2184 ts_2184 (z := 34) rfl rfl (fun v2502 h2502 => ?_)
  refine qs_gd (fun g2504 => ?_)
  refine qs_si hS2500 hM2500 (pa_p hS2500 pl_2192 ts_2192) (p_add k_60 h2498) g2504 h2502 (fun S2503 M2503 hS2503 hM2503 => ?_)
  refine qs_zi hS2503 pl_2184 ts_2184 ?_
  refine qs_b (qz_X15_side hS2503 hM2503 ) (fun v2506 S2506 w2506 M2506 h2506 hS2506 hM2506 => ?_)
  refine qs_gr hS2506 pl_2184 ts_2184 rfl ?_
  refine qs_gi hS2506 hM2506 pl_2184 ts_2184 (z := 34) rfl rfl (fun v2508 h2508 => ?_)
  refine qs_gd (fun g2510 => ?_)
  refine qs_si hS2506 hM2506 (pa_p hS2506 pl_2193 ts_2193) (p_add k_60 h2498) g2510 h2508 (fun S2509 M2509 hS2509 hM2509 => ?_)
  refine qs_gr hS2509 pl_2184 ts_2184 rfl ?_
  refine qs_gi hS2509 hM2509 pl_2184 ts_2184 (z := 28) rfl rfl (fun v2512 h2512 => ?_)
  refine qs_bp (qz_X15_relation hS2509 hM2509 h2512) (fun v2513 S2513 w2513 h2513 hS2513 hM2513 => ?_)
  refine qs_gd (fun g2515 => ?_)
  refine qs_si hS2513 hM2513 (pa_p hS2513 pl_2195 ts_2195) (p_add k_60 h2498) g2515 h2513 (fun S2514 M2514 hS2514 hM2514 => ?_)
  refine qs_gi hS2514 hM2514 pl_2184 ts_2184 (z := 31) rfl rfl (fun v2516 h2516 => ?_)
  refine qs_ite (c_eq h2516 k_0) ?_ ?_
  · refine qs_gi hS2514 hM2514 pl_2184 ts_2184 (z := 28) rfl rfl (fun v2517 h2517 => ?_)
    refine qs_bp (qz_X15_relation hS2514 hM2514 h2517) (fun v2518 S2518 w2518 h2518 hS2518 hM2518 => ?_)
    refine qs_ite (c_lt h2518 k_0) ?_ ?_
    · exact (qz_X15_clause_J77 hS2518 hM2518 (p_add k_60 h2498))
    · exact (qz_X15_clause_J78 hS2518 hM2518 (p_add k_60 h2498) k_1)
  · exact (qz_X15_clause_J77 hS2514 hM2514 (p_add k_60 h2498))
set_option maxRecDepth 20000 in
theorem qz_X15_rule_L138_b (n : Nat) {P : Nat → Nat} {S : zm_S} {M : qm} {i1 : Int32} {qi1 : Int} (hS : Sh L xs P S) (hM : qM P S = M) (ei1 : i1.toInt = qi1) : qs (zf_X15_rule_L138 20000 (n + 1) 2184 i1 S) (qf_X15_rule_L138_b 20000 qi1 M) (tk (vs (rr L xs P vu) (rr L xs P vu)) (qc_X15_rule_L138 L xs P (zf_X15_rule_L138 20000 n))) := by
  refine qs_eq (zf_X15_rule_L138.eq_2 ..) ?_
  unfold qf_X15_rule_L138_b
  refine qs_gi hS hM pl_2184 ts_2184 (z := 31) rfl rfl (fun v2519 h2519 => ?_)
  refine qs_ite (c_eq h2519 k_0) ?_ ?_
  · refine qs_gi hS hM pl_2184 ts_2184 (z := 28) rfl rfl (fun v2520 h2520 => ?_)
    refine qs_ite (c_eq h2520 k_33) ?_ ?_
    · refine qs_zi hS pl_2184 ts_2184 ?_
      refine qs_b (qz_X15_take hS hM k_1) (fun v2522 S2522 w2522 M2522 h2522 hS2522 hM2522 => ?_)
      refine qs_gi hS2522 hM2522 pl_2184 ts_2184 (z := 31) rfl rfl (fun v2523 h2523 => ?_)
      refine qs_ite (c_eq h2523 k_0) ?_ ?_
      · refine qs_gr hS2522 pl_2184 ts_2184 rfl ?_
        refine qs_gd (fun g2526 => ?_)
        refine qs_xi hM2522 (pa_p hS2522 pl_2190 ts_2190) ei1 g2526 (fun v2525 h2525 => ?_)
        refine qs_gd (fun g2528 => ?_)
        refine qs_si hS2522 hM2522 (pa_p hS2522 pl_2190 ts_2190) ei1 g2528 (p_add h2525 k_1) (fun S2527 M2527 hS2527 hM2527 => ?_)
        refine qs_zi hS2527 pl_2184 ts_2184 ?_
        refine qs_b (qz_X15_clause hS2527 hM2527 ) (fun v2530 S2530 w2530 M2530 h2530 hS2530 hM2530 => ?_)
        exact qs_tk ⟨_, _, rfl, ei1, hS2530, hM2530⟩
      · exact qs_tk ⟨_, _, rfl, ei1, hS2522, hM2522⟩
    · exact qs_tr2 (show vu _ _ from trivial) hS hM
  · exact qs_tr2 (show vu _ _ from trivial) hS hM
theorem qz_X15_rule_L138 (n : Nat) : ∀ {P : Nat → Nat} {S : zm_S} {M : qm} {i1 : Int32} {qi1 : Int} (hS : Sh L xs P S) (hM : qM P S = M) (ei1 : i1.toInt = qi1), qs (zf_X15_rule_L138 20000 n 2184 i1 S) (qf_X15_rule_L138 20000 n qi1 M) (tO (vs (rr L xs P vu) (rr L xs P vu))) := by
  induction n with
  | zero =>
    intros
    exact qs_none
  | succ n ih =>
    intro P S M i1 qi1 hS hM ei1
    unfold qf_X15_rule_L138
    refine qs_loop (C := (qc_X15_rule_L138 L xs P (zf_X15_rule_L138 20000 n))) (qz_X15_rule_L138_b n hS hM ei1) ?_
    rintro x s ⟨_, _, rfl, u0, hS2, hM2⟩
    exact ih hS2 hM2 u0
set_option maxRecDepth 20000 in
theorem qz_X15_rule_J183 {P : Nat → Nat} {S : zm_S} {M : qm} {i1 : Int32} {qi1 : Int} (hS : Sh L xs P S) (hM : qM P S = M) (ei1 : i1.toInt = qi1) : qs (zf_X15_rule_J183 20000 2184 i1 S) (qf_X15_rule_J183 20000 qi1 M) (tO (rr L xs P vu)) := by
  unfold zf_X15_rule_J183 qf_X15_rule_J183
  refine qs_gi hS hM pl_2184 ts_2184 (z := 31) rfl rfl (fun v2531 h2531 => ?_)
  refine qs_ite (c_eq h2531 k_0) ?_ ?_
  · refine qs_gi hS hM pl_2184 ts_2184 (z := 28) rfl rfl (fun v2532 h2532 => ?_)
    refine qs_ite (c_eq h2532 k_64) ?_ ?_
    · refine qs_zi hS pl_2184 ts_2184 ?_
      refine qs_b (qz_X15_take hS hM k_1) (fun v2534 S2534 w2534 M2534 h2534 hS2534 hM2534 => ?_)
      refine qs_gr hS2534 pl_2184 ts_2184 rfl ?_
      refine qs_gl hS2534 hM2534 pl_2184 ts_2184 (z := 29) rfl rfl (fun v2536 h2536 => ?_)
      refine qs_gd (fun g2538 => ?_)
      refine qs_si hS2534 hM2534 (pa_p hS2534 pl_2191 ts_2191) ei1 g2538 (p_32 h2536) (fun S2537 M2537 hS2537 hM2537 => ?_)
      refine qs_gi hS2537 hM2537 pl_2184 ts_2184 (z := 28) rfl rfl (fun v2539 h2539 => ?_)
      refine qs_ite (c_eq h2539 k_1) ?_ ?_
      · refine qs_zi hS2537 pl_2184 ts_2184 ?_
        refine qs_b (qz_X15_take hS2537 hM2537 k_1) (fun v2541 S2541 w2541 M2541 h2541 hS2541 hM2541 => ?_)
        exact qs_tr (show vu _ _ from trivial) hS2541 hM2541
      · refine qs_zi hS2537 pl_2184 ts_2184 ?_
        refine qs_b (qz_X15_take hS2537 hM2537 k_0) (fun v2543 S2543 w2543 M2543 h2543 hS2543 hM2543 => ?_)
        exact qs_tr (show vu _ _ from trivial) hS2543 hM2543
    · exact qs_tr (show vu _ _ from trivial) hS hM
  · exact qs_tr (show vu _ _ from trivial) hS hM
set_option maxRecDepth 20000 in
theorem qz_X15_rule_J124 {P : Nat → Nat} {S : zm_S} {M : qm} {i1 : Int32} {qi1 : Int} {t1 : Int32} {qt1 : Int} (hS : Sh L xs P S) (hM : qM P S = M) (ei1 : i1.toInt = qi1) (et1 : t1.toInt = qt1) : qs (zf_X15_rule_J124 20000 2184 i1 2184 t1 S) (qf_X15_rule_J124 20000 qi1 qt1 M) (tO (rr L xs P vu)) := by
  unfold zf_X15_rule_J124 qf_X15_rule_J124
  refine qs_zi hS pl_2184 ts_2184 ?_
  refine qs_b (qz_X15_take hS hM et1) (fun v2545 S2545 w2545 M2545 h2545 hS2545 hM2545 => ?_)
  refine qs_gi hS2545 hM2545 pl_2184 ts_2184 (z := 31) rfl rfl (fun v2546 h2546 => ?_)
  refine qs_ite (c_eq h2546 k_0) ?_ ?_
  · refine qs_zi hS2545 pl_2184 ts_2184 ?_
    refine qs_b (qz_X15_clause hS2545 hM2545 ) (fun v2548 S2548 w2548 M2548 h2548 hS2548 hM2548 => ?_)
    refine qs_lr (qz_X15_rule_L138 20000 hS2548 hM2548 ei1) ?_ ?_
    · intro v2550 S2550 w2550 M2550 h2550 hS2550 hM2550
      dsimp only
      exact qs_tr h2550 hS2550 hM2550
    · intro v2550 S2550 w2550 M2550 h2550 hS2550 hM2550
      dsimp only
      exact (qz_X15_rule_J183 hS2550 hM2550 ei1)
  · refine qs_lr (qz_X15_rule_L138 20000 hS2545 hM2545 ei1) ?_ ?_
    · intro v2552 S2552 w2552 M2552 h2552 hS2552 hM2552
      dsimp only
      exact qs_tr h2552 hS2552 hM2552
    · intro v2552 S2552 w2552 M2552 h2552 hS2552 hM2552
      dsimp only
      exact (qz_X15_rule_J183 hS2552 hM2552 ei1)
set_option maxRecDepth 20000 in
theorem qz_X15_rule_J41 {P : Nat → Nat} {S : zm_S} {M : qm} {t1 : Int32} {qt1 : Int} (hS : Sh L xs P S) (hM : qM P S = M) (et1 : t1.toInt = qt1) : qs (zf_X15_rule_J41 20000 2184 2184 t1 S) (qf_X15_rule_J41 20000 qt1 M) (tO (rr L xs P vu)) := by
  unfold zf_X15_rule_J41 qf_X15_rule_J41
  refine qs_gd (fun g2554 => ?_)
  refine qs_pz hS hM pl_2184 ts_2184 (z := 31) rfl rfl et1 g2554 (fun S2553 M2553 hS2553 hM2553 => ?_)
  refine qs_gi hS2553 hM2553 pl_2184 ts_2184 (z := 31) rfl rfl (fun v2555 h2555 => ?_)
  refine qs_ite (c_eq h2555 k_0) ?_ ?_
  · refine qs_gi hS2553 hM2553 pl_2184 ts_2184 (z := 32) rfl rfl (fun v2556 h2556 => ?_)
    refine qs_gi hS2553 hM2553 pl_2184 ts_2184 (z := 32) rfl rfl (fun v2557 h2557 => ?_)
    refine qs_pi hS2553 hM2553 pl_2184 ts_2184 (z := 32) rfl rfl (p_add h2557 k_1) (fun S2558 M2558 hS2558 hM2558 => ?_)
    refine qs_gr hS2558 pl_2184 ts_2184 rfl ?_
    refine qs_gl hS2558 hM2558 pl_2184 ts_2184 (z := 29) rfl rfl (fun v2560 h2560 => ?_)
    refine qs_gd (fun g2562 => ?_)
    refine qs_sl hS2558 hM2558 (pa_p hS2558 pl_2188 ts_2188) (p_add k_12 h2556) g2562 h2560 (fun S2561 M2561 hS2561 hM2561 => ?_)
    refine qs_gr hS2561 pl_2184 ts_2184 rfl ?_
    refine qs_gi hS2561 hM2561 pl_2184 ts_2184 (z := 33) rfl rfl (fun v2564 h2564 => ?_)
    refine qs_gd (fun g2566 => ?_)
    refine qs_si hS2561 hM2561 (pa_p hS2561 pl_2189 ts_2189) (p_add k_12 h2556) g2566 h2564 (fun S2565 M2565 hS2565 hM2565 => ?_)
    refine qs_gr hS2565 pl_2184 ts_2184 rfl ?_
    refine qs_gd (fun g2569 => ?_)
    refine qs_si hS2565 hM2565 (pa_p hS2565 pl_2190 ts_2190) (p_add k_12 h2556) g2569 k_0 (fun S2568 M2568 hS2568 hM2568 => ?_)
    refine qs_gr hS2568 pl_2184 ts_2184 rfl ?_
    refine qs_gd (fun g2572 => ?_)
    refine qs_si hS2568 hM2568 (pa_p hS2568 pl_2191 ts_2191) (p_add k_12 h2556) g2572 k_0 (fun S2571 M2571 hS2571 hM2571 => ?_)
    refine qs_zi hS2571 pl_2184 ts_2184 ?_
    refine qs_b (qz_X15_take hS2571 hM2571 k_1) (fun v2574 S2574 w2574 M2574 h2574 hS2574 hM2574 => ?_)
    refine qs_gi hS2574 hM2574 pl_2184 ts_2184 (z := 28) rfl rfl (fun v2575 h2575 => ?_)
    refine qs_ite (c_eq h2575 k_58) ?_ ?_
    · exact (qz_X15_rule_J124 hS2574 hM2574 (p_add k_12 h2556) k_1)
    · exact (qz_X15_rule_J124 hS2574 hM2574 (p_add k_12 h2556) k_0)
  · exact qs_tr (show vu _ _ from trivial) hS2553 hM2553
set_option maxRecDepth 20000 in
theorem qz_X15_rule_J36 {P : Nat → Nat} {S : zm_S} {M : qm}  (hS : Sh L xs P S) (hM : qM P S = M)  : qs (zf_X15_rule_J36 20000 2184 2184 S) (qf_X15_rule_J36 20000 M) (tO (rr L xs P vu)) := by
  unfold zf_X15_rule_J36 qf_X15_rule_J36
  exact (qz_X15_rule_J41 hS hM k_1)
set_option maxRecDepth 20000 in
theorem qz_X15_isNew_J37 {P : Nat → Nat} {S : zm_S} {M : qm} {j1 : Int64} {qj1 : Int} {i4 : Int32} {qi4 : Int} (hS : Sh L xs P S) (hM : qM P S = M) (ej1 : j1.toInt = qj1) (ei4 : i4.toInt = qi4) {k : Nat → Int64 → Int32 → Int32 → zm_S → Option ((Int32 × zm_S) ⊕ ((Int32) × zm_S))} : qs (zf_X15_isNew_J37 20000 k 2184 j1 i4 S) (qf_X15_isNew_J37 20000 qj1 qi4 M) (tk (vs (rp L xs P M vi) (rp L xs P M vi)) (qc_X15_isNew_L5 L xs P M k)) := by
  unfold zf_X15_isNew_J37 qf_X15_isNew_J37
  exact qs_tk ⟨_, _, _, _, rfl, ej1, k_0, (p_add ei4 k_1), hS, hM⟩
set_option maxRecDepth 20000 in
theorem qz_X15_isNew_L5_b (n : Nat) {P : Nat → Nat} {S : zm_S} {M : qm} {j1 : Int64} {qj1 : Int} {i3 : Int32} {qi3 : Int} {i4 : Int32} {qi4 : Int} (hS : Sh L xs P S) (hM : qM P S = M) (ej1 : j1.toInt = qj1) (ei3 : i3.toInt = qi3) (ei4 : i4.toInt = qi4) : qs (zf_X15_isNew_L5 20000 (n + 1) 2184 j1 i3 i4 S) (qf_X15_isNew_L5_b 20000 qj1 qi3 qi4 M) (tk (vs (rp L xs P M vi) (rp L xs P M vi)) (qc_X15_isNew_L5 L xs P M (zf_X15_isNew_L5 20000 n))) := by
  refine qs_eq (zf_X15_isNew_L5.eq_2 ..) ?_
  unfold qf_X15_isNew_L5_b
  refine qs_gi hS hM pl_2184 ts_2184 (z := 32) rfl rfl (fun v2576 h2576 => ?_)
  refine qs_ite (c_le h2576 ei4) ?_ ?_
  · exact qs_tp2 (show vi _ _ from ei3) hS hM
  · refine qs_ite (c_eq ei3 k_0) ?_ ?_
    · exact (qz_X15_isNew_J37 hS hM ej1 ei4)
    · refine qs_gr hS pl_2184 ts_2184 rfl ?_
      refine qs_gd (fun g2579 => ?_)
      refine qs_xl hM (pa_p hS pl_2188 ts_2188) (p_add k_12 ei4) g2579 (fun v2578 h2578 => ?_)
      refine qs_ite (g_eq h2578 ej1) ?_ ?_
      · exact (qz_X15_isNew_J37 hS hM ej1 ei4)
      · exact qs_tk ⟨_, _, _, _, rfl, ej1, k_1, (p_add ei4 k_1), hS, hM⟩
theorem qz_X15_isNew_L5 (n : Nat) : ∀ {P : Nat → Nat} {S : zm_S} {M : qm} {j1 : Int64} {qj1 : Int} {i3 : Int32} {qi3 : Int} {i4 : Int32} {qi4 : Int} (hS : Sh L xs P S) (hM : qM P S = M) (ej1 : j1.toInt = qj1) (ei3 : i3.toInt = qi3) (ei4 : i4.toInt = qi4), qs (zf_X15_isNew_L5 20000 n 2184 j1 i3 i4 S) (qf_X15_isNew_L5 20000 n qj1 qi3 qi4 M) (tO (vs (rp L xs P M vi) (rp L xs P M vi))) := by
  induction n with
  | zero =>
    intros
    exact qs_none
  | succ n ih =>
    intro P S M j1 qj1 i3 qi3 i4 qi4 hS hM ej1 ei3 ei4
    unfold qf_X15_isNew_L5
    refine qs_loop (C := (qc_X15_isNew_L5 L xs P M (zf_X15_isNew_L5 20000 n))) (qz_X15_isNew_L5_b n hS hM ej1 ei3 ei4) ?_
    rintro x s ⟨_, _, _, _, rfl, u0, u1, u2, hS2, hM2⟩
    exact ih hS2 hM2 u0 u1 u2
set_option maxRecDepth 20000 in
theorem qz_X15_isNew {P : Nat → Nat} {S : zm_S} {M : qm} {j1 : Int64} {qj1 : Int} (hS : Sh L xs P S) (hM : qM P S = M) (ej1 : j1.toInt = qj1) : qs (zf_X15_isNew 20000 2184 j1 S) (qf_X15_isNew 20000 qj1 M) (tO (rp L xs P M vi)) := by
  unfold zf_X15_isNew qf_X15_isNew
  refine qs_lp (qz_X15_isNew_L5 20000 hS hM ej1 k_1 k_0) ?_ ?_
  · intro v2581 S2581 w2581 h2581 hS2581 hM2581
    dsimp only
    exact qs_tp h2581 hS2581 hM2581
  · intro v2581 S2581 w2581 h2581 hS2581 hM2581
    dsimp only
    refine qs_ite (or_congr (c_eq h2581 k_0) (c_eq h2581 k_1)) ?_ ?_
    · exact qs_tp (show vi _ _ from h2581) hS2581 hM2581
    · exact qs_none
set_option maxRecDepth 20000 in
theorem qz_X15_rule {P : Nat → Nat} {S : zm_S} {M : qm}  (hS : Sh L xs P S) (hM : qM P S = M)  : qs (zf_X15_rule 20000 2184 S) (qf_X15_rule 20000 M) (tO (rr L xs P vu)) := by
  unfold zf_X15_rule qf_X15_rule
  refine qs_gi hS hM pl_2184 ts_2184 (z := 31) rfl rfl (fun v2582 h2582 => ?_)
  refine qs_ite (c_eq h2582 k_0) ?_ ?_
  · refine qs_gi hS hM pl_2184 ts_2184 (z := 28) rfl rfl (fun v2583 h2583 => ?_)
    refine qs_ite (c_eq h2583 k_2) ?_ ?_
    · refine qs_gi hS hM pl_2184 ts_2184 (z := 32) rfl rfl (fun v2584 h2584 => ?_)
      refine qs_ite (c_eq h2584 k_12) ?_ ?_
      · exact (qz_X15_rule_J36 hS hM )
      · refine qs_gl hS hM pl_2184 ts_2184 (z := 29) rfl rfl (fun v2585 h2585 => ?_)
        refine qs_zi hS pl_2184 ts_2184 ?_
        refine qs_bp (qz_X15_isNew hS hM h2585) (fun v2587 S2587 w2587 h2587 hS2587 hM2587 => ?_)
        refine qs_ite (c_eq h2587 k_0) ?_ ?_
        · exact (qz_X15_rule_J36 hS2587 hM2587 )
        · exact (qz_X15_rule_J41 hS2587 hM2587 k_0)
    · exact (qz_X15_rule_J36 hS hM )
  · exact (qz_X15_rule_J36 hS hM )
set_option maxRecDepth 20000 in
theorem qz_X15_read_J67 {P : Nat → Nat} {S : zm_S} {M : qm} {t1 : Int32} {qt1 : Int} (hS : Sh L xs P S) (hM : qM P S = M) (et1 : t1.toInt = qt1) {k : Nat → zm_S → Option ((Int32 × zm_S) ⊕ ((Unit) × zm_S))} : qs (zf_X15_read_J67 20000 k 2184 2184 t1 S) (qf_X15_read_J67 20000 qt1 M) (tk (vs (rr L xs P vi) (rr L xs P vu)) (qc_X15_read_L38 L xs P k)) := by
  unfold zf_X15_read_J67 qf_X15_read_J67
  refine qs_zi hS pl_2184 ts_2184 ?_
  refine qs_b (qz_X15_take hS hM et1) (fun v2589 S2589 w2589 M2589 h2589 hS2589 hM2589 => ?_)
  refine qs_gi hS2589 hM2589 pl_2184 ts_2184 (z := 31) rfl rfl (fun v2590 h2590 => ?_)
  refine qs_ite (c_eq h2590 k_0) ?_ ?_
  · refine qs_gi hS2589 hM2589 pl_2184 ts_2184 (z := 28) rfl rfl (fun v2591 h2591 => ?_)
    refine qs_ite (c_eq h2591 k_0) ?_ ?_
    · exact qs_tk ⟨_, rfl, hS2589, hM2589⟩
    · refine qs_zi hS2589 pl_2184 ts_2184 ?_
      refine qs_b (qz_X15_rule hS2589 hM2589 ) (fun v2593 S2593 w2593 M2593 h2593 hS2593 hM2593 => ?_)
      exact qs_tk ⟨_, rfl, hS2593, hM2593⟩
  · exact qs_tk ⟨_, rfl, hS2589, hM2589⟩
set_option maxRecDepth 20000 in
theorem qz_X15_read_L38_b (n : Nat) {P : Nat → Nat} {S : zm_S} {M : qm}  (hS : Sh L xs P S) (hM : qM P S = M)  : qs (zf_X15_read_L38 20000 (n + 1) 2184 S) (qf_X15_read_L38_b 20000 M) (tk (vs (rr L xs P vi) (rr L xs P vu)) (qc_X15_read_L38 L xs P (zf_X15_read_L38 20000 n))) := by
  refine qs_eq (zf_X15_read_L38.eq_2 ..) ?_
  unfold qf_X15_read_L38_b
  refine qs_gi hS hM pl_2184 ts_2184 (z := 31) rfl rfl (fun v2594 h2594 => ?_)
  refine qs_ite (c_eq h2594 k_0) ?_ ?_
  · refine qs_gi hS hM pl_2184 ts_2184 (z := 28) rfl rfl (fun v2595 h2595 => ?_)
    refine qs_ite (c_eq h2595 k_0) ?_ ?_
    · exact qs_tr2 (show vu _ _ from trivial) hS hM
    · refine qs_gi hS hM pl_2184 ts_2184 (z := 28) rfl rfl (fun v2596 h2596 => ?_)
      refine qs_ite (c_eq h2596 k_59) ?_ ?_
      · exact (qz_X15_read_J67 hS hM k_1)
      · exact (qz_X15_read_J67 hS hM k_0)
  · exact qs_tr2 (show vu _ _ from trivial) hS hM
theorem qz_X15_read_L38 (n : Nat) : ∀ {P : Nat → Nat} {S : zm_S} {M : qm}  (hS : Sh L xs P S) (hM : qM P S = M) , qs (zf_X15_read_L38 20000 n 2184 S) (qf_X15_read_L38 20000 n M) (tO (vs (rr L xs P vi) (rr L xs P vu))) := by
  induction n with
  | zero =>
    intros
    exact qs_none
  | succ n ih =>
    intro P S M hS hM
    unfold qf_X15_read_L38
    refine qs_loop (C := (qc_X15_read_L38 L xs P (zf_X15_read_L38 20000 n))) (qz_X15_read_L38_b n hS hM ) ?_
    rintro x s ⟨_, rfl, hS2, hM2⟩
    exact ih hS2 hM2 
set_option maxRecDepth 20000 in
theorem qz_X15_adopt_L26_b (n : Nat) {P : Nat → Nat} {S : zm_S} {M : qm} {i1 : Int32} {qi1 : Int} (hS : Sh L xs P S) (hM : qM P S = M) (ei1 : i1.toInt = qi1) : qs (zf_X15_adopt_L26 20000 (n + 1) 2184 i1 S) (qf_X15_adopt_L26_b 20000 qi1 M) (tk (vs (rr L xs P vu) (rr L xs P vu)) (qc_X15_adopt_L26 L xs P (zf_X15_adopt_L26 20000 n))) := by
  refine qs_eq (zf_X15_adopt_L26.eq_2 ..) ?_
  unfold qf_X15_adopt_L26_b
  refine qs_gi hS hM pl_2184 ts_2184 (z := 5) rfl rfl (fun v2597 h2597 => ?_)
  refine qs_ite (c_le h2597 ei1) ?_ ?_
  · exact qs_tr2 (show vu _ _ from trivial) hS hM
  · refine qs_gr hS pl_2184 ts_2184 rfl ?_
    refine qs_gr hS pl_2184 ts_2184 rfl ?_
    refine qs_gd (fun g2601 => ?_)
    refine qs_xl hM (pa_p hS pl_2188 ts_2188) (p_add k_12 ei1) g2601 (fun v2600 h2600 => ?_)
    refine qs_gd (fun g2603 => ?_)
    refine qs_sl hS hM (pa_p hS pl_2188 ts_2188) ei1 g2603 h2600 (fun S2602 M2602 hS2602 hM2602 => ?_)
    refine qs_gr hS2602 pl_2184 ts_2184 rfl ?_
    refine qs_gr hS2602 pl_2184 ts_2184 rfl ?_
    refine qs_gd (fun g2607 => ?_)
    refine qs_xi hM2602 (pa_p hS2602 pl_2189 ts_2189) (p_add k_12 ei1) g2607 (fun v2606 h2606 => ?_)
    refine qs_gd (fun g2609 => ?_)
    refine qs_si hS2602 hM2602 (pa_p hS2602 pl_2189 ts_2189) ei1 g2609 h2606 (fun S2608 M2608 hS2608 hM2608 => ?_)
    refine qs_gr hS2608 pl_2184 ts_2184 rfl ?_
    refine qs_gr hS2608 pl_2184 ts_2184 rfl ?_
    refine qs_gd (fun g2613 => ?_)
    refine qs_xi hM2608 (pa_p hS2608 pl_2190 ts_2190) (p_add k_12 ei1) g2613 (fun v2612 h2612 => ?_)
    refine qs_gd (fun g2615 => ?_)
    refine qs_si hS2608 hM2608 (pa_p hS2608 pl_2190 ts_2190) ei1 g2615 h2612 (fun S2614 M2614 hS2614 hM2614 => ?_)
    refine qs_gr hS2614 pl_2184 ts_2184 rfl ?_
    refine qs_gr hS2614 pl_2184 ts_2184 rfl ?_
    refine qs_gd (fun g2619 => ?_)
    refine qs_xi hM2614 (pa_p hS2614 pl_2191 ts_2191) (p_add k_12 ei1) g2619 (fun v2618 h2618 => ?_)
    refine qs_gd (fun g2621 => ?_)
    refine qs_si hS2614 hM2614 (pa_p hS2614 pl_2191 ts_2191) ei1 g2621 h2618 (fun S2620 M2620 hS2620 hM2620 => ?_)
    exact qs_tk ⟨_, _, rfl, (p_add ei1 k_1), hS2620, hM2620⟩
theorem qz_X15_adopt_L26 (n : Nat) : ∀ {P : Nat → Nat} {S : zm_S} {M : qm} {i1 : Int32} {qi1 : Int} (hS : Sh L xs P S) (hM : qM P S = M) (ei1 : i1.toInt = qi1), qs (zf_X15_adopt_L26 20000 n 2184 i1 S) (qf_X15_adopt_L26 20000 n qi1 M) (tO (vs (rr L xs P vu) (rr L xs P vu))) := by
  induction n with
  | zero =>
    intros
    exact qs_none
  | succ n ih =>
    intro P S M i1 qi1 hS hM ei1
    unfold qf_X15_adopt_L26
    refine qs_loop (C := (qc_X15_adopt_L26 L xs P (zf_X15_adopt_L26 20000 n))) (qz_X15_adopt_L26_b n hS hM ei1) ?_
    rintro x s ⟨_, _, rfl, u0, hS2, hM2⟩
    exact ih hS2 hM2 u0
set_option maxRecDepth 20000 in
theorem qz_X15_adopt_L102_b (n : Nat) {P : Nat → Nat} {S : zm_S} {M : qm} {i1 : Int32} {qi1 : Int} (hS : Sh L xs P S) (hM : qM P S = M) (ei1 : i1.toInt = qi1) : qs (zf_X15_adopt_L102 20000 (n + 1) 2184 i1 S) (qf_X15_adopt_L102_b 20000 qi1 M) (tk (vs (rr L xs P vu) (rr L xs P vu)) (qc_X15_adopt_L102 L xs P (zf_X15_adopt_L102 20000 n))) := by
  refine qs_eq (zf_X15_adopt_L102.eq_2 ..) ?_
  unfold qf_X15_adopt_L102_b
  refine qs_gi hS hM pl_2184 ts_2184 (z := 10) rfl rfl (fun v2622 h2622 => ?_)
  refine qs_ite (c_le h2622 ei1) ?_ ?_
  · exact qs_tr2 (show vu _ _ from trivial) hS hM
  · refine qs_gr hS pl_2184 ts_2184 rfl ?_
    refine qs_gr hS pl_2184 ts_2184 rfl ?_
    refine qs_gd (fun g2626 => ?_)
    refine qs_xi hM (pa_p hS pl_2192 ts_2192) (p_add k_60 ei1) g2626 (fun v2625 h2625 => ?_)
    refine qs_gd (fun g2628 => ?_)
    refine qs_si hS hM (pa_p hS pl_2192 ts_2192) ei1 g2628 h2625 (fun S2627 M2627 hS2627 hM2627 => ?_)
    refine qs_gr hS2627 pl_2184 ts_2184 rfl ?_
    refine qs_gr hS2627 pl_2184 ts_2184 rfl ?_
    refine qs_gd (fun g2632 => ?_)
    refine qs_xi hM2627 (pa_p hS2627 pl_2193 ts_2193) (p_add k_60 ei1) g2632 (fun v2631 h2631 => ?_)
    refine qs_gd (fun g2634 => ?_)
    refine qs_si hS2627 hM2627 (pa_p hS2627 pl_2193 ts_2193) ei1 g2634 h2631 (fun S2633 M2633 hS2633 hM2633 => ?_)
    refine qs_gr hS2633 pl_2184 ts_2184 rfl ?_
    refine qs_gr hS2633 pl_2184 ts_2184 rfl ?_
    refine qs_gd (fun g2638 => ?_)
    refine qs_xi hM2633 (pa_p hS2633 pl_2194 ts_2194) (p_add k_60 ei1) g2638 (fun v2637 h2637 => ?_)
    refine qs_gd (fun g2640 => ?_)
    refine qs_si hS2633 hM2633 (pa_p hS2633 pl_2194 ts_2194) ei1 g2640 h2637 (fun S2639 M2639 hS2639 hM2639 => ?_)
    refine qs_gr hS2639 pl_2184 ts_2184 rfl ?_
    refine qs_gr hS2639 pl_2184 ts_2184 rfl ?_
    refine qs_gd (fun g2644 => ?_)
    refine qs_xi hM2639 (pa_p hS2639 pl_2195 ts_2195) (p_add k_60 ei1) g2644 (fun v2643 h2643 => ?_)
    refine qs_gd (fun g2646 => ?_)
    refine qs_si hS2639 hM2639 (pa_p hS2639 pl_2195 ts_2195) ei1 g2646 h2643 (fun S2645 M2645 hS2645 hM2645 => ?_)
    exact qs_tk ⟨_, _, rfl, (p_add ei1 k_1), hS2645, hM2645⟩
theorem qz_X15_adopt_L102 (n : Nat) : ∀ {P : Nat → Nat} {S : zm_S} {M : qm} {i1 : Int32} {qi1 : Int} (hS : Sh L xs P S) (hM : qM P S = M) (ei1 : i1.toInt = qi1), qs (zf_X15_adopt_L102 20000 n 2184 i1 S) (qf_X15_adopt_L102 20000 n qi1 M) (tO (vs (rr L xs P vu) (rr L xs P vu))) := by
  induction n with
  | zero =>
    intros
    exact qs_none
  | succ n ih =>
    intro P S M i1 qi1 hS hM ei1
    unfold qf_X15_adopt_L102
    refine qs_loop (C := (qc_X15_adopt_L102 L xs P (zf_X15_adopt_L102 20000 n))) (qz_X15_adopt_L102_b n hS hM ei1) ?_
    rintro x s ⟨_, _, rfl, u0, hS2, hM2⟩
    exact ih hS2 hM2 u0
set_option maxRecDepth 20000 in
theorem qz_X15_adopt_L178_b (n : Nat) {P : Nat → Nat} {S : zm_S} {M : qm} {i1 : Int32} {qi1 : Int} (hS : Sh L xs P S) (hM : qM P S = M) (ei1 : i1.toInt = qi1) : qs (zf_X15_adopt_L178 20000 (n + 1) 2184 i1 S) (qf_X15_adopt_L178_b 20000 qi1 M) (tk (vs (rr L xs P vu) (rr L xs P vu)) (qc_X15_adopt_L178 L xs P (zf_X15_adopt_L178 20000 n))) := by
  refine qs_eq (zf_X15_adopt_L178.eq_2 ..) ?_
  unfold qf_X15_adopt_L178_b
  refine qs_gi hS hM pl_2184 ts_2184 (z := 15) rfl rfl (fun v2647 h2647 => ?_)
  refine qs_ite (c_le h2647 ei1) ?_ ?_
  · exact qs_tr2 (show vu _ _ from trivial) hS hM
  · refine qs_gr hS pl_2184 ts_2184 rfl ?_
    refine qs_gr hS pl_2184 ts_2184 rfl ?_
    refine qs_gd (fun g2651 => ?_)
    refine qs_xi hM (pa_p hS pl_2196 ts_2196) (p_add k_400 ei1) g2651 (fun v2650 h2650 => ?_)
    refine qs_gd (fun g2653 => ?_)
    refine qs_si hS hM (pa_p hS pl_2196 ts_2196) ei1 g2653 h2650 (fun S2652 M2652 hS2652 hM2652 => ?_)
    refine qs_gr hS2652 pl_2184 ts_2184 rfl ?_
    refine qs_gr hS2652 pl_2184 ts_2184 rfl ?_
    refine qs_gd (fun g2657 => ?_)
    refine qs_xl hM2652 (pa_p hS2652 pl_2197 ts_2197) (p_add k_400 ei1) g2657 (fun v2656 h2656 => ?_)
    refine qs_gd (fun g2659 => ?_)
    refine qs_sl hS2652 hM2652 (pa_p hS2652 pl_2197 ts_2197) ei1 g2659 h2656 (fun S2658 M2658 hS2658 hM2658 => ?_)
    exact qs_tk ⟨_, _, rfl, (p_add ei1 k_1), hS2658, hM2658⟩
theorem qz_X15_adopt_L178 (n : Nat) : ∀ {P : Nat → Nat} {S : zm_S} {M : qm} {i1 : Int32} {qi1 : Int} (hS : Sh L xs P S) (hM : qM P S = M) (ei1 : i1.toInt = qi1), qs (zf_X15_adopt_L178 20000 n 2184 i1 S) (qf_X15_adopt_L178 20000 n qi1 M) (tO (vs (rr L xs P vu) (rr L xs P vu))) := by
  induction n with
  | zero =>
    intros
    exact qs_none
  | succ n ih =>
    intro P S M i1 qi1 hS hM ei1
    unfold qf_X15_adopt_L178
    refine qs_loop (C := (qc_X15_adopt_L178 L xs P (zf_X15_adopt_L178 20000 n))) (qz_X15_adopt_L178_b n hS hM ei1) ?_
    rintro x s ⟨_, _, rfl, u0, hS2, hM2⟩
    exact ih hS2 hM2 u0
set_option maxRecDepth 20000 in
theorem qz_X15_adopt {P : Nat → Nat} {S : zm_S} {M : qm}  (hS : Sh L xs P S) (hM : qM P S = M)  : qs (zf_X15_adopt 20000 2184 S) (qf_X15_adopt 20000 M) (tO (rr L xs P vu)) := by
  unfold zf_X15_adopt qf_X15_adopt
  refine qs_gi hS hM pl_2184 ts_2184 (z := 32) rfl rfl (fun v2660 h2660 => ?_)
  refine qs_pi hS hM pl_2184 ts_2184 (z := 5) rfl rfl h2660 (fun S2661 M2661 hS2661 hM2661 => ?_)
  refine qs_gi hS2661 hM2661 pl_2184 ts_2184 (z := 33) rfl rfl (fun v2662 h2662 => ?_)
  refine qs_pi hS2661 hM2661 pl_2184 ts_2184 (z := 10) rfl rfl h2662 (fun S2663 M2663 hS2663 hM2663 => ?_)
  refine qs_gi hS2663 hM2663 pl_2184 ts_2184 (z := 34) rfl rfl (fun v2664 h2664 => ?_)
  refine qs_pi hS2663 hM2663 pl_2184 ts_2184 (z := 15) rfl rfl h2664 (fun S2665 M2665 hS2665 hM2665 => ?_)
  refine qs_lr (qz_X15_adopt_L26 20000 hS2665 hM2665 k_0) ?_ ?_
  · intro v2667 S2667 w2667 M2667 h2667 hS2667 hM2667
    dsimp only
    exact qs_tr h2667 hS2667 hM2667
  · intro v2667 S2667 w2667 M2667 h2667 hS2667 hM2667
    dsimp only
    refine qs_lr (qz_X15_adopt_L102 20000 hS2667 hM2667 k_0) ?_ ?_
    · intro v2669 S2669 w2669 M2669 h2669 hS2669 hM2669
      dsimp only
      exact qs_tr h2669 hS2669 hM2669
    · intro v2669 S2669 w2669 M2669 h2669 hS2669 hM2669
      dsimp only
      refine qs_lr (qz_X15_adopt_L178 20000 hS2669 hM2669 k_0) ?_ ?_
      · intro v2671 S2671 w2671 M2671 h2671 hS2671 hM2671
        dsimp only
        exact qs_tr h2671 hS2671 hM2671
      · intro v2671 S2671 w2671 M2671 h2671 hS2671 hM2671
        dsimp only
        exact qs_tr (show vu _ _ from trivial) hS2671 hM2671
set_option maxRecDepth 20000 in
theorem qz_X15_read_J91 {P : Nat → Nat} {S : zm_S} {M : qm}  (hS : Sh L xs P S) (hM : qM P S = M)  : qs (zf_X15_read_J91 20000 2184 S) (qf_X15_read_J91 20000 M) (tO (rr L xs P vi)) := by
  unfold zf_X15_read_J91 qf_X15_read_J91
  refine qs_gi hS hM pl_2184 ts_2184 (z := 31) rfl rfl (fun v2672 h2672 => ?_)
  refine qs_ite (c_eq h2672 k_0) ?_ ?_
  · refine qs_zi hS pl_2184 ts_2184 ?_
    refine qs_b (qz_X15_adopt hS hM ) (fun v2674 S2674 w2674 M2674 h2674 hS2674 hM2674 => ?_)
    refine qs_pi hS2674 hM2674 pl_2184 ts_2184 (z := 1) rfl rfl k_0 (fun S2675 M2675 hS2675 hM2675 => ?_)
    refine qs_pi hS2675 hM2675 pl_2184 ts_2184 (z := 18) rfl rfl k_m1 (fun S2676 M2676 hS2676 hM2676 => ?_)
    refine qs_gi hS2676 hM2676 pl_2184 ts_2184 (z := 5) rfl rfl (fun v2677 h2677 => ?_)
    exact qs_tr (show vi _ _ from h2677) hS2676 hM2676
  · refine qs_gi hS hM pl_2184 ts_2184 (z := 26) rfl rfl (fun v2678 h2678 => ?_)
    exact qs_tr (show vi _ _ from (p_sub k_m1 h2678)) hS hM
set_option maxRecDepth 20000 in
theorem qz_X15_read {P : Nat → Nat} {S : zm_S} {M : qm}  (hS : Sh L xs P S) (hM : qM P S = M)  : qs (zf_X15_read 20000 2184 S) (qf_X15_read 20000 M) (tO (rr L xs P vi)) := by
  unfold zf_X15_read qf_X15_read
  refine qs_pi hS hM pl_2184 ts_2184 (z := 27) rfl rfl k_0 (fun S2679 M2679 hS2679 hM2679 => ?_)
  refine qs_pi hS2679 hM2679 pl_2184 ts_2184 (z := 30) rfl rfl k_0 (fun S2680 M2680 hS2680 hM2680 => ?_)
  refine qs_pi hS2680 hM2680 pl_2184 ts_2184 (z := 31) rfl rfl k_0 (fun S2681 M2681 hS2681 hM2681 => ?_)
  refine qs_pi hS2681 hM2681 pl_2184 ts_2184 (z := 32) rfl rfl k_0 (fun S2682 M2682 hS2682 hM2682 => ?_)
  refine qs_pi hS2682 hM2682 pl_2184 ts_2184 (z := 33) rfl rfl k_0 (fun S2683 M2683 hS2683 hM2683 => ?_)
  refine qs_pi hS2683 hM2683 pl_2184 ts_2184 (z := 34) rfl rfl k_0 (fun S2684 M2684 hS2684 hM2684 => ?_)
  refine qs_zi hS2684 pl_2184 ts_2184 ?_
  refine qs_b (qz_X15_step hS2684 hM2684 ) (fun v2686 S2686 w2686 M2686 h2686 hS2686 hM2686 => ?_)
  refine qs_zi hS2686 pl_2184 ts_2184 ?_
  refine qs_b (qz_X15_rule hS2686 hM2686 ) (fun v2688 S2688 w2688 M2688 h2688 hS2688 hM2688 => ?_)
  refine qs_lr (qz_X15_read_L38 20000 hS2688 hM2688 ) ?_ ?_
  · intro v2690 S2690 w2690 M2690 h2690 hS2690 hM2690
    dsimp only
    exact qs_tr h2690 hS2690 hM2690
  · intro v2690 S2690 w2690 M2690 h2690 hS2690 hM2690
    dsimp only
    exact (qz_X15_read_J91 hS2690 hM2690 )
set_option maxRecDepth 20000 in
theorem qz_X18_rules {P : Nat → Nat} {S : zm_S} {M : qm}  (hS : Sh L xs P S) (hM : qM P S = M)  : qs (zf_X18_rules 20000 2156 S) (qf_X18_rules 20000 M) (tO (rr L xs P vi)) := by
  unfold zf_X18_rules qf_X18_rules
  refine qs_pi hS hM pl_2156 ts_2156 (z := 0) rfl rfl k_0 (fun S2691 M2691 hS2691 hM2691 => ?_)
  refine qs_gr hS2691 pl_2156 ts_2156 rfl ?_
  refine qs_zi hS2691 pl_2184 ts_2184 ?_
  refine qs_b (qz_X15_read hS2691 hM2691 ) (fun v2694 S2694 w2694 M2694 h2694 hS2694 hM2694 => ?_)
  exact qs_tr (show vi _ _ from h2694) hS2694 hM2694
set_option maxRecDepth 20000 in
theorem qz_X7_isFactName_L5_b (n : Nat) {P : Nat → Nat} {S : zm_S} {M : qm} {j0 : Int64} {qj0 : Int} {j2 : Int64} {qj2 : Int} {i4 : Int32} {qi4 : Int} (hS : Sh L xs P S) (hM : qM P S = M) (ej0 : j0.toInt = qj0) (ej2 : j2.toInt = qj2) (ei4 : i4.toInt = qi4) : qs (zf_X7_isFactName_L5 20000 (n + 1) j0 j2 i4 S) (qf_X7_isFactName_L5_b 20000 qj0 qj2 qi4 M) (tk (vs (rp L xs P M vi) (rp L xs P M vu)) (qc_X7_isFactName_L5 L xs P M (zf_X7_isFactName_L5 20000 n))) := by
  refine qs_eq (zf_X7_isFactName_L5.eq_2 ..) ?_
  unfold qf_X7_isFactName_L5_b
  refine qs_ite (c_le k_8 ei4) ?_ ?_
  · exact qs_tp2 (show vu _ _ from trivial) hS hM
  · refine qs_ite (g_eq ej2 kl_0) ?_ ?_
    · exact qs_tp2 (show vu _ _ from trivial) hS hM
    · refine qs_ite (g_lt (pl_and ej2 kl_255) kl_97) ?_ ?_
      · exact qs_tp1 (show vi _ _ from k_0) hS hM
      · refine qs_ite (g_le (pl_and ej2 kl_255) kl_122) ?_ ?_
        · exact qs_tk ⟨_, _, _, _, rfl, ej0, (p_lushr ej2 (p_64 k_8)), (p_add ei4 k_1), hS, hM⟩
        · exact qs_tp1 (show vi _ _ from k_0) hS hM
theorem qz_X7_isFactName_L5 (n : Nat) : ∀ {P : Nat → Nat} {S : zm_S} {M : qm} {j0 : Int64} {qj0 : Int} {j2 : Int64} {qj2 : Int} {i4 : Int32} {qi4 : Int} (hS : Sh L xs P S) (hM : qM P S = M) (ej0 : j0.toInt = qj0) (ej2 : j2.toInt = qj2) (ei4 : i4.toInt = qi4), qs (zf_X7_isFactName_L5 20000 n j0 j2 i4 S) (qf_X7_isFactName_L5 20000 n qj0 qj2 qi4 M) (tO (vs (rp L xs P M vi) (rp L xs P M vu))) := by
  induction n with
  | zero =>
    intros
    exact qs_none
  | succ n ih =>
    intro P S M j0 qj0 j2 qj2 i4 qi4 hS hM ej0 ej2 ei4
    unfold qf_X7_isFactName_L5
    refine qs_loop (C := (qc_X7_isFactName_L5 L xs P M (zf_X7_isFactName_L5 20000 n))) (qz_X7_isFactName_L5_b n hS hM ej0 ej2 ei4) ?_
    rintro x s ⟨_, _, _, _, rfl, u0, u1, u2, hS2, hM2⟩
    exact ih hS2 hM2 u0 u1 u2
set_option maxRecDepth 20000 in
theorem qz_X7_isFactName_J56 {P : Nat → Nat} {S : zm_S} {M : qm} {j0 : Int64} {qj0 : Int} (hS : Sh L xs P S) (hM : qM P S = M) (ej0 : j0.toInt = qj0) : qs (zf_X7_isFactName_J56 20000 j0 S) (qf_X7_isFactName_J56 20000 qj0 M) (tO (rp L xs P M vi)) := by
  unfold zf_X7_isFactName_J56 qf_X7_isFactName_J56
  refine qs_ite (g_eq ej0 kl_0) ?_ ?_
  · exact qs_tp (show vi _ _ from k_0) hS hM
  · exact qs_tp (show vi _ _ from k_1) hS hM
set_option maxRecDepth 20000 in
theorem qz_X7_isFactName {P : Nat → Nat} {S : zm_S} {M : qm} {j0 : Int64} {qj0 : Int} (hS : Sh L xs P S) (hM : qM P S = M) (ej0 : j0.toInt = qj0) : qs (zf_X7_isFactName 20000 j0 S) (qf_X7_isFactName 20000 qj0 M) (tO (rp L xs P M vi)) := by
  unfold zf_X7_isFactName qf_X7_isFactName
  refine qs_lp (qz_X7_isFactName_L5 20000 hS hM ej0 ej0 k_0) ?_ ?_
  · intro v2696 S2696 w2696 h2696 hS2696 hM2696
    dsimp only
    exact qs_tp h2696 hS2696 hM2696
  · intro v2696 S2696 w2696 h2696 hS2696 hM2696
    dsimp only
    exact (qz_X7_isFactName_J56 hS2696 hM2696 ej0)
set_option maxRecDepth 20000 in
theorem qz_X7_findFact_L2_b (n : Nat) {P : Nat → Nat} {S : zm_S} {M : qm} {j1 : Int64} {qj1 : Int} {i3 : Int32} {qi3 : Int} (hS : Sh L xs P S) (hM : qM P S = M) (ej1 : j1.toInt = qj1) (ei3 : i3.toInt = qi3) : qs (zf_X7_findFact_L2 20000 (n + 1) 735 j1 i3 S) (qf_X7_findFact_L2_b 20000 qj1 qi3 M) (tk (vs (rp L xs P M vi) (rp L xs P M vu)) (qc_X7_findFact_L2 L xs P M (zf_X7_findFact_L2 20000 n))) := by
  refine qs_eq (zf_X7_findFact_L2.eq_2 ..) ?_
  unfold qf_X7_findFact_L2_b
  refine qs_gi hS hM pl_735 ts_735 (z := 8) rfl rfl (fun v2697 h2697 => ?_)
  refine qs_ite (c_le h2697 ei3) ?_ ?_
  · exact qs_tp2 (show vu _ _ from trivial) hS hM
  · refine qs_gr hS pl_735 ts_735 rfl ?_
    refine qs_gd (fun g2700 => ?_)
    refine qs_xl hM (pa_p hS pl_754 ts_754) ei3 g2700 (fun v2699 h2699 => ?_)
    refine qs_ite (g_eq h2699 ej1) ?_ ?_
    · exact qs_tp1 (show vi _ _ from ei3) hS hM
    · exact qs_tk ⟨_, _, _, rfl, ej1, (p_add ei3 k_1), hS, hM⟩
theorem qz_X7_findFact_L2 (n : Nat) : ∀ {P : Nat → Nat} {S : zm_S} {M : qm} {j1 : Int64} {qj1 : Int} {i3 : Int32} {qi3 : Int} (hS : Sh L xs P S) (hM : qM P S = M) (ej1 : j1.toInt = qj1) (ei3 : i3.toInt = qi3), qs (zf_X7_findFact_L2 20000 n 735 j1 i3 S) (qf_X7_findFact_L2 20000 n qj1 qi3 M) (tO (vs (rp L xs P M vi) (rp L xs P M vu))) := by
  induction n with
  | zero =>
    intros
    exact qs_none
  | succ n ih =>
    intro P S M j1 qj1 i3 qi3 hS hM ej1 ei3
    unfold qf_X7_findFact_L2
    refine qs_loop (C := (qc_X7_findFact_L2 L xs P M (zf_X7_findFact_L2 20000 n))) (qz_X7_findFact_L2_b n hS hM ej1 ei3) ?_
    rintro x s ⟨_, _, _, rfl, u0, u1, hS2, hM2⟩
    exact ih hS2 hM2 u0 u1
set_option maxRecDepth 20000 in
theorem qz_X7_findFact {P : Nat → Nat} {S : zm_S} {M : qm} {j1 : Int64} {qj1 : Int} (hS : Sh L xs P S) (hM : qM P S = M) (ej1 : j1.toInt = qj1) : qs (zf_X7_findFact 20000 735 j1 S) (qf_X7_findFact 20000 qj1 M) (tO (rp L xs P M vi)) := by
  unfold zf_X7_findFact qf_X7_findFact
  refine qs_lp (qz_X7_findFact_L2 20000 hS hM ej1 k_0) ?_ ?_
  · intro v2702 S2702 w2702 h2702 hS2702 hM2702
    dsimp only
    exact qs_tp h2702 hS2702 hM2702
  · intro v2702 S2702 w2702 h2702 hS2702 hM2702
    dsimp only
    exact qs_tp (show vi _ _ from k_m1) hS2702 hM2702
set_option maxRecDepth 20000 in
theorem qz_X7_hasRoomForFact {P : Nat → Nat} {S : zm_S} {M : qm} {j1 : Int64} {qj1 : Int} (hS : Sh L xs P S) (hM : qM P S = M) (ej1 : j1.toInt = qj1) : qs (zf_X7_hasRoomForFact 20000 735 j1 S) (qf_X7_hasRoomForFact 20000 qj1 M) (tO (rp L xs P M vi)) := by
  unfold zf_X7_hasRoomForFact qf_X7_hasRoomForFact
  refine qs_gi hS hM pl_735 ts_735 (z := 8) rfl rfl (fun v2703 h2703 => ?_)
  refine qs_ite (c_lt h2703 k_40) ?_ ?_
  · exact qs_tp (show vi _ _ from k_1) hS hM
  · refine qs_zi hS pl_735 ts_735 ?_
    refine qs_bp (qz_X7_findFact hS hM ej1) (fun v2705 S2705 w2705 h2705 hS2705 hM2705 => ?_)
    refine qs_ite (c_eq h2705 k_m1) ?_ ?_
    · exact qs_tp (show vi _ _ from k_0) hS2705 hM2705
    · exact qs_tp (show vi _ _ from k_1) hS2705 hM2705
set_option maxRecDepth 20000 in
theorem qz_X7_setFact {P : Nat → Nat} {S : zm_S} {M : qm} {j1 : Int64} {qj1 : Int} {i3 : Int32} {qi3 : Int} (hS : Sh L xs P S) (hM : qM P S = M) (ej1 : j1.toInt = qj1) (ei3 : i3.toInt = qi3) : qs (zf_X7_setFact 20000 735 j1 i3 S) (qf_X7_setFact 20000 qj1 qi3 M) (tO (rr L xs P vl)) := by
  unfold zf_X7_setFact qf_X7_setFact
  refine qs_zi hS pl_735 ts_735 ?_
  refine qs_bp (qz_X7_findFact hS hM ej1) (fun v2707 S2707 w2707 h2707 hS2707 hM2707 => ?_)
  refine qs_ite (c_eq h2707 k_m1) ?_ ?_
  · refine qs_gi hS2707 hM2707 pl_735 ts_735 (z := 8) rfl rfl (fun v2708 h2708 => ?_)
    refine qs_ite (c_le k_40 h2708) ?_ ?_
    · exact qs_tr (show vl _ _ from kl_1000000000000) hS2707 hM2707
    · refine qs_gr hS2707 pl_735 ts_735 rfl ?_
      refine qs_gi hS2707 hM2707 pl_735 ts_735 (z := 8) rfl rfl (fun v2710 h2710 => ?_)
      refine qs_gd (fun g2712 => ?_)
      refine qs_sl hS2707 hM2707 (pa_p hS2707 pl_754 ts_754) h2710 g2712 ej1 (fun S2711 M2711 hS2711 hM2711 => ?_)
      refine qs_gr hS2711 pl_735 ts_735 rfl ?_
      refine qs_gi hS2711 hM2711 pl_735 ts_735 (z := 8) rfl rfl (fun v2714 h2714 => ?_)
      refine qs_gd (fun g2716 => ?_)
      refine qs_si hS2711 hM2711 (pa_p hS2711 pl_755 ts_755) h2714 g2716 ei3 (fun S2715 M2715 hS2715 hM2715 => ?_)
      refine qs_gi hS2715 hM2715 pl_735 ts_735 (z := 8) rfl rfl (fun v2717 h2717 => ?_)
      refine qs_pi hS2715 hM2715 pl_735 ts_735 (z := 8) rfl rfl (p_add h2717 k_1) (fun S2718 M2718 hS2718 hM2718 => ?_)
      exact qs_tr (show vl _ _ from kl_1000000000000) hS2718 hM2718
  · refine qs_gr hS2707 pl_735 ts_735 rfl ?_
    refine qs_gd (fun g2721 => ?_)
    refine qs_xi hM2707 (pa_p hS2707 pl_755 ts_755) h2707 g2721 (fun v2720 h2720 => ?_)
    refine qs_gr hS2707 pl_735 ts_735 rfl ?_
    refine qs_gd (fun g2724 => ?_)
    refine qs_si hS2707 hM2707 (pa_p hS2707 pl_755 ts_755) h2707 g2724 ei3 (fun S2723 M2723 hS2723 hM2723 => ?_)
    exact qs_tr (show vl _ _ from (p_64 h2720)) hS2723 hM2723
set_option maxRecDepth 20000 in
theorem qz_X11_fact_J23 {P : Nat → Nat} {S : zm_S} {M : qm} {j1 : Int64} {qj1 : Int} {i3 : Int32} {qi3 : Int} {t0 : Int32} {qt0 : Int} (hS : Sh L xs P S) (hM : qM P S = M) (ej1 : j1.toInt = qj1) (ei3 : i3.toInt = qi3) (et0 : t0.toInt = qt0) : qs (zf_X11_fact_J23 20000 6 j1 i3 t0 S) (qf_X11_fact_J23 20000 qj1 qi3 qt0 M) (tO (rr L xs P (vs vl ve))) := by
  unfold zf_X11_fact_J23 qf_X11_fact_J23
  refine qs_xp (qz_X11_needArgument hS hM et0) ?_ ?_
  · intro v2726 S2726 w2726 h2726 hS2726 hM2726
    dsimp only
    refine qs_gr hS2726 pl_6 ts_6 rfl ?_
    refine qs_zi hS2726 pl_735 ts_735 ?_
    refine qs_bp (qz_X7_hasRoomForFact hS2726 hM2726 ej1) (fun v2729 S2729 w2729 h2729 hS2729 hM2729 => ?_)
    refine qs_xp (qz_X11_needState hS2729 hM2729 h2729) ?_ ?_
    · intro v2731 S2731 w2731 h2731 hS2731 hM2731
      dsimp only
      refine qs_gr hS2731 pl_6 ts_6 rfl ?_
      refine qs_zi hS2731 pl_735 ts_735 ?_
      refine qs_b (qz_X7_setFact hS2731 hM2731 ej1 ei3) (fun v2734 S2734 w2734 M2734 h2734 hS2734 hM2734 => ?_)
      exact qs_tr (show (vs vl ve) _ _ from h2734) hS2734 hM2734
    · intro v2731 S2731 hS2731 hM2731
      dsimp only
      exact qs_tr (show (vs vl ve) _ _ from rfl) hS2731 hM2731
  · intro v2726 S2726 hS2726 hM2726
    dsimp only
    exact qs_tr (show (vs vl ve) _ _ from rfl) hS2726 hM2726
set_option maxRecDepth 20000 in
theorem qz_X11_fact_J22 {P : Nat → Nat} {S : zm_S} {M : qm} {j1 : Int64} {qj1 : Int} {i3 : Int32} {qi3 : Int} (hS : Sh L xs P S) (hM : qM P S = M) (ej1 : j1.toInt = qj1) (ei3 : i3.toInt = qi3) : qs (zf_X11_fact_J22 20000 6 j1 i3 S) (qf_X11_fact_J22 20000 qj1 qi3 M) (tO (rr L xs P (vs vl ve))) := by
  unfold zf_X11_fact_J22 qf_X11_fact_J22
  exact (qz_X11_fact_J23 hS hM ej1 ei3 k_0)
set_option maxRecDepth 20000 in
theorem qz_X11_fact {P : Nat → Nat} {S : zm_S} {M : qm} {j1 : Int64} {qj1 : Int} {i3 : Int32} {qi3 : Int} (hS : Sh L xs P S) (hM : qM P S = M) (ej1 : j1.toInt = qj1) (ei3 : i3.toInt = qi3) : qs (zf_X11_fact 20000 6 j1 i3 S) (qf_X11_fact 20000 qj1 qi3 M) (tO (rr L xs P (vs vl ve))) := by
  unfold zf_X11_fact qf_X11_fact
  refine qs_bp (qz_X7_isFactName hS hM ej1) (fun v2735 S2735 w2735 h2735 hS2735 hM2735 => ?_)
  refine qs_ite (c_eq h2735 k_0) ?_ ?_
  · exact (qz_X11_fact_J22 hS2735 hM2735 ej1 ei3)
  · refine qs_bp (qz_X11_isWithin hS2735 hM2735 ei3 k_m1000000000 k_1000000000) (fun v2736 S2736 w2736 h2736 hS2736 hM2736 => ?_)
    refine qs_ite (c_eq h2736 k_0) ?_ ?_
    · exact (qz_X11_fact_J22 hS2736 hM2736 ej1 ei3)
    · exact (qz_X11_fact_J23 hS2736 hM2736 ej1 ei3 k_1)
set_option maxRecDepth 20000 in
theorem qz_L_fact {P : Nat → Nat} {S : zm_S} {M : qm} {j1 : Int64} {qj1 : Int} {i3 : Int32} {qi3 : Int} (hS : Sh L xs P S) (hM : qM P S = M) (ej1 : j1.toInt = qj1) (ei3 : i3.toInt = qi3) : qs (zf_L_fact 20000 6 j1 i3 2332 S) (qf_L_fact 20000 qj1 qi3 M) (tO (rr L xs P vi)) := by
  unfold zf_L_fact qf_L_fact
  refine qs_zi hS pl_6 ts_6 ?_
  refine qs_xr (qz_X11_fact hS hM ej1 ei3) ?_ ?_
  · intro v2739 S2739 w2739 M2739 h2739 hS2739 hM2739
    dsimp only
    refine qs_sl hS2739 hM2739 (pa_p hS2739 pl_2332 ts_2332) k_0 (by decide) h2739 (fun S2740 M2740 hS2740 hM2740 => ?_)
    exact qs_tr (show vi _ _ from k_0) hS2740 hM2740
  · intro v2739 S2739 M2739 hS2739 hM2739
    dsimp only
    refine qs_ite Iff.rfl ?_ ?_
    · exact qs_tr (show vi _ _ from k_1) hS2739 hM2739
    · refine qs_ite Iff.rfl ?_ ?_
      · exact qs_tr (show vi _ _ from k_2) hS2739 hM2739
      · exact qs_none
set_option maxRecDepth 20000 in
theorem qz_X15_isName_J57 {P : Nat → Nat} {S : zm_S} {M : qm} {j0 : Int64} {qj0 : Int} {i2 : Int32} {qi2 : Int} {i4 : Int32} {qi4 : Int} (hS : Sh L xs P S) (hM : qM P S = M) (ej0 : j0.toInt = qj0) (ei2 : i2.toInt = qi2) (ei4 : i4.toInt = qi4) {k : Int64 → Int32 → Int32 → Int32 → zm_S → Option ((Int32 × zm_S) ⊕ ((Int32 × Int32) × zm_S))} : qs (zf_X15_isName_J57 20000 k j0 i2 i4 S) (qf_X15_isName_J57 20000 qj0 qi2 qi4 M) (tk (vs (rp L xs P M vi) (rp L xs P M (vp vi vi))) (qc_X15_isName_L8 L xs P M k)) := by
  unfold zf_X15_isName_J57 qf_X15_isName_J57
  exact qs_tk ⟨_, _, _, _, _, rfl, ej0, ei2, k_1, (p_addm ei4 k_m1), hS, hM⟩
set_option maxRecDepth 20000 in
theorem qz_X15_isName_J47 {P : Nat → Nat} {S : zm_S} {M : qm} {j0 : Int64} {qj0 : Int} {i3 : Int32} {qi3 : Int} {i4 : Int32} {qi4 : Int} {i5 : Int32} {qi5 : Int} {t0 : Int32} {qt0 : Int} (hS : Sh L xs P S) (hM : qM P S = M) (ej0 : j0.toInt = qj0) (ei3 : i3.toInt = qi3) (ei4 : i4.toInt = qi4) (ei5 : i5.toInt = qi5) (et0 : t0.toInt = qt0) {k : Int64 → Int32 → Int32 → Int32 → zm_S → Option ((Int32 × zm_S) ⊕ ((Int32 × Int32) × zm_S))} : qs (zf_X15_isName_J47 20000 k j0 i3 i4 i5 t0 S) (qf_X15_isName_J47 20000 qj0 qi3 qi4 qi5 qt0 M) (tk (vs (rp L xs P M vi) (rp L xs P M (vp vi vi))) (qc_X15_isName_L8 L xs P M k)) := by
  unfold zf_X15_isName_J47 qf_X15_isName_J47
  refine qs_ite (c_eq ei3 k_0) ?_ ?_
  · refine qs_ite (c_le ei5 k_0) ?_ ?_
    · exact qs_tk ⟨_, _, _, _, _, rfl, ej0, et0, k_0, (p_addm ei4 k_m1), hS, hM⟩
    · exact (qz_X15_isName_J57 hS hM ej0 et0 ei4)
  · exact (qz_X15_isName_J57 hS hM ej0 et0 ei4)
set_option maxRecDepth 20000 in
theorem qz_X15_isName_J46 {P : Nat → Nat} {S : zm_S} {M : qm} {j0 : Int64} {qj0 : Int} {i3 : Int32} {qi3 : Int} {i4 : Int32} {qi4 : Int} {i5 : Int32} {qi5 : Int} (hS : Sh L xs P S) (hM : qM P S = M) (ej0 : j0.toInt = qj0) (ei3 : i3.toInt = qi3) (ei4 : i4.toInt = qi4) (ei5 : i5.toInt = qi5) {k : Int64 → Int32 → Int32 → Int32 → zm_S → Option ((Int32 × zm_S) ⊕ ((Int32 × Int32) × zm_S))} : qs (zf_X15_isName_J46 20000 k j0 i3 i4 i5 S) (qf_X15_isName_J46 20000 qj0 qi3 qi4 qi5 M) (tk (vs (rp L xs P M vi) (rp L xs P M (vp vi vi))) (qc_X15_isName_L8 L xs P M k)) := by
  unfold zf_X15_isName_J46 qf_X15_isName_J46
  exact (qz_X15_isName_J47 hS hM ej0 ei3 ei4 ei5 k_0)
set_option maxRecDepth 20000 in
theorem qz_X15_isName_J42 {P : Nat → Nat} {S : zm_S} {M : qm} {j0 : Int64} {qj0 : Int} {i3 : Int32} {qi3 : Int} {i4 : Int32} {qi4 : Int} {i5 : Int32} {qi5 : Int} (hS : Sh L xs P S) (hM : qM P S = M) (ej0 : j0.toInt = qj0) (ei3 : i3.toInt = qi3) (ei4 : i4.toInt = qi4) (ei5 : i5.toInt = qi5) {k : Int64 → Int32 → Int32 → Int32 → zm_S → Option ((Int32 × zm_S) ⊕ ((Int32 × Int32) × zm_S))} : qs (zf_X15_isName_J42 20000 k j0 i3 i4 i5 S) (qf_X15_isName_J42 20000 qj0 qi3 qi4 qi5 M) (tk (vs (rp L xs P M vi) (rp L xs P M (vp vi vi))) (qc_X15_isName_L8 L xs P M k)) := by
  unfold zf_X15_isName_J42 qf_X15_isName_J42
  exact (qz_X15_isName_J47 hS hM ej0 ei3 ei4 ei5 k_1)
set_option maxRecDepth 20000 in
theorem qz_X15_isName_L8_b (n : Nat) {P : Nat → Nat} {S : zm_S} {M : qm} {j0 : Int64} {qj0 : Int} {i2 : Int32} {qi2 : Int} {i3 : Int32} {qi3 : Int} {i4 : Int32} {qi4 : Int} (hS : Sh L xs P S) (hM : qM P S = M) (ej0 : j0.toInt = qj0) (ei2 : i2.toInt = qi2) (ei3 : i3.toInt = qi3) (ei4 : i4.toInt = qi4) : qs (zf_X15_isName_L8 20000 (n + 1) j0 i2 i3 i4 S) (qf_X15_isName_L8_b 20000 qj0 qi2 qi3 qi4 M) (tk (vs (rp L xs P M vi) (rp L xs P M (vp vi vi))) (qc_X15_isName_L8 L xs P M (zf_X15_isName_L8 20000 n))) := by
  refine qs_eq (zf_X15_isName_L8.eq_2 ..) ?_
  unfold qf_X15_isName_L8_b
  refine qs_ite (c_lt ei4 k_0) ?_ ?_
  · exact qs_tp2 (show (vp vi vi) _ _ from ⟨ei2, ei3⟩) hS hM
  · refine qs_bp (qz_X15_byteOf hS hM ej0 ei4) (fun v2741 S2741 w2741 h2741 hS2741 hM2741 => ?_)
    refine qs_ite (c_eq ei2 k_0) ?_ ?_
    · exact (qz_X15_isName_J46 hS2741 hM2741 ej0 ei3 ei4 h2741)
    · refine qs_bp (qz_X15_isLetter hS2741 hM2741 h2741) (fun v2742 S2742 w2742 h2742 hS2742 hM2742 => ?_)
      refine qs_ite (c_eq h2742 k_0) ?_ ?_
      · refine qs_ite (c_eq h2741 k_0) ?_ ?_
        · refine qs_ite (c_eq ei3 k_0) ?_ ?_
          · exact (qz_X15_isName_J42 hS2742 hM2742 ej0 ei3 ei4 h2741)
          · exact (qz_X15_isName_J46 hS2742 hM2742 ej0 ei3 ei4 h2741)
        · exact (qz_X15_isName_J46 hS2742 hM2742 ej0 ei3 ei4 h2741)
      · exact (qz_X15_isName_J42 hS2742 hM2742 ej0 ei3 ei4 h2741)
theorem qz_X15_isName_L8 (n : Nat) : ∀ {P : Nat → Nat} {S : zm_S} {M : qm} {j0 : Int64} {qj0 : Int} {i2 : Int32} {qi2 : Int} {i3 : Int32} {qi3 : Int} {i4 : Int32} {qi4 : Int} (hS : Sh L xs P S) (hM : qM P S = M) (ej0 : j0.toInt = qj0) (ei2 : i2.toInt = qi2) (ei3 : i3.toInt = qi3) (ei4 : i4.toInt = qi4), qs (zf_X15_isName_L8 20000 n j0 i2 i3 i4 S) (qf_X15_isName_L8 20000 n qj0 qi2 qi3 qi4 M) (tO (vs (rp L xs P M vi) (rp L xs P M (vp vi vi)))) := by
  induction n with
  | zero =>
    intros
    exact qs_none
  | succ n ih =>
    intro P S M j0 qj0 i2 qi2 i3 qi3 i4 qi4 hS hM ej0 ei2 ei3 ei4
    unfold qf_X15_isName_L8
    refine qs_loop (C := (qc_X15_isName_L8 L xs P M (zf_X15_isName_L8 20000 n))) (qz_X15_isName_L8_b n hS hM ej0 ei2 ei3 ei4) ?_
    rintro x s ⟨_, _, _, _, _, rfl, u0, u1, u2, u3, hS2, hM2⟩
    exact ih hS2 hM2 u0 u1 u2 u3
set_option maxRecDepth 20000 in
theorem qz_X15_isName {P : Nat → Nat} {S : zm_S} {M : qm} {j0 : Int64} {qj0 : Int} (hS : Sh L xs P S) (hM : qM P S = M) (ej0 : j0.toInt = qj0) : qs (zf_X15_isName 20000 j0 S) (qf_X15_isName 20000 qj0 M) (tO (rp L xs P M vi)) := by
  unfold zf_X15_isName qf_X15_isName
  refine qs_lp (qz_X15_isName_L8 20000 hS hM ej0 k_1 k_0 k_7) ?_ ?_
  · intro v2744 S2744 w2744 h2744 hS2744 hM2744
    dsimp only
    exact qs_tp h2744 hS2744 hM2744
  · intro v2744 S2744 w2744 h2744 hS2744 hM2744
    dsimp only
    refine qs_ite (c_eq h2744.1 k_0) ?_ ?_
    · exact qs_tp (show vi _ _ from k_0) hS2744 hM2744
    · refine qs_ite (c_eq h2744.2 k_0) ?_ ?_
      · exact qs_tp (show vi _ _ from k_0) hS2744 hM2744
      · exact qs_tp (show vi _ _ from k_1) hS2744 hM2744
set_option maxRecDepth 20000 in
theorem qz_X15_factOf_L5_b (n : Nat) {P : Nat → Nat} {S : zm_S} {M : qm} {j1 : Int64} {qj1 : Int} {i3 : Int32} {qi3 : Int} {i4 : Int32} {qi4 : Int} (hS : Sh L xs P S) (hM : qM P S = M) (ej1 : j1.toInt = qj1) (ei3 : i3.toInt = qi3) (ei4 : i4.toInt = qi4) : qs (zf_X15_factOf_L5 20000 (n + 1) 2184 j1 i3 i4 S) (qf_X15_factOf_L5_b 20000 qj1 qi3 qi4 M) (tk (vs (rp L xs P M vi) (rp L xs P M vi)) (qc_X15_factOf_L5 L xs P M (zf_X15_factOf_L5 20000 n))) := by
  refine qs_eq (zf_X15_factOf_L5.eq_2 ..) ?_
  unfold qf_X15_factOf_L5_b
  refine qs_gi hS hM pl_2184 ts_2184 (z := 2) rfl rfl (fun v2745 h2745 => ?_)
  refine qs_ite (c_le h2745 ei4) ?_ ?_
  · exact qs_tp2 (show vi _ _ from ei3) hS hM
  · refine qs_gr hS pl_2184 ts_2184 rfl ?_
    refine qs_gd (fun g2748 => ?_)
    refine qs_xl hM (pa_p hS pl_2186 ts_2186) ei4 g2748 (fun v2747 h2747 => ?_)
    refine qs_ite (g_eq h2747 ej1) ?_ ?_
    · exact qs_tk ⟨_, _, _, _, rfl, ej1, ei4, (p_add ei4 k_1), hS, hM⟩
    · exact qs_tk ⟨_, _, _, _, rfl, ej1, ei3, (p_add ei4 k_1), hS, hM⟩
theorem qz_X15_factOf_L5 (n : Nat) : ∀ {P : Nat → Nat} {S : zm_S} {M : qm} {j1 : Int64} {qj1 : Int} {i3 : Int32} {qi3 : Int} {i4 : Int32} {qi4 : Int} (hS : Sh L xs P S) (hM : qM P S = M) (ej1 : j1.toInt = qj1) (ei3 : i3.toInt = qi3) (ei4 : i4.toInt = qi4), qs (zf_X15_factOf_L5 20000 n 2184 j1 i3 i4 S) (qf_X15_factOf_L5 20000 n qj1 qi3 qi4 M) (tO (vs (rp L xs P M vi) (rp L xs P M vi))) := by
  induction n with
  | zero =>
    intros
    exact qs_none
  | succ n ih =>
    intro P S M j1 qj1 i3 qi3 i4 qi4 hS hM ej1 ei3 ei4
    unfold qf_X15_factOf_L5
    refine qs_loop (C := (qc_X15_factOf_L5 L xs P M (zf_X15_factOf_L5 20000 n))) (qz_X15_factOf_L5_b n hS hM ej1 ei3 ei4) ?_
    rintro x s ⟨_, _, _, _, rfl, u0, u1, u2, hS2, hM2⟩
    exact ih hS2 hM2 u0 u1 u2
set_option maxRecDepth 20000 in
theorem qz_X15_factOf {P : Nat → Nat} {S : zm_S} {M : qm} {j1 : Int64} {qj1 : Int} (hS : Sh L xs P S) (hM : qM P S = M) (ej1 : j1.toInt = qj1) : qs (zf_X15_factOf 20000 2184 j1 S) (qf_X15_factOf 20000 qj1 M) (tO (rp L xs P M vi)) := by
  unfold zf_X15_factOf qf_X15_factOf
  refine qs_lp (qz_X15_factOf_L5 20000 hS hM ej1 k_m1 k_0) ?_ ?_
  · intro v2750 S2750 w2750 h2750 hS2750 hM2750
    dsimp only
    exact qs_tp h2750 hS2750 hM2750
  · intro v2750 S2750 w2750 h2750 hS2750 hM2750
    dsimp only
    exact qs_tp (show vi _ _ from h2750) hS2750 hM2750
set_option maxRecDepth 20000 in
theorem qz_X18_hasRoom {P : Nat → Nat} {S : zm_S} {M : qm} {j1 : Int64} {qj1 : Int} (hS : Sh L xs P S) (hM : qM P S = M) (ej1 : j1.toInt = qj1) : qs (zf_X18_hasRoom 20000 2156 j1 S) (qf_X18_hasRoom 20000 qj1 M) (tO (rp L xs P M vi)) := by
  unfold zf_X18_hasRoom qf_X18_hasRoom
  refine qs_gr hS pl_2156 ts_2156 rfl ?_
  refine qs_zi hS pl_2184 ts_2184 ?_
  refine qs_bp (qz_X15_factOf hS hM ej1) (fun v2753 S2753 w2753 h2753 hS2753 hM2753 => ?_)
  refine qs_ite (c_le k_0 h2753) ?_ ?_
  · exact qs_tp (show vi _ _ from k_1) hS2753 hM2753
  · refine qs_gr hS2753 pl_2156 ts_2156 rfl ?_
    refine qs_gi hS2753 hM2753 pl_2184 ts_2184 (z := 2) rfl rfl (fun v2755 h2755 => ?_)
    refine qs_ite (c_le k_40 h2755) ?_ ?_
    · exact qs_tp (show vi _ _ from k_0) hS2753 hM2753
    · exact qs_tp (show vi _ _ from k_1) hS2753 hM2753
set_option maxRecDepth 20000 in
theorem qz_X15_fact_J49 {P : Nat → Nat} {S : zm_S} {M : qm} {j1 : Int64} {qj1 : Int} {i3 : Int32} {qi3 : Int} {i4 : Int32} {qi4 : Int} {j5 : Int64} {qj5 : Int} (hS : Sh L xs P S) (hM : qM P S = M) (ej1 : j1.toInt = qj1) (ei3 : i3.toInt = qi3) (ei4 : i4.toInt = qi4) (ej5 : j5.toInt = qj5) : qs (zf_X15_fact_J49 20000 2184 j1 i3 i4 j5 S) (qf_X15_fact_J49 20000 qj1 qi3 qi4 qj5 M) (tO (rr L xs P vl)) := by
  unfold zf_X15_fact_J49 qf_X15_fact_J49
  refine qs_gr hS pl_2184 ts_2184 rfl ?_
  refine qs_gd (fun g2758 => ?_)
  refine qs_sl hS hM (pa_p hS pl_2186 ts_2186) ei4 g2758 ej1 (fun S2757 M2757 hS2757 hM2757 => ?_)
  refine qs_gr hS2757 pl_2184 ts_2184 rfl ?_
  refine qs_gd (fun g2761 => ?_)
  refine qs_si hS2757 hM2757 (pa_p hS2757 pl_2187 ts_2187) ei4 g2761 ei3 (fun S2760 M2760 hS2760 hM2760 => ?_)
  exact qs_tr (show vl _ _ from ej5) hS2760 hM2760
set_option maxRecDepth 20000 in
theorem qz_X15_fact_J26 {P : Nat → Nat} {S : zm_S} {M : qm} {j1 : Int64} {qj1 : Int} {i3 : Int32} {qi3 : Int} {i4 : Int32} {qi4 : Int} {t0 : Int64} {qt0 : Int} (hS : Sh L xs P S) (hM : qM P S = M) (ej1 : j1.toInt = qj1) (ei3 : i3.toInt = qi3) (ei4 : i4.toInt = qi4) (et0 : t0.toInt = qt0) : qs (zf_X15_fact_J26 20000 2184 j1 i3 i4 t0 S) (qf_X15_fact_J26 20000 qj1 qi3 qi4 qt0 M) (tO (rr L xs P vl)) := by
  unfold zf_X15_fact_J26 qf_X15_fact_J26
  refine qs_ite (c_le k_0 ei4) ?_ ?_
  · exact (qz_X15_fact_J49 hS hM ej1 ei3 ei4 et0)
  · refine qs_gi hS hM pl_2184 ts_2184 (z := 2) rfl rfl (fun v2762 h2762 => ?_)
    refine qs_gi hS hM pl_2184 ts_2184 (z := 2) rfl rfl (fun v2763 h2763 => ?_)
    refine qs_pi hS hM pl_2184 ts_2184 (z := 2) rfl rfl (p_add h2763 k_1) (fun S2764 M2764 hS2764 hM2764 => ?_)
    exact (qz_X15_fact_J49 hS2764 hM2764 ej1 ei3 h2762 et0)
set_option maxRecDepth 20000 in
theorem qz_X15_fact {P : Nat → Nat} {S : zm_S} {M : qm} {j1 : Int64} {qj1 : Int} {i3 : Int32} {qi3 : Int} (hS : Sh L xs P S) (hM : qM P S = M) (ej1 : j1.toInt = qj1) (ei3 : i3.toInt = qi3) : qs (zf_X15_fact 20000 2184 j1 i3 S) (qf_X15_fact 20000 qj1 qi3 M) (tO (rr L xs P vl)) := by
  unfold zf_X15_fact qf_X15_fact
  refine qs_zi hS pl_2184 ts_2184 ?_
  refine qs_bp (qz_X15_factOf hS hM ej1) (fun v2766 S2766 w2766 h2766 hS2766 hM2766 => ?_)
  refine qs_ite (c_le k_0 h2766) ?_ ?_
  · refine qs_gr hS2766 pl_2184 ts_2184 rfl ?_
    refine qs_gd (fun g2769 => ?_)
    refine qs_xi hM2766 (pa_p hS2766 pl_2187 ts_2187) h2766 g2769 (fun v2768 h2768 => ?_)
    exact (qz_X15_fact_J26 hS2766 hM2766 ej1 ei3 h2766 (p_64 h2768))
  · exact (qz_X15_fact_J26 hS2766 hM2766 ej1 ei3 h2766 kl_1000000000000)
set_option maxRecDepth 20000 in
theorem qz_X18_fact_J27 {P : Nat → Nat} {S : zm_S} {M : qm} {j1 : Int64} {qj1 : Int} {i3 : Int32} {qi3 : Int} {t1 : Int32} {qt1 : Int} (hS : Sh L xs P S) (hM : qM P S = M) (ej1 : j1.toInt = qj1) (ei3 : i3.toInt = qi3) (et1 : t1.toInt = qt1) : qs (zf_X18_fact_J27 20000 2156 j1 i3 2156 t1 S) (qf_X18_fact_J27 20000 qj1 qi3 qt1 M) (tO (rr L xs P vl)) := by
  unfold zf_X18_fact_J27 qf_X18_fact_J27
  refine qs_zi hS pl_2156 ts_2156 ?_
  refine qs_bp (qz_X18_hasRoom hS hM ej1) (fun v2771 S2771 w2771 h2771 hS2771 hM2771 => ?_)
  refine qs_zi hS2771 pl_2156 ts_2156 ?_
  refine qs_b (qz_X18_goes hS2771 hM2771 et1 h2771) (fun v2773 S2773 w2773 M2773 h2773 hS2773 hM2773 => ?_)
  refine qs_ite (c_eq h2773 k_0) ?_ ?_
  · exact qs_tr (show vl _ _ from kl_0) hS2773 hM2773
  · refine qs_gr hS2773 pl_2156 ts_2156 rfl ?_
    refine qs_zi hS2773 pl_2184 ts_2184 ?_
    refine qs_b (qz_X15_fact hS2773 hM2773 ej1 ei3) (fun v2776 S2776 w2776 M2776 h2776 hS2776 hM2776 => ?_)
    exact qs_tr (show vl _ _ from h2776) hS2776 hM2776
set_option maxRecDepth 20000 in
theorem qz_X18_fact_J26 {P : Nat → Nat} {S : zm_S} {M : qm} {j1 : Int64} {qj1 : Int} {i3 : Int32} {qi3 : Int} (hS : Sh L xs P S) (hM : qM P S = M) (ej1 : j1.toInt = qj1) (ei3 : i3.toInt = qi3) : qs (zf_X18_fact_J26 20000 2156 j1 i3 2156 S) (qf_X18_fact_J26 20000 qj1 qi3 M) (tO (rr L xs P vl)) := by
  unfold zf_X18_fact_J26 qf_X18_fact_J26
  exact (qz_X18_fact_J27 hS hM ej1 ei3 k_0)
set_option maxRecDepth 20000 in
theorem qz_X18_fact {P : Nat → Nat} {S : zm_S} {M : qm} {j1 : Int64} {qj1 : Int} {i3 : Int32} {qi3 : Int} (hS : Sh L xs P S) (hM : qM P S = M) (ej1 : j1.toInt = qj1) (ei3 : i3.toInt = qi3) : qs (zf_X18_fact 20000 2156 j1 i3 S) (qf_X18_fact 20000 qj1 qi3 M) (tO (rr L xs P vl)) := by
  unfold zf_X18_fact qf_X18_fact
  refine qs_bp (qz_X15_isName hS hM ej1) (fun v2777 S2777 w2777 h2777 hS2777 hM2777 => ?_)
  refine qs_ite (c_eq h2777 k_0) ?_ ?_
  · exact (qz_X18_fact_J26 hS2777 hM2777 ej1 ei3)
  · refine qs_ite (c_lt ei3 k_m1000000000) ?_ ?_
    · exact (qz_X18_fact_J26 hS2777 hM2777 ej1 ei3)
    · refine qs_ite (c_lt k_1000000000 ei3) ?_ ?_
      · exact (qz_X18_fact_J26 hS2777 hM2777 ej1 ei3)
      · exact (qz_X18_fact_J27 hS2777 hM2777 ej1 ei3 k_1)
set_option maxRecDepth 20000 in
theorem qz_X11_measure_J58 {P : Nat → Nat} {S : zm_S} {M : qm} {i1 : Int32} {qi1 : Int} {i2 : Int32} {qi2 : Int} {j3 : Int64} {qj3 : Int} {t0 : Int32} {qt0 : Int} (hS : Sh L xs P S) (hM : qM P S = M) (ei1 : i1.toInt = qi1) (ei2 : i2.toInt = qi2) (ej3 : j3.toInt = qj3) (et0 : t0.toInt = qt0) : qs (zf_X11_measure_J58 20000 6 i1 i2 j3 t0 S) (qf_X11_measure_J58 20000 qi1 qi2 qj3 qt0 M) (tO (rr L xs P (vs vi ve))) := by
  unfold zf_X11_measure_J58 qf_X11_measure_J58
  refine qs_xp (qz_X11_needState hS hM et0) ?_ ?_
  · intro v2779 S2779 w2779 h2779 hS2779 hM2779
    dsimp only
    refine qs_gr hS2779 pl_6 ts_6 rfl ?_
    refine qs_zi hS2779 pl_51 ts_51 ?_
    refine qs_bp (qz_X2_measureOf hS2779 hM2779 ei1 ei2) (fun v2782 S2782 w2782 h2782 hS2782 hM2782 => ?_)
    refine qs_gr hS2782 pl_6 ts_6 rfl ?_
    refine qs_zi hS2782 pl_735 ts_735 ?_
    refine qs_b (qz_X7_setFact hS2782 hM2782 ej3 h2782) (fun v2785 S2785 w2785 M2785 h2785 hS2785 hM2785 => ?_)
    exact qs_tr (show (vs vi ve) _ _ from h2782) hS2785 hM2785
  · intro v2779 S2779 hS2779 hM2779
    dsimp only
    exact qs_tr (show (vs vi ve) _ _ from rfl) hS2779 hM2779
set_option maxRecDepth 20000 in
theorem qz_X11_measure_J57 {P : Nat → Nat} {S : zm_S} {M : qm} {i1 : Int32} {qi1 : Int} {i2 : Int32} {qi2 : Int} {j3 : Int64} {qj3 : Int} (hS : Sh L xs P S) (hM : qM P S = M) (ei1 : i1.toInt = qi1) (ei2 : i2.toInt = qi2) (ej3 : j3.toInt = qj3) : qs (zf_X11_measure_J57 20000 6 i1 i2 j3 S) (qf_X11_measure_J57 20000 qi1 qi2 qj3 M) (tO (rr L xs P (vs vi ve))) := by
  unfold zf_X11_measure_J57 qf_X11_measure_J57
  exact (qz_X11_measure_J58 hS hM ei1 ei2 ej3 k_0)
set_option maxRecDepth 20000 in
theorem qz_X11_measure_J29 {P : Nat → Nat} {S : zm_S} {M : qm} {i1 : Int32} {qi1 : Int} {i2 : Int32} {qi2 : Int} {j3 : Int64} {qj3 : Int} {t0 : Int32} {qt0 : Int} (hS : Sh L xs P S) (hM : qM P S = M) (ei1 : i1.toInt = qi1) (ei2 : i2.toInt = qi2) (ej3 : j3.toInt = qj3) (et0 : t0.toInt = qt0) : qs (zf_X11_measure_J29 20000 6 i1 i2 j3 t0 S) (qf_X11_measure_J29 20000 qi1 qi2 qj3 qt0 M) (tO (rr L xs P (vs vi ve))) := by
  unfold zf_X11_measure_J29 qf_X11_measure_J29
  refine qs_xp (qz_X11_needArgument hS hM et0) ?_ ?_
  · intro v2787 S2787 w2787 h2787 hS2787 hM2787
    dsimp only
    refine qs_gr hS2787 pl_6 ts_6 rfl ?_
    refine qs_gi hS2787 hM2787 pl_51 ts_51 (z := 2) rfl rfl (fun v2789 h2789 => ?_)
    refine qs_ite (c_eq h2789 k_0) ?_ ?_
    · exact (qz_X11_measure_J57 hS2787 hM2787 ei1 ei2 ej3)
    · refine qs_gr hS2787 pl_6 ts_6 rfl ?_
      refine qs_zi hS2787 pl_735 ts_735 ?_
      refine qs_bp (qz_X7_hasRoomForFact hS2787 hM2787 ej3) (fun v2792 S2792 w2792 h2792 hS2792 hM2792 => ?_)
      refine qs_ite (c_eq h2792 k_0) ?_ ?_
      · exact (qz_X11_measure_J57 hS2792 hM2792 ei1 ei2 ej3)
      · exact (qz_X11_measure_J58 hS2792 hM2792 ei1 ei2 ej3 k_1)
  · intro v2787 S2787 hS2787 hM2787
    dsimp only
    exact qs_tr (show (vs vi ve) _ _ from rfl) hS2787 hM2787
set_option maxRecDepth 20000 in
theorem qz_X11_measure_J28 {P : Nat → Nat} {S : zm_S} {M : qm} {i1 : Int32} {qi1 : Int} {i2 : Int32} {qi2 : Int} {j3 : Int64} {qj3 : Int} (hS : Sh L xs P S) (hM : qM P S = M) (ei1 : i1.toInt = qi1) (ei2 : i2.toInt = qi2) (ej3 : j3.toInt = qj3) : qs (zf_X11_measure_J28 20000 6 i1 i2 j3 S) (qf_X11_measure_J28 20000 qi1 qi2 qj3 M) (tO (rr L xs P (vs vi ve))) := by
  unfold zf_X11_measure_J28 qf_X11_measure_J28
  exact (qz_X11_measure_J29 hS hM ei1 ei2 ej3 k_0)
set_option maxRecDepth 20000 in
theorem qz_X11_measure {P : Nat → Nat} {S : zm_S} {M : qm} {i1 : Int32} {qi1 : Int} {i2 : Int32} {qi2 : Int} {j3 : Int64} {qj3 : Int} (hS : Sh L xs P S) (hM : qM P S = M) (ei1 : i1.toInt = qi1) (ei2 : i2.toInt = qi2) (ej3 : j3.toInt = qj3) : qs (zf_X11_measure 20000 6 i1 i2 j3 S) (qf_X11_measure 20000 qi1 qi2 qj3 M) (tO (rr L xs P (vs vi ve))) := by
  unfold zf_X11_measure qf_X11_measure
  refine qs_zi hS pl_6 ts_6 ?_
  refine qs_bp (qz_X11_isSpace hS hM ei1) (fun v2794 S2794 w2794 h2794 hS2794 hM2794 => ?_)
  refine qs_ite (c_eq h2794 k_0) ?_ ?_
  · exact (qz_X11_measure_J28 hS2794 hM2794 ei1 ei2 ej3)
  · refine qs_bp (qz_X11_isWithin hS2794 hM2794 ei2 k_0 k_2) (fun v2795 S2795 w2795 h2795 hS2795 hM2795 => ?_)
    refine qs_ite (c_eq h2795 k_0) ?_ ?_
    · exact (qz_X11_measure_J28 hS2795 hM2795 ei1 ei2 ej3)
    · refine qs_bp (qz_X7_isFactName hS2795 hM2795 ej3) (fun v2796 S2796 w2796 h2796 hS2796 hM2796 => ?_)
      refine qs_ite (c_eq h2796 k_0) ?_ ?_
      · exact (qz_X11_measure_J28 hS2796 hM2796 ei1 ei2 ej3)
      · exact (qz_X11_measure_J29 hS2796 hM2796 ei1 ei2 ej3 k_1)
set_option maxRecDepth 20000 in
theorem qz_L_measure {P : Nat → Nat} {S : zm_S} {M : qm} {i1 : Int32} {qi1 : Int} {i2 : Int32} {qi2 : Int} {j3 : Int64} {qj3 : Int} (hS : Sh L xs P S) (hM : qM P S = M) (ei1 : i1.toInt = qi1) (ei2 : i2.toInt = qi2) (ej3 : j3.toInt = qj3) : qs (zf_L_measure 20000 6 i1 i2 j3 2332 S) (qf_L_measure 20000 qi1 qi2 qj3 M) (tO (rr L xs P vi)) := by
  unfold zf_L_measure qf_L_measure
  refine qs_zi hS pl_6 ts_6 ?_
  refine qs_xr (qz_X11_measure hS hM ei1 ei2 ej3) ?_ ?_
  · intro v2799 S2799 w2799 M2799 h2799 hS2799 hM2799
    dsimp only
    refine qs_sl hS2799 hM2799 (pa_p hS2799 pl_2332 ts_2332) k_0 (by decide) (p_64 h2799) (fun S2800 M2800 hS2800 hM2800 => ?_)
    exact qs_tr (show vi _ _ from k_0) hS2800 hM2800
  · intro v2799 S2799 M2799 hS2799 hM2799
    dsimp only
    refine qs_ite Iff.rfl ?_ ?_
    · exact qs_tr (show vi _ _ from k_1) hS2799 hM2799
    · refine qs_ite Iff.rfl ?_ ?_
      · exact qs_tr (show vi _ _ from k_2) hS2799 hM2799
      · exact qs_none
set_option maxRecDepth 20000 in
theorem qz_X18_measure_J55 {P : Nat → Nat} {S : zm_S} {M : qm} {i1 : Int32} {qi1 : Int} {i2 : Int32} {qi2 : Int} {j3 : Int64} {qj3 : Int} {t1 : Int32} {qt1 : Int} {t2 : Int32} {qt2 : Int} (hS : Sh L xs P S) (hM : qM P S = M) (ei1 : i1.toInt = qi1) (ei2 : i2.toInt = qi2) (ej3 : j3.toInt = qj3) (et1 : t1.toInt = qt1) (et2 : t2.toInt = qt2) : qs (zf_X18_measure_J55 20000 2156 i1 i2 j3 2156 t1 t2 S) (qf_X18_measure_J55 20000 qi1 qi2 qj3 qt1 qt2 M) (tO (rr L xs P vi)) := by
  unfold zf_X18_measure_J55 qf_X18_measure_J55
  refine qs_zi hS pl_2156 ts_2156 ?_
  refine qs_b (qz_X18_goes hS hM et1 et2) (fun v2802 S2802 w2802 M2802 h2802 hS2802 hM2802 => ?_)
  refine qs_ite (c_eq h2802 k_0) ?_ ?_
  · exact qs_tr (show vi _ _ from k_0) hS2802 hM2802
  · refine qs_gr hS2802 pl_2156 ts_2156 rfl ?_
    refine qs_zi hS2802 pl_2157 ts_2157 ?_
    refine qs_bp (qz_X16_size hS2802 hM2802 ei1 ei2) (fun v2805 S2805 w2805 h2805 hS2805 hM2805 => ?_)
    refine qs_gr hS2805 pl_2156 ts_2156 rfl ?_
    refine qs_zi hS2805 pl_2184 ts_2184 ?_
    refine qs_b (qz_X15_fact hS2805 hM2805 ej3 h2805) (fun v2808 S2808 w2808 M2808 h2808 hS2808 hM2808 => ?_)
    exact qs_tr (show vi _ _ from h2805) hS2808 hM2808
set_option maxRecDepth 20000 in
theorem qz_X18_measure_J54 {P : Nat → Nat} {S : zm_S} {M : qm} {i1 : Int32} {qi1 : Int} {i2 : Int32} {qi2 : Int} {j3 : Int64} {qj3 : Int} {t1 : Int32} {qt1 : Int} (hS : Sh L xs P S) (hM : qM P S = M) (ei1 : i1.toInt = qi1) (ei2 : i2.toInt = qi2) (ej3 : j3.toInt = qj3) (et1 : t1.toInt = qt1) : qs (zf_X18_measure_J54 20000 2156 i1 i2 j3 2156 t1 S) (qf_X18_measure_J54 20000 qi1 qi2 qj3 qt1 M) (tO (rr L xs P vi)) := by
  unfold zf_X18_measure_J54 qf_X18_measure_J54
  exact (qz_X18_measure_J55 hS hM ei1 ei2 ej3 et1 k_0)
set_option maxRecDepth 20000 in
theorem qz_X18_measure_J32 {P : Nat → Nat} {S : zm_S} {M : qm} {i1 : Int32} {qi1 : Int} {i2 : Int32} {qi2 : Int} {j3 : Int64} {qj3 : Int} {t1 : Int32} {qt1 : Int} (hS : Sh L xs P S) (hM : qM P S = M) (ei1 : i1.toInt = qi1) (ei2 : i2.toInt = qi2) (ej3 : j3.toInt = qj3) (et1 : t1.toInt = qt1) : qs (zf_X18_measure_J32 20000 2156 i1 i2 j3 2156 t1 S) (qf_X18_measure_J32 20000 qi1 qi2 qj3 qt1 M) (tO (rr L xs P vi)) := by
  unfold zf_X18_measure_J32 qf_X18_measure_J32
  refine qs_gr hS pl_2156 ts_2156 rfl ?_
  refine qs_gi hS hM pl_2157 ts_2157 (z := 10) rfl rfl (fun v2810 h2810 => ?_)
  refine qs_ite (c_eq h2810 k_0) ?_ ?_
  · exact (qz_X18_measure_J54 hS hM ei1 ei2 ej3 et1)
  · refine qs_zi hS pl_2156 ts_2156 ?_
    refine qs_bp (qz_X18_hasRoom hS hM ej3) (fun v2812 S2812 w2812 h2812 hS2812 hM2812 => ?_)
    refine qs_ite (c_eq h2812 k_0) ?_ ?_
    · exact (qz_X18_measure_J54 hS2812 hM2812 ei1 ei2 ej3 et1)
    · exact (qz_X18_measure_J55 hS2812 hM2812 ei1 ei2 ej3 et1 k_1)
set_option maxRecDepth 20000 in
theorem qz_X18_measure_J31 {P : Nat → Nat} {S : zm_S} {M : qm} {i1 : Int32} {qi1 : Int} {i2 : Int32} {qi2 : Int} {j3 : Int64} {qj3 : Int} (hS : Sh L xs P S) (hM : qM P S = M) (ei1 : i1.toInt = qi1) (ei2 : i2.toInt = qi2) (ej3 : j3.toInt = qj3) : qs (zf_X18_measure_J31 20000 2156 i1 i2 j3 2156 S) (qf_X18_measure_J31 20000 qi1 qi2 qj3 M) (tO (rr L xs P vi)) := by
  unfold zf_X18_measure_J31 qf_X18_measure_J31
  exact (qz_X18_measure_J32 hS hM ei1 ei2 ej3 k_0)
set_option maxRecDepth 20000 in
theorem qz_X18_measure {P : Nat → Nat} {S : zm_S} {M : qm} {i1 : Int32} {qi1 : Int} {i2 : Int32} {qi2 : Int} {j3 : Int64} {qj3 : Int} (hS : Sh L xs P S) (hM : qM P S = M) (ei1 : i1.toInt = qi1) (ei2 : i2.toInt = qi2) (ej3 : j3.toInt = qj3) : qs (zf_X18_measure 20000 2156 i1 i2 j3 S) (qf_X18_measure 20000 qi1 qi2 qj3 M) (tO (rr L xs P vi)) := by
  unfold zf_X18_measure qf_X18_measure
  refine qs_gr hS pl_2156 ts_2156 rfl ?_
  refine qs_zi hS pl_2157 ts_2157 ?_
  refine qs_bp (qz_X16_isSpace hS hM ei1) (fun v2815 S2815 w2815 h2815 hS2815 hM2815 => ?_)
  refine qs_ite (c_eq h2815 k_0) ?_ ?_
  · exact (qz_X18_measure_J31 hS2815 hM2815 ei1 ei2 ej3)
  · refine qs_bp (qz_X18_isIn hS2815 hM2815 ei2 k_3) (fun v2816 S2816 w2816 h2816 hS2816 hM2816 => ?_)
    refine qs_ite (c_eq h2816 k_0) ?_ ?_
    · exact (qz_X18_measure_J31 hS2816 hM2816 ei1 ei2 ej3)
    · refine qs_bp (qz_X15_isName hS2816 hM2816 ej3) (fun v2817 S2817 w2817 h2817 hS2817 hM2817 => ?_)
      refine qs_ite (c_eq h2817 k_0) ?_ ?_
      · exact (qz_X18_measure_J31 hS2817 hM2817 ei1 ei2 ej3)
      · exact (qz_X18_measure_J32 hS2817 hM2817 ei1 ei2 ej3 k_1)
set_option maxRecDepth 20000 in
theorem qz_X7_takeWord {P : Nat → Nat} {S : zm_S} {M : qm}  (hS : Sh L xs P S) (hM : qM P S = M)  : qs (zf_X7_takeWord 20000 735 S) (qf_X7_takeWord 20000 M) (tO (rr L xs P vi)) := by
  unfold zf_X7_takeWord qf_X7_takeWord
  refine qs_gr hS pl_735 ts_735 rfl ?_
  refine qs_gi hS hM pl_735 ts_735 (z := 11) rfl rfl (fun v2819 h2819 => ?_)
  refine qs_gd (fun g2821 => ?_)
  refine qs_xi hM (pa_p hS pl_736 ts_736) h2819 g2821 (fun v2820 h2820 => ?_)
  refine qs_gi hS hM pl_735 ts_735 (z := 11) rfl rfl (fun v2822 h2822 => ?_)
  refine qs_ite (c_le k_120 h2822) ?_ ?_
  · exact qs_tr (show vi _ _ from h2820) hS hM
  · refine qs_gi hS hM pl_735 ts_735 (z := 11) rfl rfl (fun v2823 h2823 => ?_)
    refine qs_pi hS hM pl_735 ts_735 (z := 11) rfl rfl (p_add h2823 k_1) (fun S2824 M2824 hS2824 hM2824 => ?_)
    exact qs_tr (show vi _ _ from h2820) hS2824 hM2824
set_option maxRecDepth 20000 in
theorem qz_X7_reckonFactor_J42 {P : Nat → Nat} {S : zm_S} {M : qm} {j2 : Int64} {qj2 : Int} {i4 : Int32} {qi4 : Int} {K : Nat → Int32 → zm_S → Option (Unit × zm_S)} {Kq : Int → qm → Option (Unit × qm)} (hK : ∀ {S : zm_S} {M : qm} {x2 : Int32} {y2 : Int}, Sh L xs P S → qM P S = M → x2.toInt = y2 → qs (K 735 x2 S) (Kq y2 M) (tO (rr L xs P vu))) (hS : Sh L xs P S) (hM : qM P S = M) (ej2 : j2.toInt = qj2) (ei4 : i4.toInt = qi4) : qs (zf_X7_reckonFactor_J42 20000 K 735 j2 i4 S) (qf_X7_reckonFactor_J42 20000 Kq qj2 qi4 M) (tO (rr L xs P vu)) := by
  unfold zf_X7_reckonFactor_J42 qf_X7_reckonFactor_J42
  refine qs_pl hS hM pl_735 ts_735 (z := 15) rfl rfl kl_1 (fun S2825 M2825 hS2825 hM2825 => ?_)
  refine qs_ite (c_eq ei4 k_48) ?_ ?_
  · refine qs_pl hS2825 hM2825 pl_735 ts_735 (z := 14) rfl rfl ej2 (fun S2826 M2826 hS2826 hM2826 => ?_)
    exact qs_tr (show vu _ _ from trivial) hS2826 hM2826
  · refine qs_zi hS2825 pl_735 ts_735 ?_
    refine qs_bp (qz_X7_findFact hS2825 hM2825 ej2) (fun v2828 S2828 w2828 h2828 hS2828 hM2828 => ?_)
    refine qs_ite (c_eq h2828 k_m1) ?_ ?_
    · refine qs_pi hS2828 hM2828 pl_735 ts_735 (z := 12) rfl rfl k_1 (fun S2829 M2829 hS2829 hM2829 => ?_)
      refine qs_pl hS2829 hM2829 pl_735 ts_735 (z := 13) rfl rfl ej2 (fun S2830 M2830 hS2830 hM2830 => ?_)
      exact qs_tr (show vu _ _ from trivial) hS2830 hM2830
    · refine qs_gr hS2828 pl_735 ts_735 rfl ?_
      refine qs_gd (fun g2833 => ?_)
      refine qs_xi hM2828 (pa_p hS2828 pl_755 ts_755) h2828 g2833 (fun v2832 h2832 => ?_)
      refine qs_pl hS2828 hM2828 pl_735 ts_735 (z := 14) rfl rfl (p_64 h2832) (fun S2834 M2834 hS2834 hM2834 => ?_)
      exact qs_tr (show vu _ _ from trivial) hS2834 hM2834
set_option maxRecDepth 20000 in
theorem qz_X7_reckonFactor {P : Nat → Nat} {S : zm_S} {M : qm} {i1 : Int32} {qi1 : Int} {K : Nat → Int32 → zm_S → Option (Unit × zm_S)} {Kq : Int → qm → Option (Unit × qm)} (hK : ∀ {S : zm_S} {M : qm} {x2 : Int32} {y2 : Int}, Sh L xs P S → qM P S = M → x2.toInt = y2 → qs (K 735 x2 S) (Kq y2 M) (tO (rr L xs P vu))) (hS : Sh L xs P S) (hM : qM P S = M) (ei1 : i1.toInt = qi1) : qs (zf_X7_reckonFactor 20000 K 735 i1 S) (qf_X7_reckonFactor 20000 Kq qi1 M) (tO (rr L xs P vu)) := by
  unfold zf_X7_reckonFactor qf_X7_reckonFactor
  refine qs_gr hS pl_735 ts_735 rfl ?_
  refine qs_gi hS hM pl_735 ts_735 (z := 11) rfl rfl (fun v2836 h2836 => ?_)
  refine qs_gd (fun g2838 => ?_)
  refine qs_xl hM (pa_p hS pl_737 ts_737) h2836 g2838 (fun v2837 h2837 => ?_)
  refine qs_zi hS pl_735 ts_735 ?_
  refine qs_b (qz_X7_takeWord hS hM ) (fun v2840 S2840 w2840 M2840 h2840 hS2840 hM2840 => ?_)
  refine qs_ite (c_eq h2840 k_40) ?_ ?_
  · refine qs_ite (c_le k_8 ei1) ?_ ?_
    · exact (qz_X7_reckonFactor_J42 hK hS2840 hM2840 h2837 h2840)
    · refine qs_zi hS2840 pl_735 ts_735 ?_
      refine qs_b (hK hS2840 hM2840 (p_add ei1 k_1)) (fun v2842 S2842 w2842 M2842 h2842 hS2842 hM2842 => ?_)
      refine qs_zi hS2842 pl_735 ts_735 ?_
      refine qs_b (qz_X7_takeWord hS2842 hM2842 ) (fun v2844 S2844 w2844 M2844 h2844 hS2844 hM2844 => ?_)
      exact qs_tr (show vu _ _ from trivial) hS2844 hM2844
  · exact (qz_X7_reckonFactor_J42 hK hS2840 hM2840 h2837 h2840)
set_option maxRecDepth 20000 in
theorem qz_X7_isSign {P : Nat → Nat} {S : zm_S} {M : qm} {i1 : Int32} {qi1 : Int} {i2 : Int32} {qi2 : Int} (hS : Sh L xs P S) (hM : qM P S = M) (ei1 : i1.toInt = qi1) (ei2 : i2.toInt = qi2) : qs (zf_X7_isSign 20000 735 i1 i2 S) (qf_X7_isSign 20000 qi1 qi2 M) (tO (rp L xs P M vi)) := by
  unfold zf_X7_isSign qf_X7_isSign
  refine qs_gr hS pl_735 ts_735 rfl ?_
  refine qs_gi hS hM pl_735 ts_735 (z := 11) rfl rfl (fun v2846 h2846 => ?_)
  refine qs_gd (fun g2848 => ?_)
  refine qs_xi hM (pa_p hS pl_736 ts_736) h2846 g2848 (fun v2847 h2847 => ?_)
  refine qs_ite (c_eq h2847 ei1) ?_ ?_
  · exact qs_tp (show vi _ _ from k_1) hS hM
  · refine qs_gr hS pl_735 ts_735 rfl ?_
    refine qs_gi hS hM pl_735 ts_735 (z := 11) rfl rfl (fun v2850 h2850 => ?_)
    refine qs_gd (fun g2852 => ?_)
    refine qs_xi hM (pa_p hS pl_736 ts_736) h2850 g2852 (fun v2851 h2851 => ?_)
    refine qs_ite (c_eq h2851 ei2) ?_ ?_
    · exact qs_tp (show vi _ _ from k_1) hS hM
    · exact qs_tp (show vi _ _ from k_0) hS hM
set_option maxRecDepth 20000 in
theorem qz_X7_multiply_J72 {P : Nat → Nat} {S : zm_S} {M : qm} {j5 : Int64} {qj5 : Int} (hS : Sh L xs P S) (hM : qM P S = M) (ej5 : j5.toInt = qj5) : qs (zf_X7_multiply_J72 20000 735 j5 S) (qf_X7_multiply_J72 20000 qj5 M) (tO (rr L xs P vl)) := by
  unfold zf_X7_multiply_J72 qf_X7_multiply_J72
  refine qs_pi hS hM pl_735 ts_735 (z := 12) rfl rfl k_2 (fun S2853 M2853 hS2853 hM2853 => ?_)
  exact qs_tr (show vl _ _ from ej5) hS2853 hM2853
set_option maxRecDepth 20000 in
theorem qz_X7_multiply_J56 {P : Nat → Nat} {S : zm_S} {M : qm} {j1 : Int64} {qj1 : Int} {j3 : Int64} {qj3 : Int} {j5 : Int64} {qj5 : Int} {t0 : Int32} {qt0 : Int} (hS : Sh L xs P S) (hM : qM P S = M) (ej1 : j1.toInt = qj1) (ej3 : j3.toInt = qj3) (ej5 : j5.toInt = qj5) (et0 : t0.toInt = qt0) : qs (zf_X7_multiply_J56 20000 735 j1 j3 j5 t0 S) (qf_X7_multiply_J56 20000 qj1 qj3 qj5 qt0 M) (tO (rr L xs P vl)) := by
  unfold zf_X7_multiply_J56 qf_X7_multiply_J56
  refine qs_ite (c_eq et0 k_0) ?_ ?_
  · refine qs_ite (cl_eq ej3 kl_0) ?_ ?_
    · exact qs_none
    · refine qs_ite (g_eq (pl_divw ej5 ej3) ej1) ?_ ?_
      · exact qs_tr (show vl _ _ from ej5) hS hM
      · exact (qz_X7_multiply_J72 hS hM ej5)
  · exact (qz_X7_multiply_J72 hS hM ej5)
set_option maxRecDepth 20000 in
theorem qz_X7_multiply_J51 {P : Nat → Nat} {S : zm_S} {M : qm} {j1 : Int64} {qj1 : Int} {j3 : Int64} {qj3 : Int} {j5 : Int64} {qj5 : Int} (hS : Sh L xs P S) (hM : qM P S = M) (ej1 : j1.toInt = qj1) (ej3 : j3.toInt = qj3) (ej5 : j5.toInt = qj5) : qs (zf_X7_multiply_J51 20000 735 j1 j3 j5 S) (qf_X7_multiply_J51 20000 qj1 qj3 qj5 M) (tO (rr L xs P vl)) := by
  unfold zf_X7_multiply_J51 qf_X7_multiply_J51
  exact (qz_X7_multiply_J56 hS hM ej1 ej3 ej5 k_1)
set_option maxRecDepth 20000 in
theorem qz_X7_multiply_J55 {P : Nat → Nat} {S : zm_S} {M : qm} {j1 : Int64} {qj1 : Int} {j3 : Int64} {qj3 : Int} {j5 : Int64} {qj5 : Int} (hS : Sh L xs P S) (hM : qM P S = M) (ej1 : j1.toInt = qj1) (ej3 : j3.toInt = qj3) (ej5 : j5.toInt = qj5) : qs (zf_X7_multiply_J55 20000 735 j1 j3 j5 S) (qf_X7_multiply_J55 20000 qj1 qj3 qj5 M) (tO (rr L xs P vl)) := by
  unfold zf_X7_multiply_J55 qf_X7_multiply_J55
  exact (qz_X7_multiply_J56 hS hM ej1 ej3 ej5 k_0)
set_option maxRecDepth 20000 in
theorem qz_X7_multiply_J35 {P : Nat → Nat} {S : zm_S} {M : qm} {j1 : Int64} {qj1 : Int} {j3 : Int64} {qj3 : Int} {j5 : Int64} {qj5 : Int} (hS : Sh L xs P S) (hM : qM P S = M) (ej1 : j1.toInt = qj1) (ej3 : j3.toInt = qj3) (ej5 : j5.toInt = qj5) : qs (zf_X7_multiply_J35 20000 735 j1 j3 j5 S) (qf_X7_multiply_J35 20000 qj1 qj3 qj5 M) (tO (rr L xs P vl)) := by
  unfold zf_X7_multiply_J35 qf_X7_multiply_J35
  refine qs_ite (g_eq ej3 kl_m1) ?_ ?_
  · refine qs_ite (g_eq ej1 kl_m9223372036854775808) ?_ ?_
    · exact (qz_X7_multiply_J51 hS hM ej1 ej3 ej5)
    · exact (qz_X7_multiply_J55 hS hM ej1 ej3 ej5)
  · exact (qz_X7_multiply_J55 hS hM ej1 ej3 ej5)
set_option maxRecDepth 20000 in
theorem qz_X7_multiply {P : Nat → Nat} {S : zm_S} {M : qm} {j1 : Int64} {qj1 : Int} {j3 : Int64} {qj3 : Int} (hS : Sh L xs P S) (hM : qM P S = M) (ej1 : j1.toInt = qj1) (ej3 : j3.toInt = qj3) : qs (zf_X7_multiply 20000 735 j1 j3 S) (qf_X7_multiply 20000 qj1 qj3 M) (tO (rr L xs P vl)) := by
  unfold zf_X7_multiply qf_X7_multiply
  refine qs_ite (g_eq ej1 kl_0) ?_ ?_
  · exact qs_tr (show vl _ _ from kl_0) hS hM
  · refine qs_ite (g_eq ej3 kl_0) ?_ ?_
    · exact qs_tr (show vl _ _ from kl_0) hS hM
    · refine qs_ite (g_eq ej1 kl_m1) ?_ ?_
      · refine qs_ite (g_eq ej3 kl_m9223372036854775808) ?_ ?_
        · exact (qz_X7_multiply_J51 hS hM ej1 ej3 (pl_mul ej1 ej3))
        · exact (qz_X7_multiply_J35 hS hM ej1 ej3 (pl_mul ej1 ej3))
      · exact (qz_X7_multiply_J35 hS hM ej1 ej3 (pl_mul ej1 ej3))
set_option maxRecDepth 20000 in
theorem qz_X7_add {P : Nat → Nat} {S : zm_S} {M : qm} {j1 : Int64} {qj1 : Int} {j3 : Int64} {qj3 : Int} (hS : Sh L xs P S) (hM : qM P S = M) (ej1 : j1.toInt = qj1) (ej3 : j3.toInt = qj3) : qs (zf_X7_add 20000 735 j1 j3 S) (qf_X7_add 20000 qj1 qj3 M) (tO (rr L xs P vl)) := by
  unfold zf_X7_add qf_X7_add
  refine qs_ite (g0_le (pl_and (pl_xor ej1 (pl_add ej1 ej3)) (pl_xor ej3 (pl_add ej1 ej3))) kl_0) ?_ ?_
  · exact qs_tr (show vl _ _ from (pl_add ej1 ej3)) hS hM
  · refine qs_pi hS hM pl_735 ts_735 (z := 12) rfl rfl k_2 (fun S2854 M2854 hS2854 hM2854 => ?_)
    exact qs_tr (show vl _ _ from (pl_add ej1 ej3)) hS2854 hM2854
set_option maxRecDepth 20000 in
theorem qz_X7_combine_J139 {P : Nat → Nat} {S : zm_S} {M : qm} {j4 : Int64} {qj4 : Int} {j8 : Int64} {qj8 : Int} {t1 : Int64} {qt1 : Int} (hS : Sh L xs P S) (hM : qM P S = M) (ej4 : j4.toInt = qj4) (ej8 : j8.toInt = qj8) (et1 : t1.toInt = qt1) : qs (zf_X7_combine_J139 20000 735 j4 j8 735 t1 S) (qf_X7_combine_J139 20000 qj4 qj8 qt1 M) (tO (rr L xs P vu)) := by
  unfold zf_X7_combine_J139 qf_X7_combine_J139
  refine qs_pl hS hM pl_735 ts_735 (z := 14) rfl rfl et1 (fun S2855 M2855 hS2855 hM2855 => ?_)
  refine qs_zi hS2855 pl_735 ts_735 ?_
  refine qs_b (qz_X7_multiply hS2855 hM2855 ej4 ej8) (fun v2857 S2857 w2857 M2857 h2857 hS2857 hM2857 => ?_)
  refine qs_pl hS2857 hM2857 pl_735 ts_735 (z := 15) rfl rfl h2857 (fun S2858 M2858 hS2858 hM2858 => ?_)
  exact qs_tr (show vu _ _ from trivial) hS2858 hM2858
set_option maxRecDepth 20000 in
theorem qz_X7_subtract {P : Nat → Nat} {S : zm_S} {M : qm} {j1 : Int64} {qj1 : Int} {j3 : Int64} {qj3 : Int} (hS : Sh L xs P S) (hM : qM P S = M) (ej1 : j1.toInt = qj1) (ej3 : j3.toInt = qj3) : qs (zf_X7_subtract 20000 735 j1 j3 S) (qf_X7_subtract 20000 qj1 qj3 M) (tO (rr L xs P vl)) := by
  unfold zf_X7_subtract qf_X7_subtract
  refine qs_ite (g0_le (pl_and (pl_xor ej1 ej3) (pl_xor ej1 (pl_sub ej1 ej3))) kl_0) ?_ ?_
  · exact qs_tr (show vl _ _ from (pl_sub ej1 ej3)) hS hM
  · refine qs_pi hS hM pl_735 ts_735 (z := 12) rfl rfl k_2 (fun S2859 M2859 hS2859 hM2859 => ?_)
    exact qs_tr (show vl _ _ from (pl_sub ej1 ej3)) hS2859 hM2859
set_option maxRecDepth 20000 in
theorem qz_X7_combine {P : Nat → Nat} {S : zm_S} {M : qm} {i1 : Int32} {qi1 : Int} {j2 : Int64} {qj2 : Int} {j4 : Int64} {qj4 : Int} (hS : Sh L xs P S) (hM : qM P S = M) (ei1 : i1.toInt = qi1) (ej2 : j2.toInt = qj2) (ej4 : j4.toInt = qj4) : qs (zf_X7_combine 20000 735 i1 j2 j4 S) (qf_X7_combine 20000 qi1 qj2 qj4 M) (tO (rr L xs P vu)) := by
  unfold zf_X7_combine qf_X7_combine
  refine qs_gl hS hM pl_735 ts_735 (z := 14) rfl rfl (fun v2860 h2860 => ?_)
  refine qs_gl hS hM pl_735 ts_735 (z := 15) rfl rfl (fun v2861 h2861 => ?_)
  refine qs_gi hS hM pl_735 ts_735 (z := 12) rfl rfl (fun v2862 h2862 => ?_)
  refine qs_ite (c_eq h2862 k_0) ?_ ?_
  · refine qs_ite (c_eq ei1 k_42) ?_ ?_
    · refine qs_zi hS pl_735 ts_735 ?_
      refine qs_b (qz_X7_multiply hS hM ej2 h2860) (fun v2864 S2864 w2864 M2864 h2864 hS2864 hM2864 => ?_)
      refine qs_pl hS2864 hM2864 pl_735 ts_735 (z := 14) rfl rfl h2864 (fun S2865 M2865 hS2865 hM2865 => ?_)
      refine qs_zi hS2865 pl_735 ts_735 ?_
      refine qs_b (qz_X7_multiply hS2865 hM2865 ej4 h2861) (fun v2867 S2867 w2867 M2867 h2867 hS2867 hM2867 => ?_)
      refine qs_pl hS2867 hM2867 pl_735 ts_735 (z := 15) rfl rfl h2867 (fun S2868 M2868 hS2868 hM2868 => ?_)
      exact qs_tr (show vu _ _ from trivial) hS2868 hM2868
    · refine qs_zi hS pl_735 ts_735 ?_
      refine qs_b (qz_X7_multiply hS hM ej2 h2861) (fun v2870 S2870 w2870 M2870 h2870 hS2870 hM2870 => ?_)
      refine qs_pl hS2870 hM2870 pl_735 ts_735 (z := 14) rfl rfl h2870 (fun S2871 M2871 hS2871 hM2871 => ?_)
      refine qs_ite (c_eq ei1 k_47) ?_ ?_
      · refine qs_zi hS2871 pl_735 ts_735 ?_
        refine qs_b (qz_X7_multiply hS2871 hM2871 ej4 h2860) (fun v2873 S2873 w2873 M2873 h2873 hS2873 hM2873 => ?_)
        refine qs_pl hS2873 hM2873 pl_735 ts_735 (z := 15) rfl rfl h2873 (fun S2874 M2874 hS2874 hM2874 => ?_)
        refine qs_ite (g_eq h2860 kl_0) ?_ ?_
        · refine qs_pi hS2874 hM2874 pl_735 ts_735 (z := 12) rfl rfl k_3 (fun S2875 M2875 hS2875 hM2875 => ?_)
          exact qs_tr (show vu _ _ from trivial) hS2875 hM2875
        · refine qs_gi hS2874 hM2874 pl_735 ts_735 (z := 12) rfl rfl (fun v2876 h2876 => ?_)
          refine qs_pi hS2874 hM2874 pl_735 ts_735 (z := 12) rfl rfl h2876 (fun S2877 M2877 hS2877 hM2877 => ?_)
          exact qs_tr (show vu _ _ from trivial) hS2877 hM2877
      · refine qs_zi hS2871 pl_735 ts_735 ?_
        refine qs_b (qz_X7_multiply hS2871 hM2871 h2860 ej4) (fun v2879 S2879 w2879 M2879 h2879 hS2879 hM2879 => ?_)
        refine qs_ite (c_eq ei1 k_43) ?_ ?_
        · refine qs_gl hS2879 hM2879 pl_735 ts_735 (z := 14) rfl rfl (fun v2880 h2880 => ?_)
          refine qs_zi hS2879 pl_735 ts_735 ?_
          refine qs_b (qz_X7_add hS2879 hM2879 h2880 h2879) (fun v2882 S2882 w2882 M2882 h2882 hS2882 hM2882 => ?_)
          exact (qz_X7_combine_J139 hS2882 hM2882 ej4 h2861 h2882)
        · refine qs_gl hS2879 hM2879 pl_735 ts_735 (z := 14) rfl rfl (fun v2883 h2883 => ?_)
          refine qs_zi hS2879 pl_735 ts_735 ?_
          refine qs_b (qz_X7_subtract hS2879 hM2879 h2883 h2879) (fun v2885 S2885 w2885 M2885 h2885 hS2885 hM2885 => ?_)
          exact (qz_X7_combine_J139 hS2885 hM2885 ej4 h2861 h2885)
  · exact qs_tr (show vu _ _ from trivial) hS hM
set_option maxRecDepth 20000 in
theorem qz_X7_commonBelowZero_L31_b (n : Nat) {P : Nat → Nat} {S : zm_S} {M : qm} {j4 : Int64} {qj4 : Int} {j6 : Int64} {qj6 : Int} {i8 : Int32} {qi8 : Int} (hS : Sh L xs P S) (hM : qM P S = M) (ej4 : j4.toInt = qj4) (ej6 : j6.toInt = qj6) (ei8 : i8.toInt = qi8) : qs (zf_X7_commonBelowZero_L31 20000 (n + 1) j4 j6 i8 S) (qf_X7_commonBelowZero_L31_b 20000 qj4 qj6 qi8 M) (tk (vs (rp L xs P M vl) (rp L xs P M vl)) (qc_X7_commonBelowZero_L31 L xs P M (zf_X7_commonBelowZero_L31 20000 n))) := by
  refine qs_eq (zf_X7_commonBelowZero_L31.eq_2 ..) ?_
  unfold qf_X7_commonBelowZero_L31_b
  refine qs_ite (c_le k_100 ei8) ?_ ?_
  · exact qs_tp2 (show vl _ _ from ej4) hS hM
  · refine qs_ite (g_eq ej6 kl_0) ?_ ?_
    · exact qs_tp2 (show vl _ _ from ej4) hS hM
    · refine qs_ite (cl_eq ej6 kl_0) ?_ ?_
      · exact qs_none
      · exact qs_tk ⟨_, _, _, _, rfl, ej6, (pl_mod ej4 ej6), (p_add ei8 k_1), hS, hM⟩
theorem qz_X7_commonBelowZero_L31 (n : Nat) : ∀ {P : Nat → Nat} {S : zm_S} {M : qm} {j4 : Int64} {qj4 : Int} {j6 : Int64} {qj6 : Int} {i8 : Int32} {qi8 : Int} (hS : Sh L xs P S) (hM : qM P S = M) (ej4 : j4.toInt = qj4) (ej6 : j6.toInt = qj6) (ei8 : i8.toInt = qi8), qs (zf_X7_commonBelowZero_L31 20000 n j4 j6 i8 S) (qf_X7_commonBelowZero_L31 20000 n qj4 qj6 qi8 M) (tO (vs (rp L xs P M vl) (rp L xs P M vl))) := by
  induction n with
  | zero =>
    intros
    exact qs_none
  | succ n ih =>
    intro P S M j4 qj4 j6 qj6 i8 qi8 hS hM ej4 ej6 ei8
    unfold qf_X7_commonBelowZero_L31
    refine qs_loop (C := (qc_X7_commonBelowZero_L31 L xs P M (zf_X7_commonBelowZero_L31 20000 n))) (qz_X7_commonBelowZero_L31_b n hS hM ej4 ej6 ei8) ?_
    rintro x s ⟨_, _, _, _, rfl, u0, u1, u2, hS2, hM2⟩
    exact ih hS2 hM2 u0 u1 u2
set_option maxRecDepth 20000 in
theorem qz_X7_commonBelowZero_J26 {P : Nat → Nat} {S : zm_S} {M : qm} {j4 : Int64} {qj4 : Int} {t0 : Int64} {qt0 : Int} (hS : Sh L xs P S) (hM : qM P S = M) (ej4 : j4.toInt = qj4) (et0 : t0.toInt = qt0) : qs (zf_X7_commonBelowZero_J26 20000 j4 t0 S) (qf_X7_commonBelowZero_J26 20000 qj4 qt0 M) (tO (rp L xs P M vl)) := by
  unfold zf_X7_commonBelowZero_J26 qf_X7_commonBelowZero_J26
  refine qs_lp (qz_X7_commonBelowZero_L31 20000 hS hM ej4 et0 k_0) ?_ ?_
  · intro v2887 S2887 w2887 h2887 hS2887 hM2887
    dsimp only
    exact qs_tp h2887 hS2887 hM2887
  · intro v2887 S2887 w2887 h2887 hS2887 hM2887
    dsimp only
    exact qs_tp (show vl _ _ from h2887) hS2887 hM2887
set_option maxRecDepth 20000 in
theorem qz_X7_commonBelowZero_J12 {P : Nat → Nat} {S : zm_S} {M : qm} {j2 : Int64} {qj2 : Int} {t0 : Int64} {qt0 : Int} (hS : Sh L xs P S) (hM : qM P S = M) (ej2 : j2.toInt = qj2) (et0 : t0.toInt = qt0) : qs (zf_X7_commonBelowZero_J12 20000 j2 t0 S) (qf_X7_commonBelowZero_J12 20000 qj2 qt0 M) (tO (rp L xs P M vl)) := by
  unfold zf_X7_commonBelowZero_J12 qf_X7_commonBelowZero_J12
  refine qs_ite (g_le ej2 kl_0) ?_ ?_
  · exact (qz_X7_commonBelowZero_J26 hS hM et0 ej2)
  · exact (qz_X7_commonBelowZero_J26 hS hM et0 (pl_neg ej2))
set_option maxRecDepth 20000 in
theorem qz_X7_commonBelowZero {P : Nat → Nat} {S : zm_S} {M : qm} {j0 : Int64} {qj0 : Int} {j2 : Int64} {qj2 : Int} (hS : Sh L xs P S) (hM : qM P S = M) (ej0 : j0.toInt = qj0) (ej2 : j2.toInt = qj2) : qs (zf_X7_commonBelowZero 20000 j0 j2 S) (qf_X7_commonBelowZero 20000 qj0 qj2 M) (tO (rp L xs P M vl)) := by
  unfold zf_X7_commonBelowZero qf_X7_commonBelowZero
  refine qs_ite (g_le ej0 kl_0) ?_ ?_
  · exact (qz_X7_commonBelowZero_J12 hS hM ej2 ej0)
  · exact (qz_X7_commonBelowZero_J12 hS hM ej2 (pl_neg ej0))
set_option maxRecDepth 20000 in
theorem qz_X7_takeOutCommon_J81 {P : Nat → Nat} {S : zm_S} {M : qm}  (hS : Sh L xs P S) (hM : qM P S = M)  : qs (zf_X7_takeOutCommon_J81 20000 735 S) (qf_X7_takeOutCommon_J81 20000 M) (tO (rr L xs P vu)) := by
  unfold zf_X7_takeOutCommon_J81 qf_X7_takeOutCommon_J81
  refine qs_pi hS hM pl_735 ts_735 (z := 12) rfl rfl k_2 (fun S2888 M2888 hS2888 hM2888 => ?_)
  exact qs_tr (show vu _ _ from trivial) hS2888 hM2888
set_option maxRecDepth 20000 in
theorem qz_X7_takeOutCommon_J50 {P : Nat → Nat} {S : zm_S} {M : qm}  (hS : Sh L xs P S) (hM : qM P S = M)  : qs (zf_X7_takeOutCommon_J50 20000 735 S) (qf_X7_takeOutCommon_J50 20000 M) (tO (rr L xs P vu)) := by
  unfold zf_X7_takeOutCommon_J50 qf_X7_takeOutCommon_J50
  refine qs_gl hS hM pl_735 ts_735 (z := 15) rfl rfl (fun v2889 h2889 => ?_)
  refine qs_ite (g0_le h2889 kl_0) ?_ ?_
  · exact qs_tr (show vu _ _ from trivial) hS hM
  · refine qs_gl hS hM pl_735 ts_735 (z := 14) rfl rfl (fun v2890 h2890 => ?_)
    refine qs_ite (g_eq h2890 kl_m9223372036854775808) ?_ ?_
    · exact (qz_X7_takeOutCommon_J81 hS hM )
    · refine qs_gl hS hM pl_735 ts_735 (z := 15) rfl rfl (fun v2891 h2891 => ?_)
      refine qs_ite (g_eq h2891 kl_m9223372036854775808) ?_ ?_
      · exact (qz_X7_takeOutCommon_J81 hS hM )
      · refine qs_gl hS hM pl_735 ts_735 (z := 14) rfl rfl (fun v2892 h2892 => ?_)
        refine qs_pl hS hM pl_735 ts_735 (z := 14) rfl rfl (pl_neg h2892) (fun S2893 M2893 hS2893 hM2893 => ?_)
        refine qs_gl hS2893 hM2893 pl_735 ts_735 (z := 15) rfl rfl (fun v2894 h2894 => ?_)
        refine qs_pl hS2893 hM2893 pl_735 ts_735 (z := 15) rfl rfl (pl_neg h2894) (fun S2895 M2895 hS2895 hM2895 => ?_)
        exact qs_tr (show vu _ _ from trivial) hS2895 hM2895
set_option maxRecDepth 20000 in
theorem qz_X7_takeOutCommon {P : Nat → Nat} {S : zm_S} {M : qm}  (hS : Sh L xs P S) (hM : qM P S = M)  : qs (zf_X7_takeOutCommon 20000 735 S) (qf_X7_takeOutCommon 20000 M) (tO (rr L xs P vu)) := by
  unfold zf_X7_takeOutCommon qf_X7_takeOutCommon
  refine qs_gi hS hM pl_735 ts_735 (z := 12) rfl rfl (fun v2896 h2896 => ?_)
  refine qs_ite (c_eq h2896 k_0) ?_ ?_
  · refine qs_gl hS hM pl_735 ts_735 (z := 14) rfl rfl (fun v2897 h2897 => ?_)
    refine qs_gl hS hM pl_735 ts_735 (z := 15) rfl rfl (fun v2898 h2898 => ?_)
    refine qs_bp (qz_X7_commonBelowZero hS hM h2897 h2898) (fun v2899 S2899 w2899 h2899 hS2899 hM2899 => ?_)
    refine qs_ite (g0_le h2899 kl_m1) ?_ ?_
    · exact (qz_X7_takeOutCommon_J50 hS2899 hM2899 )
    · refine qs_gl hS2899 hM2899 pl_735 ts_735 (z := 14) rfl rfl (fun v2900 h2900 => ?_)
      refine qs_ite (cl_eq h2899 kl_0) ?_ ?_
      · exact qs_none
      · refine qs_pl hS2899 hM2899 pl_735 ts_735 (z := 14) rfl rfl (pl_neg (pl_divw h2900 h2899)) (fun S2901 M2901 hS2901 hM2901 => ?_)
        refine qs_gl hS2901 hM2901 pl_735 ts_735 (z := 15) rfl rfl (fun v2902 h2902 => ?_)
        refine qs_ite (cl_eq h2899 kl_0) ?_ ?_
        · exact qs_none
        · refine qs_pl hS2901 hM2901 pl_735 ts_735 (z := 15) rfl rfl (pl_neg (pl_divw h2902 h2899)) (fun S2903 M2903 hS2903 hM2903 => ?_)
          exact (qz_X7_takeOutCommon_J50 hS2903 hM2903 )
  · exact qs_tr (show vu _ _ from trivial) hS hM
set_option maxRecDepth 20000 in
theorem qz_X7_reckonTerm_L7_b (n : Nat) {P : Nat → Nat} {S : zm_S} {M : qm} {i1 : Int32} {qi1 : Int} {i2 : Int32} {qi2 : Int} {K : Nat → Int32 → zm_S → Option (Unit × zm_S)} {Kq : Int → qm → Option (Unit × qm)} (hK : ∀ {S : zm_S} {M : qm} {x2 : Int32} {y2 : Int}, Sh L xs P S → qM P S = M → x2.toInt = y2 → qs (K 735 x2 S) (Kq y2 M) (tO (rr L xs P vu))) (hS : Sh L xs P S) (hM : qM P S = M) (ei1 : i1.toInt = qi1) (ei2 : i2.toInt = qi2) : qs (zf_X7_reckonTerm_L7 20000 K (n + 1) 735 i1 i2 S) (qf_X7_reckonTerm_L7_b 20000 Kq qi1 qi2 M) (tk (vs (rr L xs P vu) (rr L xs P vu)) (qc_X7_reckonTerm_L7 L xs P (zf_X7_reckonTerm_L7 20000 K n))) := by
  refine qs_eq (zf_X7_reckonTerm_L7.eq_2 ..) ?_
  unfold qf_X7_reckonTerm_L7_b
  refine qs_ite (c_le k_120 ei2) ?_ ?_
  · exact qs_tr2 (show vu _ _ from trivial) hS hM
  · refine qs_gi hS hM pl_735 ts_735 (z := 12) rfl rfl (fun v2904 h2904 => ?_)
    refine qs_ite (c_eq h2904 k_0) ?_ ?_
    · refine qs_zi hS pl_735 ts_735 ?_
      refine qs_bp (qz_X7_isSign hS hM k_42 k_47) (fun v2906 S2906 w2906 h2906 hS2906 hM2906 => ?_)
      refine qs_ite (c_eq h2906 k_0) ?_ ?_
      · exact qs_tr2 (show vu _ _ from trivial) hS2906 hM2906
      · refine qs_gl hS2906 hM2906 pl_735 ts_735 (z := 14) rfl rfl (fun v2907 h2907 => ?_)
        refine qs_gl hS2906 hM2906 pl_735 ts_735 (z := 15) rfl rfl (fun v2908 h2908 => ?_)
        refine qs_zi hS2906 pl_735 ts_735 ?_
        refine qs_b (qz_X7_takeWord hS2906 hM2906 ) (fun v2910 S2910 w2910 M2910 h2910 hS2910 hM2910 => ?_)
        refine qs_zi hS2910 pl_735 ts_735 ?_
        refine qs_b (qz_X7_reckonFactor hK hS2910 hM2910 ei1) (fun v2912 S2912 w2912 M2912 h2912 hS2912 hM2912 => ?_)
        refine qs_zi hS2912 pl_735 ts_735 ?_
        refine qs_b (qz_X7_combine hS2912 hM2912 h2910 h2907 h2908) (fun v2914 S2914 w2914 M2914 h2914 hS2914 hM2914 => ?_)
        refine qs_zi hS2914 pl_735 ts_735 ?_
        refine qs_b (qz_X7_takeOutCommon hS2914 hM2914 ) (fun v2916 S2916 w2916 M2916 h2916 hS2916 hM2916 => ?_)
        exact qs_tk ⟨_, _, _, rfl, ei1, (p_add ei2 k_1), hS2916, hM2916⟩
    · exact qs_tr2 (show vu _ _ from trivial) hS hM
theorem qz_X7_reckonTerm_L7 (n : Nat) : ∀ {P : Nat → Nat} {S : zm_S} {M : qm} {i1 : Int32} {qi1 : Int} {i2 : Int32} {qi2 : Int} {K : Nat → Int32 → zm_S → Option (Unit × zm_S)} {Kq : Int → qm → Option (Unit × qm)} (hK : ∀ {S : zm_S} {M : qm} {x2 : Int32} {y2 : Int}, Sh L xs P S → qM P S = M → x2.toInt = y2 → qs (K 735 x2 S) (Kq y2 M) (tO (rr L xs P vu))) (hS : Sh L xs P S) (hM : qM P S = M) (ei1 : i1.toInt = qi1) (ei2 : i2.toInt = qi2), qs (zf_X7_reckonTerm_L7 20000 K n 735 i1 i2 S) (qf_X7_reckonTerm_L7 20000 Kq n qi1 qi2 M) (tO (vs (rr L xs P vu) (rr L xs P vu))) := by
  induction n with
  | zero =>
    intros
    exact qs_none
  | succ n ih =>
    intro P S M i1 qi1 i2 qi2 K Kq hK hS hM ei1 ei2
    unfold qf_X7_reckonTerm_L7
    refine qs_loop (C := (qc_X7_reckonTerm_L7 L xs P (zf_X7_reckonTerm_L7 20000 K n))) (qz_X7_reckonTerm_L7_b n hK hS hM ei1 ei2) ?_
    rintro x s ⟨_, _, _, rfl, u0, u1, hS2, hM2⟩
    exact ih hK hS2 hM2 u0 u1
set_option maxRecDepth 20000 in
theorem qz_X7_reckonTerm {P : Nat → Nat} {S : zm_S} {M : qm} {i1 : Int32} {qi1 : Int} {K : Nat → Int32 → zm_S → Option (Unit × zm_S)} {Kq : Int → qm → Option (Unit × qm)} (hK : ∀ {S : zm_S} {M : qm} {x2 : Int32} {y2 : Int}, Sh L xs P S → qM P S = M → x2.toInt = y2 → qs (K 735 x2 S) (Kq y2 M) (tO (rr L xs P vu))) (hS : Sh L xs P S) (hM : qM P S = M) (ei1 : i1.toInt = qi1) : qs (zf_X7_reckonTerm 20000 K 735 i1 S) (qf_X7_reckonTerm 20000 Kq qi1 M) (tO (rr L xs P vu)) := by
  unfold zf_X7_reckonTerm qf_X7_reckonTerm
  refine qs_zi hS pl_735 ts_735 ?_
  refine qs_b (qz_X7_reckonFactor hK hS hM ei1) (fun v2918 S2918 w2918 M2918 h2918 hS2918 hM2918 => ?_)
  refine qs_lr (qz_X7_reckonTerm_L7 20000 hK hS2918 hM2918 ei1 k_0) ?_ ?_
  · intro v2920 S2920 w2920 M2920 h2920 hS2920 hM2920
    dsimp only
    exact qs_tr h2920 hS2920 hM2920
  · intro v2920 S2920 w2920 M2920 h2920 hS2920 hM2920
    dsimp only
    exact qs_tr (show vu _ _ from trivial) hS2920 hM2920
set_option maxRecDepth 20000 in
theorem qz_X7_reckonSide_B_L52_b (n : Nat) {P : Nat → Nat} {S : zm_S} {M : qm} {i1 : Int32} {qi1 : Int} {i3 : Int32} {qi3 : Int} {K : Nat → Int32 → zm_S → Option (Unit × zm_S)} {Kq : Int → qm → Option (Unit × qm)} (hK : ∀ {S : zm_S} {M : qm} {x2 : Int32} {y2 : Int}, Sh L xs P S → qM P S = M → x2.toInt = y2 → qs (K 735 x2 S) (Kq y2 M) (tO (rr L xs P vu))) (hS : Sh L xs P S) (hM : qM P S = M) (ei1 : i1.toInt = qi1) (ei3 : i3.toInt = qi3) : qs (zf_X7_reckonSide_B_L52 20000 K (n + 1) 735 i1 i3 S) (qf_X7_reckonSide_B_L52_b 20000 Kq qi1 qi3 M) (tk (vs (rr L xs P vu) (rr L xs P vu)) (qc_X7_reckonSide_B_L52 L xs P (zf_X7_reckonSide_B_L52 20000 K n))) := by
  refine qs_eq (zf_X7_reckonSide_B_L52.eq_2 ..) ?_
  unfold qf_X7_reckonSide_B_L52_b
  refine qs_ite (c_le k_120 ei3) ?_ ?_
  · exact qs_tr2 (show vu _ _ from trivial) hS hM
  · refine qs_gi hS hM pl_735 ts_735 (z := 12) rfl rfl (fun v2921 h2921 => ?_)
    refine qs_ite (c_eq h2921 k_0) ?_ ?_
    · refine qs_zi hS pl_735 ts_735 ?_
      refine qs_bp (qz_X7_isSign hS hM k_43 k_45) (fun v2923 S2923 w2923 h2923 hS2923 hM2923 => ?_)
      refine qs_ite (c_eq h2923 k_0) ?_ ?_
      · exact qs_tr2 (show vu _ _ from trivial) hS2923 hM2923
      · refine qs_gl hS2923 hM2923 pl_735 ts_735 (z := 14) rfl rfl (fun v2924 h2924 => ?_)
        refine qs_gl hS2923 hM2923 pl_735 ts_735 (z := 15) rfl rfl (fun v2925 h2925 => ?_)
        refine qs_zi hS2923 pl_735 ts_735 ?_
        refine qs_b (qz_X7_takeWord hS2923 hM2923 ) (fun v2927 S2927 w2927 M2927 h2927 hS2927 hM2927 => ?_)
        refine qs_zi hS2927 pl_735 ts_735 ?_
        refine qs_b (qz_X7_reckonTerm hK hS2927 hM2927 ei1) (fun v2929 S2929 w2929 M2929 h2929 hS2929 hM2929 => ?_)
        refine qs_zi hS2929 pl_735 ts_735 ?_
        refine qs_b (qz_X7_combine hS2929 hM2929 h2927 h2924 h2925) (fun v2931 S2931 w2931 M2931 h2931 hS2931 hM2931 => ?_)
        refine qs_zi hS2931 pl_735 ts_735 ?_
        refine qs_b (qz_X7_takeOutCommon hS2931 hM2931 ) (fun v2933 S2933 w2933 M2933 h2933 hS2933 hM2933 => ?_)
        exact qs_tk ⟨_, _, _, rfl, ei1, (p_add ei3 k_1), hS2933, hM2933⟩
    · exact qs_tr2 (show vu _ _ from trivial) hS hM
theorem qz_X7_reckonSide_B_L52 (n : Nat) : ∀ {P : Nat → Nat} {S : zm_S} {M : qm} {i1 : Int32} {qi1 : Int} {i3 : Int32} {qi3 : Int} {K : Nat → Int32 → zm_S → Option (Unit × zm_S)} {Kq : Int → qm → Option (Unit × qm)} (hK : ∀ {S : zm_S} {M : qm} {x2 : Int32} {y2 : Int}, Sh L xs P S → qM P S = M → x2.toInt = y2 → qs (K 735 x2 S) (Kq y2 M) (tO (rr L xs P vu))) (hS : Sh L xs P S) (hM : qM P S = M) (ei1 : i1.toInt = qi1) (ei3 : i3.toInt = qi3), qs (zf_X7_reckonSide_B_L52 20000 K n 735 i1 i3 S) (qf_X7_reckonSide_B_L52 20000 Kq n qi1 qi3 M) (tO (vs (rr L xs P vu) (rr L xs P vu))) := by
  induction n with
  | zero =>
    intros
    exact qs_none
  | succ n ih =>
    intro P S M i1 qi1 i3 qi3 K Kq hK hS hM ei1 ei3
    unfold qf_X7_reckonSide_B_L52
    refine qs_loop (C := (qc_X7_reckonSide_B_L52 L xs P (zf_X7_reckonSide_B_L52 20000 K n))) (qz_X7_reckonSide_B_L52_b n hK hS hM ei1 ei3) ?_
    rintro x s ⟨_, _, _, rfl, u0, u1, hS2, hM2⟩
    exact ih hK hS2 hM2 u0 u1
set_option maxRecDepth 20000 in
theorem qz_X7_reckonSide_B_J50 {P : Nat → Nat} {S : zm_S} {M : qm} {i1 : Int32} {qi1 : Int} {K : Nat → Int32 → zm_S → Option (Unit × zm_S)} {Kq : Int → qm → Option (Unit × qm)} (hK : ∀ {S : zm_S} {M : qm} {x2 : Int32} {y2 : Int}, Sh L xs P S → qM P S = M → x2.toInt = y2 → qs (K 735 x2 S) (Kq y2 M) (tO (rr L xs P vu))) (hS : Sh L xs P S) (hM : qM P S = M) (ei1 : i1.toInt = qi1) : qs (zf_X7_reckonSide_B_J50 20000 K 735 i1 S) (qf_X7_reckonSide_B_J50 20000 Kq qi1 M) (tO (rr L xs P vu)) := by
  unfold zf_X7_reckonSide_B_J50 qf_X7_reckonSide_B_J50
  refine qs_lr (qz_X7_reckonSide_B_L52 20000 hK hS hM ei1 k_0) ?_ ?_
  · intro v2935 S2935 w2935 M2935 h2935 hS2935 hM2935
    dsimp only
    exact qs_tr h2935 hS2935 hM2935
  · intro v2935 S2935 w2935 M2935 h2935 hS2935 hM2935
    dsimp only
    exact qs_tr (show vu _ _ from trivial) hS2935 hM2935
set_option maxRecDepth 20000 in
theorem qz_X7_reckonSide_B_J29 {P : Nat → Nat} {S : zm_S} {M : qm} {i1 : Int32} {qi1 : Int} {i2 : Int32} {qi2 : Int} {K : Nat → Int32 → zm_S → Option (Unit × zm_S)} {Kq : Int → qm → Option (Unit × qm)} (hK : ∀ {S : zm_S} {M : qm} {x2 : Int32} {y2 : Int}, Sh L xs P S → qM P S = M → x2.toInt = y2 → qs (K 735 x2 S) (Kq y2 M) (tO (rr L xs P vu))) (hS : Sh L xs P S) (hM : qM P S = M) (ei1 : i1.toInt = qi1) (ei2 : i2.toInt = qi2) : qs (zf_X7_reckonSide_B_J29 20000 K 735 i1 i2 S) (qf_X7_reckonSide_B_J29 20000 Kq qi1 qi2 M) (tO (rr L xs P vu)) := by
  unfold zf_X7_reckonSide_B_J29 qf_X7_reckonSide_B_J29
  refine qs_zi hS pl_735 ts_735 ?_
  refine qs_b (qz_X7_reckonTerm hK hS hM ei1) (fun v2937 S2937 w2937 M2937 h2937 hS2937 hM2937 => ?_)
  refine qs_ite (c_eq ei2 k_0) ?_ ?_
  · exact (qz_X7_reckonSide_B_J50 hK hS2937 hM2937 ei1)
  · refine qs_zi hS2937 pl_735 ts_735 ?_
    refine qs_b (qz_X7_combine hS2937 hM2937 k_45 kl_0 kl_1) (fun v2939 S2939 w2939 M2939 h2939 hS2939 hM2939 => ?_)
    refine qs_zi hS2939 pl_735 ts_735 ?_
    refine qs_b (qz_X7_takeOutCommon hS2939 hM2939 ) (fun v2941 S2941 w2941 M2941 h2941 hS2941 hM2941 => ?_)
    exact (qz_X7_reckonSide_B_J50 hK hS2941 hM2941 ei1)
set_option maxRecDepth 20000 in
theorem qz_X7_reckonSide_B_J19 {P : Nat → Nat} {S : zm_S} {M : qm} {i1 : Int32} {qi1 : Int} {t0 : Int32} {qt0 : Int} {K : Nat → Int32 → zm_S → Option (Unit × zm_S)} {Kq : Int → qm → Option (Unit × qm)} (hK : ∀ {S : zm_S} {M : qm} {x2 : Int32} {y2 : Int}, Sh L xs P S → qM P S = M → x2.toInt = y2 → qs (K 735 x2 S) (Kq y2 M) (tO (rr L xs P vu))) (hS : Sh L xs P S) (hM : qM P S = M) (ei1 : i1.toInt = qi1) (et0 : t0.toInt = qt0) : qs (zf_X7_reckonSide_B_J19 20000 K 735 i1 t0 S) (qf_X7_reckonSide_B_J19 20000 Kq qi1 qt0 M) (tO (rr L xs P vu)) := by
  unfold zf_X7_reckonSide_B_J19 qf_X7_reckonSide_B_J19
  refine qs_ite (c_eq et0 k_0) ?_ ?_
  · exact (qz_X7_reckonSide_B_J29 hK hS hM ei1 et0)
  · refine qs_zi hS pl_735 ts_735 ?_
    refine qs_b (qz_X7_takeWord hS hM ) (fun v2943 S2943 w2943 M2943 h2943 hS2943 hM2943 => ?_)
    exact (qz_X7_reckonSide_B_J29 hK hS2943 hM2943 ei1 et0)
set_option maxRecDepth 20000 in
theorem qz_X7_reckonSide_B {P : Nat → Nat} {S : zm_S} {M : qm} {i1 : Int32} {qi1 : Int} {K : Nat → Int32 → zm_S → Option (Unit × zm_S)} {Kq : Int → qm → Option (Unit × qm)} (hK : ∀ {S : zm_S} {M : qm} {x2 : Int32} {y2 : Int}, Sh L xs P S → qM P S = M → x2.toInt = y2 → qs (K 735 x2 S) (Kq y2 M) (tO (rr L xs P vu))) (hS : Sh L xs P S) (hM : qM P S = M) (ei1 : i1.toInt = qi1) : qs (zf_X7_reckonSide_B 20000 K 735 i1 S) (qf_X7_reckonSide_B 20000 Kq qi1 M) (tO (rr L xs P vu)) := by
  unfold zf_X7_reckonSide_B qf_X7_reckonSide_B
  refine qs_gr hS pl_735 ts_735 rfl ?_
  refine qs_gi hS hM pl_735 ts_735 (z := 11) rfl rfl (fun v2945 h2945 => ?_)
  refine qs_gd (fun g2947 => ?_)
  refine qs_xi hM (pa_p hS pl_736 ts_736) h2945 g2947 (fun v2946 h2946 => ?_)
  refine qs_ite (c_eq h2946 k_45) ?_ ?_
  · exact (qz_X7_reckonSide_B_J19 hK hS hM ei1 k_1)
  · exact (qz_X7_reckonSide_B_J19 hK hS hM ei1 k_0)
theorem qy_X7_reckonSide (n : Nat) : ∀ {P : Nat → Nat} {S : zm_S} {M : qm} {i1 : Int32} {qi1 : Int} (hS : Sh L xs P S) (hM : qM P S = M) (ei1 : i1.toInt = qi1), qs (zr_X7_reckonSide 20000 n 735 i1 S) (qr_X7_reckonSide 20000 n qi1 M) (tO (rr L xs P vu)) := by
  induction n with
  | zero =>
    intros
    exact qs_none
  | succ n ih =>
    intro P S M i1 qi1 hS hM ei1
    refine qs_eq (zr_X7_reckonSide.eq_2 ..) (qs_eqr (qr_X7_reckonSide.eq_2 ..) ?_)
    exact qz_X7_reckonSide_B (K := zr_X7_reckonSide 20000 n) (Kq := qr_X7_reckonSide 20000 n) (fun u0 u1 u2 => ih u0 u1 u2) hS hM ei1
set_option maxRecDepth 20000 in
theorem qz_X7_reckonSide {P : Nat → Nat} {S : zm_S} {M : qm} {i1 : Int32} {qi1 : Int} (hS : Sh L xs P S) (hM : qM P S = M) (ei1 : i1.toInt = qi1) : qs (zf_X7_reckonSide 20000 735 i1 S) (qf_X7_reckonSide 20000 qi1 M) (tO (rr L xs P vu)) := by
  unfold zf_X7_reckonSide qf_X7_reckonSide
  exact (qy_X7_reckonSide 12 hS hM ei1)
set_option maxRecDepth 20000 in
theorem qz_X7_compareWith {P : Nat → Nat} {S : zm_S} {M : qm} {i1 : Int32} {qi1 : Int} {j2 : Int64} {qj2 : Int} {j4 : Int64} {qj4 : Int} (hS : Sh L xs P S) (hM : qM P S = M) (ei1 : i1.toInt = qi1) (ej2 : j2.toInt = qj2) (ej4 : j4.toInt = qj4) : qs (zf_X7_compareWith 20000 735 i1 j2 j4 S) (qf_X7_compareWith 20000 qi1 qj2 qj4 M) (tO (rr L xs P vi)) := by
  unfold zf_X7_compareWith qf_X7_compareWith
  refine qs_gl hS hM pl_735 ts_735 (z := 15) rfl rfl (fun v2948 h2948 => ?_)
  refine qs_zi hS pl_735 ts_735 ?_
  refine qs_b (qz_X7_multiply hS hM ej2 h2948) (fun v2950 S2950 w2950 M2950 h2950 hS2950 hM2950 => ?_)
  refine qs_gl hS2950 hM2950 pl_735 ts_735 (z := 14) rfl rfl (fun v2951 h2951 => ?_)
  refine qs_zi hS2950 pl_735 ts_735 ?_
  refine qs_b (qz_X7_multiply hS2950 hM2950 h2951 ej4) (fun v2953 S2953 w2953 M2953 h2953 hS2953 hM2953 => ?_)
  refine qs_gi hS2953 hM2953 pl_735 ts_735 (z := 12) rfl rfl (fun v2954 h2954 => ?_)
  refine qs_ite (c_eq h2954 k_0) ?_ ?_
  · refine qs_ite (z_eq ei1) ?_ ?_
    · refine qs_ite (g0_le h2950 h2953) ?_ ?_
      · exact qs_tr (show vi _ _ from k_0) hS2953 hM2953
      · exact qs_tr (show vi _ _ from k_1) hS2953 hM2953
    · refine qs_ite (z_eq ei1) ?_ ?_
      · refine qs_ite (g_eq h2950 h2953) ?_ ?_
        · exact qs_tr (show vi _ _ from k_1) hS2953 hM2953
        · exact qs_tr (show vi _ _ from k_0) hS2953 hM2953
      · refine qs_ite (z_eq ei1) ?_ ?_
        · refine qs_ite (g_lt h2950 h2953) ?_ ?_
          · exact qs_tr (show vi _ _ from k_0) hS2953 hM2953
          · exact qs_tr (show vi _ _ from k_1) hS2953 hM2953
        · refine qs_ite (z_eq ei1) ?_ ?_
          · refine qs_ite (g0_lt h2950 h2953) ?_ ?_
            · exact qs_tr (show vi _ _ from k_0) hS2953 hM2953
            · exact qs_tr (show vi _ _ from k_1) hS2953 hM2953
          · refine qs_ite (g_le h2950 h2953) ?_ ?_
            · exact qs_tr (show vi _ _ from k_0) hS2953 hM2953
            · exact qs_tr (show vi _ _ from k_1) hS2953 hM2953
  · exact qs_tr (show vi _ _ from k_0) hS2953 hM2953
set_option maxRecDepth 20000 in
theorem qz_X7_reckonClause {P : Nat → Nat} {S : zm_S} {M : qm} {a1 : Nat} {qa1 : Int} (hS : Sh L xs P S) (hM : qM P S = M) (ra1 : pr a1 741 12 qa1) : qs (zf_X7_reckonClause 20000 735 a1 S) (qf_X7_reckonClause 20000 qa1 M) (tO (rr L xs P vi)) := by
  unfold zf_X7_reckonClause qf_X7_reckonClause
  refine qs_zi hS pl_735 ts_735 ?_
  refine qs_b (qz_X7_reckonSide hS hM k_0) (fun v2956 S2956 w2956 M2956 h2956 hS2956 hM2956 => ?_)
  refine qs_gi hS2956 hM2956 pl_735 ts_735 (z := 12) rfl rfl (fun v2957 h2957 => ?_)
  refine qs_ite (c_eq h2957 k_0) ?_ ?_
  · refine qs_gl hS2956 hM2956 pl_735 ts_735 (z := 14) rfl rfl (fun v2958 h2958 => ?_)
    refine qs_ysl hS2956 hM2956 qt_740 tq_740 ra1 k_1 (by decide) h2958 (fun S2959 M2959 hS2959 hM2959 => ?_)
    refine qs_gl hS2959 hM2959 pl_735 ts_735 (z := 15) rfl rfl (fun v2960 h2960 => ?_)
    refine qs_ysl hS2959 hM2959 qt_740 tq_740 ra1 k_2 (by decide) h2960 (fun S2961 M2961 hS2961 hM2961 => ?_)
    refine qs_zi hS2961 pl_735 ts_735 ?_
    refine qs_b (qz_X7_takeWord hS2961 hM2961 ) (fun v2963 S2963 w2963 M2963 h2963 hS2963 hM2963 => ?_)
    refine qs_zi hS2963 pl_735 ts_735 ?_
    refine qs_b (qz_X7_reckonSide hS2963 hM2963 k_0) (fun v2965 S2965 w2965 M2965 h2965 hS2965 hM2965 => ?_)
    refine qs_gi hS2965 hM2965 pl_735 ts_735 (z := 12) rfl rfl (fun v2966 h2966 => ?_)
    refine qs_ite (c_eq h2966 k_0) ?_ ?_
    · refine qs_gl hS2965 hM2965 pl_735 ts_735 (z := 14) rfl rfl (fun v2967 h2967 => ?_)
      refine qs_ysl hS2965 hM2965 qt_740 tq_740 ra1 k_3 (by decide) h2967 (fun S2968 M2968 hS2968 hM2968 => ?_)
      refine qs_gl hS2968 hM2968 pl_735 ts_735 (z := 15) rfl rfl (fun v2969 h2969 => ?_)
      refine qs_ysl hS2968 hM2968 qt_740 tq_740 ra1 k_4 (by decide) h2969 (fun S2970 M2970 hS2970 hM2970 => ?_)
      refine qs_yl (j := 1) hS2970 hM2970 qt_740 tq_740 ra1 k_1 (by decide) (fun v2971 h2971 => ?_)
      refine qs_yl (j := 2) hS2970 hM2970 qt_740 tq_740 ra1 k_2 (by decide) (fun v2972 h2972 => ?_)
      refine qs_zi hS2970 pl_735 ts_735 ?_
      refine qs_b (qz_X7_compareWith hS2970 hM2970 h2963 h2971 h2972) (fun v2974 S2974 w2974 M2974 h2974 hS2974 hM2974 => ?_)
      refine qs_ite (or_congr (c_eq h2974 k_0) (c_eq h2974 k_1)) ?_ ?_
      · exact qs_tr (show vi _ _ from h2974) hS2974 hM2974
      · exact qs_none
    · exact qs_tr (show vi _ _ from k_0) hS2965 hM2965
  · exact qs_tr (show vi _ _ from k_0) hS2956 hM2956
set_option maxRecDepth 20000 in
theorem qz_X7_reckonClause_s1 {P : Nat → Nat} {S : zm_S} {M : qm}  (hS : Sh L xs P S) (hM : qM P S = M)  : qs (zf_X7_reckonClause 20000 735 753 S) (qf_X7_reckonClause_s1 20000 M) (tO (rr L xs P vi)) := by
  unfold zf_X7_reckonClause qf_X7_reckonClause_s1
  refine qs_zi hS pl_735 ts_735 ?_
  refine qs_b (qz_X7_reckonSide hS hM k_0) (fun v2976 S2976 w2976 M2976 h2976 hS2976 hM2976 => ?_)
  refine qs_gi hS2976 hM2976 pl_735 ts_735 (z := 12) rfl rfl (fun v2977 h2977 => ?_)
  refine qs_ite (c_eq h2977 k_0) ?_ ?_
  · refine qs_gl hS2976 hM2976 pl_735 ts_735 (z := 14) rfl rfl (fun v2978 h2978 => ?_)
    refine qs_sl hS2976 hM2976 (pa_p hS2976 pl_753 ts_753) k_1 (by decide) h2978 (fun S2979 M2979 hS2979 hM2979 => ?_)
    refine qs_gl hS2979 hM2979 pl_735 ts_735 (z := 15) rfl rfl (fun v2980 h2980 => ?_)
    refine qs_sl hS2979 hM2979 (pa_p hS2979 pl_753 ts_753) k_2 (by decide) h2980 (fun S2981 M2981 hS2981 hM2981 => ?_)
    refine qs_zi hS2981 pl_735 ts_735 ?_
    refine qs_b (qz_X7_takeWord hS2981 hM2981 ) (fun v2983 S2983 w2983 M2983 h2983 hS2983 hM2983 => ?_)
    refine qs_zi hS2983 pl_735 ts_735 ?_
    refine qs_b (qz_X7_reckonSide hS2983 hM2983 k_0) (fun v2985 S2985 w2985 M2985 h2985 hS2985 hM2985 => ?_)
    refine qs_gi hS2985 hM2985 pl_735 ts_735 (z := 12) rfl rfl (fun v2986 h2986 => ?_)
    refine qs_ite (c_eq h2986 k_0) ?_ ?_
    · refine qs_gl hS2985 hM2985 pl_735 ts_735 (z := 14) rfl rfl (fun v2987 h2987 => ?_)
      refine qs_sl hS2985 hM2985 (pa_p hS2985 pl_753 ts_753) k_3 (by decide) h2987 (fun S2988 M2988 hS2988 hM2988 => ?_)
      refine qs_gl hS2988 hM2988 pl_735 ts_735 (z := 15) rfl rfl (fun v2989 h2989 => ?_)
      refine qs_sl hS2988 hM2988 (pa_p hS2988 pl_753 ts_753) k_4 (by decide) h2989 (fun S2990 M2990 hS2990 hM2990 => ?_)
      refine qs_xl (i := 1) hM2990 (pa_p hS2990 pl_753 ts_753) k_1 (by decide) (fun v2991 h2991 => ?_)
      refine qs_xl (i := 2) hM2990 (pa_p hS2990 pl_753 ts_753) k_2 (by decide) (fun v2992 h2992 => ?_)
      refine qs_zi hS2990 pl_735 ts_735 ?_
      refine qs_b (qz_X7_compareWith hS2990 hM2990 h2983 h2991 h2992) (fun v2994 S2994 w2994 M2994 h2994 hS2994 hM2994 => ?_)
      refine qs_ite (or_congr (c_eq h2994 k_0) (c_eq h2994 k_1)) ?_ ?_
      · exact qs_tr (show vi _ _ from h2994) hS2994 hM2994
      · exact qs_none
    · exact qs_tr (show vi _ _ from k_0) hS2985 hM2985
  · exact qs_tr (show vi _ _ from k_0) hS2976 hM2976
set_option maxRecDepth 20000 in
theorem qz_X7_askRule_L79_b (n : Nat) {P : Nat → Nat} {S : zm_S} {M : qm} {a3 : Nat} {qa3 : Int} {i4 : Int32} {qi4 : Int} {i5 : Int32} {qi5 : Int} {i6 : Int32} {qi6 : Int} (hS : Sh L xs P S) (hM : qM P S = M) (ra3 : pr a3 741 12 qa3) (ei4 : i4.toInt = qi4) (ei5 : i5.toInt = qi5) (ei6 : i6.toInt = qi6) : qs (zf_X7_askRule_L79 20000 (n + 1) 735 a3 i4 i5 i6 S) (qf_X7_askRule_L79_b 20000 qa3 qi4 qi5 qi6 M) (tk (vs (rr L xs P vu) (rr L xs P vi)) (qc_X7_askRule_L79 L xs P (zf_X7_askRule_L79 20000 n))) := by
  refine qs_eq (zf_X7_askRule_L79.eq_2 ..) ?_
  unfold qf_X7_askRule_L79_b
  refine qs_ite (c_le k_120 ei6) ?_ ?_
  · exact qs_tr2 (show vi _ _ from ei5) hS hM
  · refine qs_gi hS hM pl_735 ts_735 (z := 12) rfl rfl (fun v2995 h2995 => ?_)
    refine qs_ite (c_eq h2995 k_0) ?_ ?_
    · refine qs_ite (c_eq ei4 k_0) ?_ ?_
      · exact qs_tr2 (show vi _ _ from ei5) hS hM
      · refine qs_gr hS pl_735 ts_735 rfl ?_
        refine qs_gi hS hM pl_735 ts_735 (z := 11) rfl rfl (fun v2997 h2997 => ?_)
        refine qs_gd (fun g2999 => ?_)
        refine qs_xi hM (pa_p hS pl_736 ts_736) h2997 g2999 (fun v2998 h2998 => ?_)
        refine qs_ite (c_eq h2998 k_33) ?_ ?_
        · refine qs_zi hS pl_735 ts_735 ?_
          refine qs_b (qz_X7_takeWord hS hM ) (fun v3001 S3001 w3001 M3001 h3001 hS3001 hM3001 => ?_)
          refine qs_gr hS3001 pl_735 ts_735 rfl ?_
          refine qs_zi hS3001 pl_735 ts_735 ?_
          refine qs_b (qz_X7_reckonClause_s1 hS3001 hM3001 ) (fun v3004 S3004 w3004 M3004 h3004 hS3004 hM3004 => ?_)
          refine qs_ite (c_eq h3004 k_0) ?_ ?_
          · exact qs_tk ⟨_, _, _, _, _, rfl, ra3, h3004, k_1, (p_add ei6 k_1), hS3004, hM3004⟩
          · exact qs_tk ⟨_, _, _, _, _, rfl, ra3, h3004, k_2, (p_add ei6 k_1), hS3004, hM3004⟩
        · exact qs_tr2 (show vi _ _ from ei5) hS hM
    · exact qs_tr2 (show vi _ _ from ei5) hS hM
theorem qz_X7_askRule_L79 (n : Nat) : ∀ {P : Nat → Nat} {S : zm_S} {M : qm} {a3 : Nat} {qa3 : Int} {i4 : Int32} {qi4 : Int} {i5 : Int32} {qi5 : Int} {i6 : Int32} {qi6 : Int} (hS : Sh L xs P S) (hM : qM P S = M) (ra3 : pr a3 741 12 qa3) (ei4 : i4.toInt = qi4) (ei5 : i5.toInt = qi5) (ei6 : i6.toInt = qi6), qs (zf_X7_askRule_L79 20000 n 735 a3 i4 i5 i6 S) (qf_X7_askRule_L79 20000 n qa3 qi4 qi5 qi6 M) (tO (vs (rr L xs P vu) (rr L xs P vi))) := by
  induction n with
  | zero =>
    intros
    exact qs_none
  | succ n ih =>
    intro P S M a3 qa3 i4 qi4 i5 qi5 i6 qi6 hS hM ra3 ei4 ei5 ei6
    unfold qf_X7_askRule_L79
    refine qs_loop (C := (qc_X7_askRule_L79 L xs P (zf_X7_askRule_L79 20000 n))) (qz_X7_askRule_L79_b n hS hM ra3 ei4 ei5 ei6) ?_
    rintro x s ⟨_, _, _, _, _, rfl, u0, u1, u2, u3, hS2, hM2⟩
    exact ih hS2 hM2 u0 u1 u2 u3
set_option maxRecDepth 20000 in
theorem qz_X7_askRule_J163 {P : Nat → Nat} {S : zm_S} {M : qm} {a3 : Nat} {qa3 : Int} {t0 : Nat} {qt0 : Int} {t1 : Int32} {qt1 : Int} {t2 : Int64} {qt2 : Int} (hS : Sh L xs P S) (hM : qM P S = M) (ra3 : pr a3 741 12 qa3) (rt0 : pr t0 741 12 qt0) (et1 : t1.toInt = qt1) (et2 : t2.toInt = qt2) : qs (zf_X7_askRule_J163 20000 735 a3 t0 t1 t2 S) (qf_X7_askRule_J163 20000 qa3 qt0 qt1 qt2 M) (tO (rr L xs P vu)) := by
  unfold zf_X7_askRule_J163 qf_X7_askRule_J163
  refine qs_gd (fun g3006 => ?_)
  refine qs_ysl hS hM qt_740 tq_740 rt0 et1 g3006 et2 (fun S3005 M3005 hS3005 hM3005 => ?_)
  refine qs_gi hS3005 hM3005 pl_735 ts_735 (z := 12) rfl rfl (fun v3007 h3007 => ?_)
  refine qs_ysl hS3005 hM3005 qt_740 tq_740 ra3 k_5 (by decide) (p_64 h3007) (fun S3008 M3008 hS3008 hM3008 => ?_)
  refine qs_gl hS3008 hM3008 pl_735 ts_735 (z := 13) rfl rfl (fun v3009 h3009 => ?_)
  refine qs_ysl hS3008 hM3008 qt_740 tq_740 ra3 k_6 (by decide) h3009 (fun S3010 M3010 hS3010 hM3010 => ?_)
  exact qs_tr (show vu _ _ from trivial) hS3010 hM3010
set_option maxRecDepth 20000 in
theorem qz_X7_askRule_J145 {P : Nat → Nat} {S : zm_S} {M : qm} {a3 : Nat} {qa3 : Int} {i5 : Int32} {qi5 : Int} (hS : Sh L xs P S) (hM : qM P S = M) (ra3 : pr a3 741 12 qa3) (ei5 : i5.toInt = qi5) : qs (zf_X7_askRule_J145 20000 735 a3 i5 S) (qf_X7_askRule_J145 20000 qa3 qi5 M) (tO (rr L xs P vu)) := by
  unfold zf_X7_askRule_J145 qf_X7_askRule_J145
  refine qs_gi hS hM pl_735 ts_735 (z := 12) rfl rfl (fun v3011 h3011 => ?_)
  refine qs_ite (c_eq h3011 k_0) ?_ ?_
  · exact (qz_X7_askRule_J163 hS hM ra3 ra3 k_0 (p_64 ei5))
  · exact (qz_X7_askRule_J163 hS hM ra3 ra3 k_0 kl_3)
set_option maxRecDepth 20000 in
theorem qz_X7_askRule_J66 {P : Nat → Nat} {S : zm_S} {M : qm} {a3 : Nat} {qa3 : Int} {i4 : Int32} {qi4 : Int} {t0 : Int32} {qt0 : Int} (hS : Sh L xs P S) (hM : qM P S = M) (ra3 : pr a3 741 12 qa3) (ei4 : i4.toInt = qi4) (et0 : t0.toInt = qt0) : qs (zf_X7_askRule_J66 20000 735 a3 i4 t0 S) (qf_X7_askRule_J66 20000 qa3 qi4 qt0 M) (tO (rr L xs P vu)) := by
  unfold zf_X7_askRule_J66 qf_X7_askRule_J66
  refine qs_ite (c_eq ei4 k_0) ?_ ?_
  · refine qs_lr (qz_X7_askRule_L79 20000 hS hM ra3 k_1 et0 k_0) ?_ ?_
    · intro v3013 S3013 w3013 M3013 h3013 hS3013 hM3013
      dsimp only
      exact qs_tr h3013 hS3013 hM3013
    · intro v3013 S3013 w3013 M3013 h3013 hS3013 hM3013
      dsimp only
      exact (qz_X7_askRule_J145 hS3013 hM3013 ra3 h3013)
  · exact (qz_X7_askRule_J145 hS hM ra3 et0)
set_option maxRecDepth 20000 in
theorem qz_X7_askRule {P : Nat → Nat} {S : zm_S} {M : qm} {i1 : Int32} {qi1 : Int} {i2 : Int32} {qi2 : Int} (hS : Sh L xs P S) (hM : qM P S = M) (ei1 : i1.toInt = qi1) (ei2 : i2.toInt = qi2) : qs (zf_X7_askRule 20000 735 i1 i2 S) (qf_X7_askRule 20000 qi1 qi2 M) (tO (rr L xs P vu)) := by
  unfold zf_X7_askRule qf_X7_askRule
  refine qs_gr hS pl_735 ts_735 rfl ?_
  refine qs_gd (fun g3016 => ?_)
  refine qs_xt hS pl_740 ts_740 (Or.inr rfl) ei1 g3016 (fun b3015 r3015 => ?_)
  refine qs_fyl hS hM qt_740 tq_740 r3015 (by decide) kl_0 (fun S3017 M3017 hS3017 hM3017 => ?_)
  refine qs_gr hS3017 pl_735 ts_735 rfl ?_
  refine qs_gd (fun g3020 => ?_)
  refine qs_xi hM3017 (pa_p hS3017 pl_739 ts_739) ei1 g3020 (fun v3019 h3019 => ?_)
  refine qs_ite (c_le h3019 ei2) ?_ ?_
  · refine qs_pi hS3017 hM3017 pl_735 ts_735 (z := 12) rfl rfl k_0 (fun S3021 M3021 hS3021 hM3021 => ?_)
    refine qs_pl hS3021 hM3021 pl_735 ts_735 (z := 13) rfl rfl kl_0 (fun S3022 M3022 hS3022 hM3022 => ?_)
    refine qs_gr hS3022 pl_735 ts_735 rfl ?_
    refine qs_gd (fun g3025 => ?_)
    refine qs_xi hM3022 (pa_p hS3022 pl_738 ts_738) ei1 g3025 (fun v3024 h3024 => ?_)
    refine qs_pi hS3022 hM3022 pl_735 ts_735 (z := 11) rfl rfl h3024 (fun S3026 M3026 hS3026 hM3026 => ?_)
    refine qs_zi hS3026 pl_735 ts_735 ?_
    refine qs_b (qz_X7_reckonClause hS3026 hM3026 r3015) (fun v3028 S3028 w3028 M3028 h3028 hS3028 hM3028 => ?_)
    refine qs_ite (c_eq h3028 k_0) ?_ ?_
    · exact (qz_X7_askRule_J66 hS3028 hM3028 r3015 h3028 k_1)
    · exact (qz_X7_askRule_J66 hS3028 hM3028 r3015 h3028 k_0)
  · refine qs_ysl hS3017 hM3017 qt_740 tq_740 r3015 k_0 (by decide) kl_4 (fun S3029 M3029 hS3029 hM3029 => ?_)
    exact qs_tr (show vu _ _ from trivial) hS3029 hM3029
set_option maxRecDepth 20000 in
theorem qz_X7_askAll_L2_b (n : Nat) {P : Nat → Nat} {S : zm_S} {M : qm} {i1 : Int32} {qi1 : Int} {i2 : Int32} {qi2 : Int} (hS : Sh L xs P S) (hM : qM P S = M) (ei1 : i1.toInt = qi1) (ei2 : i2.toInt = qi2) : qs (zf_X7_askAll_L2 20000 (n + 1) 735 i1 i2 S) (qf_X7_askAll_L2_b 20000 qi1 qi2 M) (tk (vs (rr L xs P vu) (rr L xs P vu)) (qc_X7_askAll_L2 L xs P (zf_X7_askAll_L2 20000 n))) := by
  refine qs_eq (zf_X7_askAll_L2.eq_2 ..) ?_
  unfold qf_X7_askAll_L2_b
  refine qs_gi hS hM pl_735 ts_735 (z := 0) rfl rfl (fun v3030 h3030 => ?_)
  refine qs_ite (c_le h3030 ei2) ?_ ?_
  · exact qs_tr2 (show vu _ _ from trivial) hS hM
  · refine qs_zi hS pl_735 ts_735 ?_
    refine qs_b (qz_X7_askRule hS hM ei2 ei1) (fun v3032 S3032 w3032 M3032 h3032 hS3032 hM3032 => ?_)
    exact qs_tk ⟨_, _, _, rfl, ei1, (p_add ei2 k_1), hS3032, hM3032⟩
theorem qz_X7_askAll_L2 (n : Nat) : ∀ {P : Nat → Nat} {S : zm_S} {M : qm} {i1 : Int32} {qi1 : Int} {i2 : Int32} {qi2 : Int} (hS : Sh L xs P S) (hM : qM P S = M) (ei1 : i1.toInt = qi1) (ei2 : i2.toInt = qi2), qs (zf_X7_askAll_L2 20000 n 735 i1 i2 S) (qf_X7_askAll_L2 20000 n qi1 qi2 M) (tO (vs (rr L xs P vu) (rr L xs P vu))) := by
  induction n with
  | zero =>
    intros
    exact qs_none
  | succ n ih =>
    intro P S M i1 qi1 i2 qi2 hS hM ei1 ei2
    unfold qf_X7_askAll_L2
    refine qs_loop (C := (qc_X7_askAll_L2 L xs P (zf_X7_askAll_L2 20000 n))) (qz_X7_askAll_L2_b n hS hM ei1 ei2) ?_
    rintro x s ⟨_, _, _, rfl, u0, u1, hS2, hM2⟩
    exact ih hS2 hM2 u0 u1
set_option maxRecDepth 20000 in
theorem qz_X7_askAll {P : Nat → Nat} {S : zm_S} {M : qm} {i1 : Int32} {qi1 : Int} (hS : Sh L xs P S) (hM : qM P S = M) (ei1 : i1.toInt = qi1) : qs (zf_X7_askAll 20000 735 i1 S) (qf_X7_askAll 20000 qi1 M) (tO (rr L xs P vu)) := by
  unfold zf_X7_askAll qf_X7_askAll
  refine qs_lr (qz_X7_askAll_L2 20000 hS hM ei1 k_0) ?_ ?_
  · intro v3034 S3034 w3034 M3034 h3034 hS3034 hM3034
    dsimp only
    exact qs_tr h3034 hS3034 hM3034
  · intro v3034 S3034 w3034 M3034 h3034 hS3034 hM3034
    dsimp only
    refine qs_pi hS3034 hM3034 pl_735 ts_735 (z := 1) rfl rfl k_1 (fun S3035 M3035 hS3035 hM3035 => ?_)
    exact qs_tr (show vu _ _ from trivial) hS3035 hM3035
set_option maxRecDepth 20000 in
theorem qz_X7_countBroken_J31 {P : Nat → Nat} {S : zm_S} {M : qm} {i2 : Int32} {qi2 : Int} {t0 : Int32} {qt0 : Int} {t1 : Int32} {qt1 : Int} (hS : Sh L xs P S) (hM : qM P S = M) (ei2 : i2.toInt = qi2) (et0 : t0.toInt = qt0) (et1 : t1.toInt = qt1) {k : Nat → Int32 → Int32 → zm_S → Option ((Int32 × zm_S) ⊕ ((Int32) × zm_S))} : qs (zf_X7_countBroken_J31 20000 k 735 i2 t0 t1 S) (qf_X7_countBroken_J31 20000 qi2 qt0 qt1 M) (tk (vs (rp L xs P M vi) (rp L xs P M vi)) (qc_X7_countBroken_L4 L xs P M k)) := by
  unfold zf_X7_countBroken_J31 qf_X7_countBroken_J31
  exact qs_tk ⟨_, _, _, rfl, (p_add et0 et1), (p_add ei2 k_1), hS, hM⟩
set_option maxRecDepth 20000 in
theorem qz_X7_countBroken_L4_b (n : Nat) {P : Nat → Nat} {S : zm_S} {M : qm} {i1 : Int32} {qi1 : Int} {i2 : Int32} {qi2 : Int} (hS : Sh L xs P S) (hM : qM P S = M) (ei1 : i1.toInt = qi1) (ei2 : i2.toInt = qi2) : qs (zf_X7_countBroken_L4 20000 (n + 1) 735 i1 i2 S) (qf_X7_countBroken_L4_b 20000 qi1 qi2 M) (tk (vs (rp L xs P M vi) (rp L xs P M vi)) (qc_X7_countBroken_L4 L xs P M (zf_X7_countBroken_L4 20000 n))) := by
  refine qs_eq (zf_X7_countBroken_L4.eq_2 ..) ?_
  unfold qf_X7_countBroken_L4_b
  refine qs_gi hS hM pl_735 ts_735 (z := 0) rfl rfl (fun v3036 h3036 => ?_)
  refine qs_ite (c_le h3036 ei2) ?_ ?_
  · exact qs_tp2 (show vi _ _ from ei1) hS hM
  · refine qs_gr hS pl_735 ts_735 rfl ?_
    refine qs_gd (fun g3039 => ?_)
    refine qs_xt hS pl_740 ts_740 (Or.inr rfl) ei2 g3039 (fun b3038 r3038 => ?_)
    refine qs_yl (j := 0) hS hM qt_740 tq_740 r3038 k_0 (by decide) (fun v3040 h3040 => ?_)
    refine qs_ite (g_eq h3040 kl_1) ?_ ?_
    · exact (qz_X7_countBroken_J31 hS hM ei2 ei1 k_1)
    · exact (qz_X7_countBroken_J31 hS hM ei2 ei1 k_0)
theorem qz_X7_countBroken_L4 (n : Nat) : ∀ {P : Nat → Nat} {S : zm_S} {M : qm} {i1 : Int32} {qi1 : Int} {i2 : Int32} {qi2 : Int} (hS : Sh L xs P S) (hM : qM P S = M) (ei1 : i1.toInt = qi1) (ei2 : i2.toInt = qi2), qs (zf_X7_countBroken_L4 20000 n 735 i1 i2 S) (qf_X7_countBroken_L4 20000 n qi1 qi2 M) (tO (vs (rp L xs P M vi) (rp L xs P M vi))) := by
  induction n with
  | zero =>
    intros
    exact qs_none
  | succ n ih =>
    intro P S M i1 qi1 i2 qi2 hS hM ei1 ei2
    unfold qf_X7_countBroken_L4
    refine qs_loop (C := (qc_X7_countBroken_L4 L xs P M (zf_X7_countBroken_L4 20000 n))) (qz_X7_countBroken_L4_b n hS hM ei1 ei2) ?_
    rintro x s ⟨_, _, _, rfl, u0, u1, hS2, hM2⟩
    exact ih hS2 hM2 u0 u1
set_option maxRecDepth 20000 in
theorem qz_X7_countBroken {P : Nat → Nat} {S : zm_S} {M : qm}  (hS : Sh L xs P S) (hM : qM P S = M)  : qs (zf_X7_countBroken 20000 735 S) (qf_X7_countBroken 20000 M) (tO (rp L xs P M vi)) := by
  unfold zf_X7_countBroken qf_X7_countBroken
  refine qs_lp (qz_X7_countBroken_L4 20000 hS hM k_0 k_0) ?_ ?_
  · intro v3042 S3042 w3042 h3042 hS3042 hM3042
    dsimp only
    exact qs_tp h3042 hS3042 hM3042
  · intro v3042 S3042 w3042 h3042 hS3042 hM3042
    dsimp only
    exact qs_tp (show vi _ _ from h3042) hS3042 hM3042
set_option maxRecDepth 20000 in
theorem qz_X11_check {P : Nat → Nat} {S : zm_S} {M : qm} {i1 : Int32} {qi1 : Int} (hS : Sh L xs P S) (hM : qM P S = M) (ei1 : i1.toInt = qi1) : qs (zf_X11_check 20000 6 i1 S) (qf_X11_check 20000 qi1 M) (tO (rr L xs P (vs vi ve))) := by
  unfold zf_X11_check qf_X11_check
  refine qs_bp (qz_X11_isWithin hS hM ei1 k_0 k_1000000) (fun v3043 S3043 w3043 h3043 hS3043 hM3043 => ?_)
  refine qs_xp (qz_X11_needArgument hS3043 hM3043 h3043) ?_ ?_
  · intro v3045 S3045 w3045 h3045 hS3045 hM3045
    dsimp only
    refine qs_gr hS3045 pl_6 ts_6 rfl ?_
    refine qs_zi hS3045 pl_735 ts_735 ?_
    refine qs_b (qz_X7_askAll hS3045 hM3045 ei1) (fun v3048 S3048 w3048 M3048 h3048 hS3048 hM3048 => ?_)
    refine qs_gr hS3048 pl_6 ts_6 rfl ?_
    refine qs_zi hS3048 pl_735 ts_735 ?_
    refine qs_bp (qz_X7_countBroken hS3048 hM3048 ) (fun v3051 S3051 w3051 h3051 hS3051 hM3051 => ?_)
    exact qs_tr (show (vs vi ve) _ _ from h3051) hS3051 hM3051
  · intro v3045 S3045 hS3045 hM3045
    dsimp only
    exact qs_tr (show (vs vi ve) _ _ from rfl) hS3045 hM3045
set_option maxRecDepth 20000 in
theorem qz_L_check {P : Nat → Nat} {S : zm_S} {M : qm} {i1 : Int32} {qi1 : Int} (hS : Sh L xs P S) (hM : qM P S = M) (ei1 : i1.toInt = qi1) : qs (zf_L_check 20000 6 i1 2332 S) (qf_L_check 20000 qi1 M) (tO (rr L xs P vi)) := by
  unfold zf_L_check qf_L_check
  refine qs_zi hS pl_6 ts_6 ?_
  refine qs_xr (qz_X11_check hS hM ei1) ?_ ?_
  · intro v3054 S3054 w3054 M3054 h3054 hS3054 hM3054
    dsimp only
    refine qs_sl hS3054 hM3054 (pa_p hS3054 pl_2332 ts_2332) k_0 (by decide) (p_64 h3054) (fun S3055 M3055 hS3055 hM3055 => ?_)
    exact qs_tr (show vi _ _ from k_0) hS3055 hM3055
  · intro v3054 S3054 M3054 hS3054 hM3054
    dsimp only
    refine qs_ite Iff.rfl ?_ ?_
    · exact qs_tr (show vi _ _ from k_1) hS3054 hM3054
    · exact qs_none
set_option maxRecDepth 20000 in
theorem qz_X18_isDay {P : Nat → Nat} {S : zm_S} {M : qm} {i0 : Int32} {qi0 : Int} (hS : Sh L xs P S) (hM : qM P S = M) (ei0 : i0.toInt = qi0) : qs (zf_X18_isDay 20000 i0 S) (qf_X18_isDay 20000 qi0 M) (tO (rp L xs P M vi)) := by
  unfold zf_X18_isDay qf_X18_isDay
  refine qs_ite (c_lt ei0 k_0) ?_ ?_
  · exact qs_tp (show vi _ _ from k_0) hS hM
  · refine qs_ite (c_lt k_1000000 ei0) ?_ ?_
    · exact qs_tp (show vi _ _ from k_0) hS hM
    · exact qs_tp (show vi _ _ from k_1) hS hM
set_option maxRecDepth 20000 in
theorem qz_X15_push_L6_b (n : Nat) {P : Nat → Nat} {S : zm_S} {M : qm} {j1 : Int64} {qj1 : Int} {j3 : Int64} {qj3 : Int} {j5 : Int64} {qj5 : Int} {j7 : Int64} {qj7 : Int} (hS : Sh L xs P S) (hM : qM P S = M) (ej1 : j1.toInt = qj1) (ej3 : j3.toInt = qj3) (ej5 : j5.toInt = qj5) (ej7 : j7.toInt = qj7) : qs (zf_X15_push_L6 20000 (n + 1) 2184 j1 j3 j5 j7 S) (qf_X15_push_L6_b 20000 qj1 qj3 qj5 qj7 M) (tk (vs (rp L xs P M vu) (rp L xs P M vl)) (qc_X15_push_L6 L xs P M (zf_X15_push_L6 20000 n))) := by
  refine qs_eq (zf_X15_push_L6.eq_2 ..) ?_
  unfold qf_X15_push_L6_b
  refine qs_ite (g_eq ej7 kl_0) ?_ ?_
  · exact qs_tp2 (show vl _ _ from ej5) hS hM
  · refine qs_ite (cl_eq ej7 kl_0) ?_ ?_
    · exact qs_none
    · exact qs_tk ⟨_, _, _, _, _, rfl, ej1, ej3, ej7, (pl_mod ej5 ej7), hS, hM⟩
theorem qz_X15_push_L6 (n : Nat) : ∀ {P : Nat → Nat} {S : zm_S} {M : qm} {j1 : Int64} {qj1 : Int} {j3 : Int64} {qj3 : Int} {j5 : Int64} {qj5 : Int} {j7 : Int64} {qj7 : Int} (hS : Sh L xs P S) (hM : qM P S = M) (ej1 : j1.toInt = qj1) (ej3 : j3.toInt = qj3) (ej5 : j5.toInt = qj5) (ej7 : j7.toInt = qj7), qs (zf_X15_push_L6 20000 n 2184 j1 j3 j5 j7 S) (qf_X15_push_L6 20000 n qj1 qj3 qj5 qj7 M) (tO (vs (rp L xs P M vu) (rp L xs P M vl))) := by
  induction n with
  | zero =>
    intros
    exact qs_none
  | succ n ih =>
    intro P S M j1 qj1 j3 qj3 j5 qj5 j7 qj7 hS hM ej1 ej3 ej5 ej7
    unfold qf_X15_push_L6
    refine qs_loop (C := (qc_X15_push_L6 L xs P M (zf_X15_push_L6 20000 n))) (qz_X15_push_L6_b n hS hM ej1 ej3 ej5 ej7) ?_
    rintro x s ⟨_, _, _, _, _, rfl, u0, u1, u2, u3, hS2, hM2⟩
    exact ih hS2 hM2 u0 u1 u2 u3
set_option maxRecDepth 20000 in
theorem qz_X15_push_J171 {P : Nat → Nat} {S : zm_S} {M : qm}  (hS : Sh L xs P S) (hM : qM P S = M)  : qs (zf_X15_push_J171 20000 2184 S) (qf_X15_push_J171 20000 M) (tO (rr L xs P vu)) := by
  unfold zf_X15_push_J171 qf_X15_push_J171
  refine qs_gi hS hM pl_2184 ts_2184 (z := 39) rfl rfl (fun v3056 h3056 => ?_)
  refine qs_pi hS hM pl_2184 ts_2184 (z := 39) rfl rfl (p_add h3056 k_1) (fun S3057 M3057 hS3057 hM3057 => ?_)
  exact qs_tr (show vu _ _ from trivial) hS3057 hM3057
set_option maxRecDepth 20000 in
theorem qz_X15_opens {P : Nat → Nat} {S : zm_S} {M : qm} {i1 : Int32} {qi1 : Int} {j2 : Int64} {qj2 : Int} (hS : Sh L xs P S) (hM : qM P S = M) (ei1 : i1.toInt = qi1) (ej2 : j2.toInt = qj2) : qs (zf_X15_opens 20000 2184 i1 j2 S) (qf_X15_opens 20000 qi1 qj2 M) (tO (rr L xs P vu)) := by
  unfold zf_X15_opens qf_X15_opens
  refine qs_gi hS hM pl_2184 ts_2184 (z := 40) rfl rfl (fun v3058 h3058 => ?_)
  refine qs_ite (c_eq h3058 k_0) ?_ ?_
  · refine qs_pi hS hM pl_2184 ts_2184 (z := 40) rfl rfl ei1 (fun S3059 M3059 hS3059 hM3059 => ?_)
    refine qs_pl hS3059 hM3059 pl_2184 ts_2184 (z := 41) rfl rfl ej2 (fun S3060 M3060 hS3060 hM3060 => ?_)
    exact qs_tr (show vu _ _ from trivial) hS3060 hM3060
  · exact qs_tr (show vu _ _ from trivial) hS hM
set_option maxRecDepth 20000 in
theorem qz_X15_push_J133 {P : Nat → Nat} {S : zm_S} {M : qm}  (hS : Sh L xs P S) (hM : qM P S = M)  : qs (zf_X15_push_J133 20000 2184 S) (qf_X15_push_J133 20000 M) (tO (rr L xs P vu)) := by
  unfold zf_X15_push_J133 qf_X15_push_J133
  refine qs_gr hS pl_2184 ts_2184 rfl ?_
  refine qs_gi hS hM pl_2184 ts_2184 (z := 39) rfl rfl (fun v3062 h3062 => ?_)
  refine qs_gr hS pl_2184 ts_2184 rfl ?_
  refine qs_gi hS hM pl_2184 ts_2184 (z := 39) rfl rfl (fun v3064 h3064 => ?_)
  refine qs_gd (fun g3066 => ?_)
  refine qs_xl hM (pa_p hS pl_2206 ts_2206) h3064 g3066 (fun v3065 h3065 => ?_)
  refine qs_gd (fun g3068 => ?_)
  refine qs_sl hS hM (pa_p hS pl_2206 ts_2206) h3062 g3068 (pl_neg h3065) (fun S3067 M3067 hS3067 hM3067 => ?_)
  refine qs_gr hS3067 pl_2184 ts_2184 rfl ?_
  refine qs_gi hS3067 hM3067 pl_2184 ts_2184 (z := 39) rfl rfl (fun v3070 h3070 => ?_)
  refine qs_gr hS3067 pl_2184 ts_2184 rfl ?_
  refine qs_gi hS3067 hM3067 pl_2184 ts_2184 (z := 39) rfl rfl (fun v3072 h3072 => ?_)
  refine qs_gd (fun g3074 => ?_)
  refine qs_xl hM3067 (pa_p hS3067 pl_2207 ts_2207) h3072 g3074 (fun v3073 h3073 => ?_)
  refine qs_gd (fun g3076 => ?_)
  refine qs_sl hS3067 hM3067 (pa_p hS3067 pl_2207 ts_2207) h3070 g3076 (pl_neg h3073) (fun S3075 M3075 hS3075 hM3075 => ?_)
  exact (qz_X15_push_J171 hS3075 hM3075 )
set_option maxRecDepth 20000 in
theorem qz_X15_push_J127 {P : Nat → Nat} {S : zm_S} {M : qm}  (hS : Sh L xs P S) (hM : qM P S = M)  : qs (zf_X15_push_J127 20000 2184 S) (qf_X15_push_J127 20000 M) (tO (rr L xs P vu)) := by
  unfold zf_X15_push_J127 qf_X15_push_J127
  refine qs_zi hS pl_2184 ts_2184 ?_
  refine qs_b (qz_X15_opens hS hM k_2 kl_0) (fun v3078 S3078 w3078 M3078 h3078 hS3078 hM3078 => ?_)
  exact (qz_X15_push_J133 hS3078 hM3078 )
set_option maxRecDepth 20000 in
theorem qz_X15_push_J46 {P : Nat → Nat} {S : zm_S} {M : qm} {j1 : Int64} {qj1 : Int} {j3 : Int64} {qj3 : Int} {t0 : Int64} {qt0 : Int} (hS : Sh L xs P S) (hM : qM P S = M) (ej1 : j1.toInt = qj1) (ej3 : j3.toInt = qj3) (et0 : t0.toInt = qt0) : qs (zf_X15_push_J46 20000 2184 j1 j3 t0 S) (qf_X15_push_J46 20000 qj1 qj3 qt0 M) (tO (rr L xs P vu)) := by
  unfold zf_X15_push_J46 qf_X15_push_J46
  refine qs_ite (g_eq et0 kl_0) ?_ ?_
  · exact (qz_X15_push_J171 hS hM )
  · refine qs_gr hS pl_2184 ts_2184 rfl ?_
    refine qs_gi hS hM pl_2184 ts_2184 (z := 39) rfl rfl (fun v3080 h3080 => ?_)
    refine qs_ite (cl_eq et0 kl_0) ?_ ?_
    · exact qs_none
    · refine qs_gd (fun g3082 => ?_)
      refine qs_sl hS hM (pa_p hS pl_2206 ts_2206) h3080 g3082 (pl_divw ej1 et0) (fun S3081 M3081 hS3081 hM3081 => ?_)
      refine qs_gr hS3081 pl_2184 ts_2184 rfl ?_
      refine qs_gi hS3081 hM3081 pl_2184 ts_2184 (z := 39) rfl rfl (fun v3084 h3084 => ?_)
      refine qs_ite (cl_eq et0 kl_0) ?_ ?_
      · exact qs_none
      · refine qs_gd (fun g3086 => ?_)
        refine qs_sl hS3081 hM3081 (pa_p hS3081 pl_2207 ts_2207) h3084 g3086 (pl_divw ej3 et0) (fun S3085 M3085 hS3085 hM3085 => ?_)
        refine qs_gr hS3085 pl_2184 ts_2184 rfl ?_
        refine qs_gi hS3085 hM3085 pl_2184 ts_2184 (z := 39) rfl rfl (fun v3088 h3088 => ?_)
        refine qs_gd (fun g3090 => ?_)
        refine qs_xl hM3085 (pa_p hS3085 pl_2207 ts_2207) h3088 g3090 (fun v3089 h3089 => ?_)
        refine qs_ite (g0_le h3089 kl_0) ?_ ?_
        · exact (qz_X15_push_J171 hS3085 hM3085 )
        · refine qs_gr hS3085 pl_2184 ts_2184 rfl ?_
          refine qs_gi hS3085 hM3085 pl_2184 ts_2184 (z := 39) rfl rfl (fun v3092 h3092 => ?_)
          refine qs_gd (fun g3094 => ?_)
          refine qs_xl hM3085 (pa_p hS3085 pl_2206 ts_2206) h3092 g3094 (fun v3093 h3093 => ?_)
          refine qs_ite (g_eq h3093 kl_m9223372036854775808) ?_ ?_
          · exact (qz_X15_push_J127 hS3085 hM3085 )
          · refine qs_gr hS3085 pl_2184 ts_2184 rfl ?_
            refine qs_gi hS3085 hM3085 pl_2184 ts_2184 (z := 39) rfl rfl (fun v3096 h3096 => ?_)
            refine qs_gd (fun g3098 => ?_)
            refine qs_xl hM3085 (pa_p hS3085 pl_2207 ts_2207) h3096 g3098 (fun v3097 h3097 => ?_)
            refine qs_ite (g_eq h3097 kl_m9223372036854775808) ?_ ?_
            · exact (qz_X15_push_J127 hS3085 hM3085 )
            · exact (qz_X15_push_J133 hS3085 hM3085 )
set_option maxRecDepth 20000 in
theorem qz_X15_push {P : Nat → Nat} {S : zm_S} {M : qm} {j1 : Int64} {qj1 : Int} {j3 : Int64} {qj3 : Int} (hS : Sh L xs P S) (hM : qM P S = M) (ej1 : j1.toInt = qj1) (ej3 : j3.toInt = qj3) : qs (zf_X15_push 20000 2184 j1 j3 S) (qf_X15_push 20000 qj1 qj3 M) (tO (rr L xs P vu)) := by
  unfold zf_X15_push qf_X15_push
  refine qs_lp (qz_X15_push_L6 20000 hS hM ej1 ej3 ej1 ej3) ?_ ?_
  · intro v3100 S3100 w3100 h3100 hS3100 hM3100
    dsimp only
    exact qs_tr h3100 hS3100 hM3100
  · intro v3100 S3100 w3100 h3100 hS3100 hM3100
    dsimp only
    refine qs_ite (g0_le h3100 kl_0) ?_ ?_
    · exact (qz_X15_push_J46 hS3100 hM3100 ej1 ej3 h3100)
    · exact (qz_X15_push_J46 hS3100 hM3100 ej1 ej3 (pl_neg h3100))
set_option maxRecDepth 20000 in
theorem qz_X15_times_J35 {P : Nat → Nat} {S : zm_S} {M : qm} {j5 : Int64} {qj5 : Int} (hS : Sh L xs P S) (hM : qM P S = M) (ej5 : j5.toInt = qj5) : qs (zf_X15_times_J35 20000 2184 j5 S) (qf_X15_times_J35 20000 qj5 M) (tO (rr L xs P vl)) := by
  unfold zf_X15_times_J35 qf_X15_times_J35
  refine qs_zi hS pl_2184 ts_2184 ?_
  refine qs_b (qz_X15_opens hS hM k_2 kl_0) (fun v3102 S3102 w3102 M3102 h3102 hS3102 hM3102 => ?_)
  exact qs_tr (show vl _ _ from ej5) hS3102 hM3102
set_option maxRecDepth 20000 in
theorem qz_X15_times {P : Nat → Nat} {S : zm_S} {M : qm} {j1 : Int64} {qj1 : Int} {j3 : Int64} {qj3 : Int} (hS : Sh L xs P S) (hM : qM P S = M) (ej1 : j1.toInt = qj1) (ej3 : j3.toInt = qj3) : qs (zf_X15_times 20000 2184 j1 j3 S) (qf_X15_times 20000 qj1 qj3 M) (tO (rr L xs P vl)) := by
  unfold zf_X15_times qf_X15_times
  refine qs_ite (g_eq ej1 kl_0) ?_ ?_
  · exact qs_tr (show vl _ _ from (pl_mul ej1 ej3)) hS hM
  · refine qs_ite (g_eq ej3 kl_0) ?_ ?_
    · exact qs_tr (show vl _ _ from (pl_mul ej1 ej3)) hS hM
    · refine qs_ite (cl_eq ej3 kl_0) ?_ ?_
      · exact qs_none
      · refine qs_ite (g_eq (pl_divw (pl_mul ej1 ej3) ej3) ej1) ?_ ?_
        · refine qs_ite (cl_eq ej1 kl_0) ?_ ?_
          · exact qs_none
          · refine qs_ite (g_eq (pl_divw (pl_mul ej1 ej3) ej1) ej3) ?_ ?_
            · exact qs_tr (show vl _ _ from (pl_mul ej1 ej3)) hS hM
            · exact (qz_X15_times_J35 hS hM (pl_mul ej1 ej3))
        · exact (qz_X15_times_J35 hS hM (pl_mul ej1 ej3))
set_option maxRecDepth 20000 in
theorem qz_X15_plus_J136 {P : Nat → Nat} {S : zm_S} {M : qm} {j6 : Int64} {qj6 : Int} {t0 : Int32} {qt0 : Int} (hS : Sh L xs P S) (hM : qM P S = M) (ej6 : j6.toInt = qj6) (et0 : t0.toInt = qt0) : qs (zf_X15_plus_J136 20000 2184 j6 t0 S) (qf_X15_plus_J136 20000 qj6 qt0 M) (tO (rr L xs P vl)) := by
  unfold zf_X15_plus_J136 qf_X15_plus_J136
  refine qs_ite (c_eq et0 k_0) ?_ ?_
  · exact qs_tr (show vl _ _ from ej6) hS hM
  · refine qs_zi hS pl_2184 ts_2184 ?_
    refine qs_b (qz_X15_opens hS hM k_2 kl_0) (fun v3104 S3104 w3104 M3104 h3104 hS3104 hM3104 => ?_)
    exact qs_tr (show vl _ _ from ej6) hS3104 hM3104
set_option maxRecDepth 20000 in
theorem qz_X15_plus_J135 {P : Nat → Nat} {S : zm_S} {M : qm} {j6 : Int64} {qj6 : Int} (hS : Sh L xs P S) (hM : qM P S = M) (ej6 : j6.toInt = qj6) : qs (zf_X15_plus_J135 20000 2184 j6 S) (qf_X15_plus_J135 20000 qj6 M) (tO (rr L xs P vl)) := by
  unfold zf_X15_plus_J135 qf_X15_plus_J135
  exact (qz_X15_plus_J136 hS hM ej6 k_0)
set_option maxRecDepth 20000 in
theorem qz_X15_plus_J128 {P : Nat → Nat} {S : zm_S} {M : qm} {j6 : Int64} {qj6 : Int} {t0 : Int32} {qt0 : Int} {t1 : Int32} {qt1 : Int} (hS : Sh L xs P S) (hM : qM P S = M) (ej6 : j6.toInt = qj6) (et0 : t0.toInt = qt0) (et1 : t1.toInt = qt1) : qs (zf_X15_plus_J128 20000 2184 j6 t0 t1 S) (qf_X15_plus_J128 20000 qj6 qt0 qt1 M) (tO (rr L xs P vl)) := by
  unfold zf_X15_plus_J128 qf_X15_plus_J128
  refine qs_ite (c_eq et0 et1) ?_ ?_
  · exact (qz_X15_plus_J135 hS hM ej6)
  · exact (qz_X15_plus_J136 hS hM ej6 k_1)
set_option maxRecDepth 20000 in
theorem qz_X15_plus_J117 {P : Nat → Nat} {S : zm_S} {M : qm} {j1 : Int64} {qj1 : Int} {j6 : Int64} {qj6 : Int} {t0 : Int32} {qt0 : Int} (hS : Sh L xs P S) (hM : qM P S = M) (ej1 : j1.toInt = qj1) (ej6 : j6.toInt = qj6) (et0 : t0.toInt = qt0) : qs (zf_X15_plus_J117 20000 2184 j1 j6 t0 S) (qf_X15_plus_J117 20000 qj1 qj6 qt0 M) (tO (rr L xs P vl)) := by
  unfold zf_X15_plus_J117 qf_X15_plus_J117
  refine qs_ite (g0_le ej1 kl_0) ?_ ?_
  · exact (qz_X15_plus_J128 hS hM ej6 et0 k_0)
  · exact (qz_X15_plus_J128 hS hM ej6 et0 k_1)
set_option maxRecDepth 20000 in
theorem qz_X15_plus_J102 {P : Nat → Nat} {S : zm_S} {M : qm} {j1 : Int64} {qj1 : Int} {j6 : Int64} {qj6 : Int} {t0 : Int32} {qt0 : Int} {t1 : Int32} {qt1 : Int} (hS : Sh L xs P S) (hM : qM P S = M) (ej1 : j1.toInt = qj1) (ej6 : j6.toInt = qj6) (et0 : t0.toInt = qt0) (et1 : t1.toInt = qt1) : qs (zf_X15_plus_J102 20000 2184 j1 j6 t0 t1 S) (qf_X15_plus_J102 20000 qj1 qj6 qt0 qt1 M) (tO (rr L xs P vl)) := by
  unfold zf_X15_plus_J102 qf_X15_plus_J102
  refine qs_ite (c_eq et0 et1) ?_ ?_
  · refine qs_ite (g0_le ej6 kl_0) ?_ ?_
    · exact (qz_X15_plus_J117 hS hM ej1 ej6 k_0)
    · exact (qz_X15_plus_J117 hS hM ej1 ej6 k_1)
  · exact (qz_X15_plus_J135 hS hM ej6)
set_option maxRecDepth 20000 in
theorem qz_X15_plus_J91 {P : Nat → Nat} {S : zm_S} {M : qm} {j1 : Int64} {qj1 : Int} {j3 : Int64} {qj3 : Int} {j6 : Int64} {qj6 : Int} {t0 : Int32} {qt0 : Int} (hS : Sh L xs P S) (hM : qM P S = M) (ej1 : j1.toInt = qj1) (ej3 : j3.toInt = qj3) (ej6 : j6.toInt = qj6) (et0 : t0.toInt = qt0) : qs (zf_X15_plus_J91 20000 2184 j1 j3 j6 t0 S) (qf_X15_plus_J91 20000 qj1 qj3 qj6 qt0 M) (tO (rr L xs P vl)) := by
  unfold zf_X15_plus_J91 qf_X15_plus_J91
  refine qs_ite (g0_le ej3 kl_0) ?_ ?_
  · exact (qz_X15_plus_J102 hS hM ej1 ej6 et0 k_0)
  · exact (qz_X15_plus_J102 hS hM ej1 ej6 et0 k_1)
set_option maxRecDepth 20000 in
theorem qz_X15_plus_J76 {P : Nat → Nat} {S : zm_S} {M : qm} {j6 : Int64} {qj6 : Int} (hS : Sh L xs P S) (hM : qM P S = M) (ej6 : j6.toInt = qj6) : qs (zf_X15_plus_J76 20000 2184 j6 S) (qf_X15_plus_J76 20000 qj6 M) (tO (rr L xs P vl)) := by
  unfold zf_X15_plus_J76 qf_X15_plus_J76
  exact (qz_X15_plus_J136 hS hM ej6 k_0)
set_option maxRecDepth 20000 in
theorem qz_X15_plus_J69 {P : Nat → Nat} {S : zm_S} {M : qm} {j6 : Int64} {qj6 : Int} {t0 : Int32} {qt0 : Int} {t1 : Int32} {qt1 : Int} (hS : Sh L xs P S) (hM : qM P S = M) (ej6 : j6.toInt = qj6) (et0 : t0.toInt = qt0) (et1 : t1.toInt = qt1) : qs (zf_X15_plus_J69 20000 2184 j6 t0 t1 S) (qf_X15_plus_J69 20000 qj6 qt0 qt1 M) (tO (rr L xs P vl)) := by
  unfold zf_X15_plus_J69 qf_X15_plus_J69
  refine qs_ite (c_eq et0 et1) ?_ ?_
  · exact (qz_X15_plus_J76 hS hM ej6)
  · exact (qz_X15_plus_J136 hS hM ej6 k_1)
set_option maxRecDepth 20000 in
theorem qz_X15_plus_J58 {P : Nat → Nat} {S : zm_S} {M : qm} {j1 : Int64} {qj1 : Int} {j6 : Int64} {qj6 : Int} {t0 : Int32} {qt0 : Int} (hS : Sh L xs P S) (hM : qM P S = M) (ej1 : j1.toInt = qj1) (ej6 : j6.toInt = qj6) (et0 : t0.toInt = qt0) : qs (zf_X15_plus_J58 20000 2184 j1 j6 t0 S) (qf_X15_plus_J58 20000 qj1 qj6 qt0 M) (tO (rr L xs P vl)) := by
  unfold zf_X15_plus_J58 qf_X15_plus_J58
  refine qs_ite (g0_le ej1 kl_0) ?_ ?_
  · exact (qz_X15_plus_J69 hS hM ej6 et0 k_0)
  · exact (qz_X15_plus_J69 hS hM ej6 et0 k_1)
set_option maxRecDepth 20000 in
theorem qz_X15_plus_J43 {P : Nat → Nat} {S : zm_S} {M : qm} {j1 : Int64} {qj1 : Int} {j6 : Int64} {qj6 : Int} {t0 : Int32} {qt0 : Int} {t1 : Int32} {qt1 : Int} (hS : Sh L xs P S) (hM : qM P S = M) (ej1 : j1.toInt = qj1) (ej6 : j6.toInt = qj6) (et0 : t0.toInt = qt0) (et1 : t1.toInt = qt1) : qs (zf_X15_plus_J43 20000 2184 j1 j6 t0 t1 S) (qf_X15_plus_J43 20000 qj1 qj6 qt0 qt1 M) (tO (rr L xs P vl)) := by
  unfold zf_X15_plus_J43 qf_X15_plus_J43
  refine qs_ite (c_eq et0 et1) ?_ ?_
  · exact (qz_X15_plus_J76 hS hM ej6)
  · refine qs_ite (g0_le ej6 kl_0) ?_ ?_
    · exact (qz_X15_plus_J58 hS hM ej1 ej6 k_0)
    · exact (qz_X15_plus_J58 hS hM ej1 ej6 k_1)
set_option maxRecDepth 20000 in
theorem qz_X15_plus_J32 {P : Nat → Nat} {S : zm_S} {M : qm} {j1 : Int64} {qj1 : Int} {j3 : Int64} {qj3 : Int} {j6 : Int64} {qj6 : Int} {t0 : Int32} {qt0 : Int} (hS : Sh L xs P S) (hM : qM P S = M) (ej1 : j1.toInt = qj1) (ej3 : j3.toInt = qj3) (ej6 : j6.toInt = qj6) (et0 : t0.toInt = qt0) : qs (zf_X15_plus_J32 20000 2184 j1 j3 j6 t0 S) (qf_X15_plus_J32 20000 qj1 qj3 qj6 qt0 M) (tO (rr L xs P vl)) := by
  unfold zf_X15_plus_J32 qf_X15_plus_J32
  refine qs_ite (g0_le ej3 kl_0) ?_ ?_
  · exact (qz_X15_plus_J43 hS hM ej1 ej6 et0 k_0)
  · exact (qz_X15_plus_J43 hS hM ej1 ej6 et0 k_1)
set_option maxRecDepth 20000 in
theorem qz_X15_plus_J14 {P : Nat → Nat} {S : zm_S} {M : qm} {j1 : Int64} {qj1 : Int} {j3 : Int64} {qj3 : Int} {i5 : Int32} {qi5 : Int} {t0 : Int64} {qt0 : Int} (hS : Sh L xs P S) (hM : qM P S = M) (ej1 : j1.toInt = qj1) (ej3 : j3.toInt = qj3) (ei5 : i5.toInt = qi5) (et0 : t0.toInt = qt0) : qs (zf_X15_plus_J14 20000 2184 j1 j3 i5 t0 S) (qf_X15_plus_J14 20000 qj1 qj3 qi5 qt0 M) (tO (rr L xs P vl)) := by
  unfold zf_X15_plus_J14 qf_X15_plus_J14
  refine qs_ite (c_eq ei5 k_0) ?_ ?_
  · refine qs_ite (g0_le ej1 kl_0) ?_ ?_
    · exact (qz_X15_plus_J91 hS hM ej1 ej3 et0 k_0)
    · exact (qz_X15_plus_J91 hS hM ej1 ej3 et0 k_1)
  · refine qs_ite (g0_le ej1 kl_0) ?_ ?_
    · exact (qz_X15_plus_J32 hS hM ej1 ej3 et0 k_0)
    · exact (qz_X15_plus_J32 hS hM ej1 ej3 et0 k_1)
set_option maxRecDepth 20000 in
theorem qz_X15_plus {P : Nat → Nat} {S : zm_S} {M : qm} {j1 : Int64} {qj1 : Int} {j3 : Int64} {qj3 : Int} {i5 : Int32} {qi5 : Int} (hS : Sh L xs P S) (hM : qM P S = M) (ej1 : j1.toInt = qj1) (ej3 : j3.toInt = qj3) (ei5 : i5.toInt = qi5) : qs (zf_X15_plus 20000 2184 j1 j3 i5 S) (qf_X15_plus 20000 qj1 qj3 qi5 M) (tO (rr L xs P vl)) := by
  unfold zf_X15_plus qf_X15_plus
  refine qs_ite (c_eq ei5 k_0) ?_ ?_
  · exact (qz_X15_plus_J14 hS hM ej1 ej3 ei5 (pl_add ej1 ej3))
  · exact (qz_X15_plus_J14 hS hM ej1 ej3 ei5 (pl_sub ej1 ej3))
set_option maxRecDepth 20000 in
theorem qz_X15_operate_J158 {P : Nat → Nat} {S : zm_S} {M : qm} {j4 : Int64} {qj4 : Int} {j8 : Int64} {qj8 : Int} {t2 : Int64} {qt2 : Int} {t3 : Int64} {qt3 : Int} {t4 : Int32} {qt4 : Int} (hS : Sh L xs P S) (hM : qM P S = M) (ej4 : j4.toInt = qj4) (ej8 : j8.toInt = qj8) (et2 : t2.toInt = qt2) (et3 : t3.toInt = qt3) (et4 : t4.toInt = qt4) : qs (zf_X15_operate_J158 20000 2184 j4 j8 2184 2184 t2 t3 t4 S) (qf_X15_operate_J158 20000 qj4 qj8 qt2 qt3 qt4 M) (tO (rr L xs P vu)) := by
  unfold zf_X15_operate_J158 qf_X15_operate_J158
  refine qs_zi hS pl_2184 ts_2184 ?_
  refine qs_b (qz_X15_plus hS hM et2 et3 et4) (fun v3106 S3106 w3106 M3106 h3106 hS3106 hM3106 => ?_)
  refine qs_zi hS3106 pl_2184 ts_2184 ?_
  refine qs_b (qz_X15_times hS3106 hM3106 ej4 ej8) (fun v3108 S3108 w3108 M3108 h3108 hS3108 hM3108 => ?_)
  refine qs_zi hS3108 pl_2184 ts_2184 ?_
  refine qs_b (qz_X15_push hS3108 hM3108 h3106 h3108) (fun v3110 S3110 w3110 M3110 h3110 hS3110 hM3110 => ?_)
  exact qs_tr (show vu _ _ from trivial) hS3110 hM3110
set_option maxRecDepth 20000 in
theorem qz_X15_operate_J122 {P : Nat → Nat} {S : zm_S} {M : qm} {t1 : Int64} {qt1 : Int} {t3 : Int64} {qt3 : Int} {t4 : Int64} {qt4 : Int} (hS : Sh L xs P S) (hM : qM P S = M) (et1 : t1.toInt = qt1) (et3 : t3.toInt = qt3) (et4 : t4.toInt = qt4) : qs (zf_X15_operate_J122 20000 2184 t1 2184 t3 t4 S) (qf_X15_operate_J122 20000 qt1 qt3 qt4 M) (tO (rr L xs P vu)) := by
  unfold zf_X15_operate_J122 qf_X15_operate_J122
  refine qs_zi hS pl_2184 ts_2184 ?_
  refine qs_b (qz_X15_times hS hM et3 et4) (fun v3112 S3112 w3112 M3112 h3112 hS3112 hM3112 => ?_)
  refine qs_zi hS3112 pl_2184 ts_2184 ?_
  refine qs_b (qz_X15_push hS3112 hM3112 et1 h3112) (fun v3114 S3114 w3114 M3114 h3114 hS3114 hM3114 => ?_)
  exact qs_tr (show vu _ _ from trivial) hS3114 hM3114
set_option maxRecDepth 20000 in
theorem qz_X15_operate_J104 {P : Nat → Nat} {S : zm_S} {M : qm} {i1 : Int32} {qi1 : Int} {j4 : Int64} {qj4 : Int} {j6 : Int64} {qj6 : Int} {j8 : Int64} {qj8 : Int} {t2 : Int64} {qt2 : Int} {t3 : Int64} {qt3 : Int} (hS : Sh L xs P S) (hM : qM P S = M) (ei1 : i1.toInt = qi1) (ej4 : j4.toInt = qj4) (ej6 : j6.toInt = qj6) (ej8 : j8.toInt = qj8) (et2 : t2.toInt = qt2) (et3 : t3.toInt = qt3) : qs (zf_X15_operate_J104 20000 2184 i1 j4 j6 j8 2184 2184 t2 t3 S) (qf_X15_operate_J104 20000 qi1 qj4 qj6 qj8 qt2 qt3 M) (tO (rr L xs P vu)) := by
  unfold zf_X15_operate_J104 qf_X15_operate_J104
  refine qs_zi hS pl_2184 ts_2184 ?_
  refine qs_b (qz_X15_times hS hM et2 et3) (fun v3116 S3116 w3116 M3116 h3116 hS3116 hM3116 => ?_)
  refine qs_ite (c_eq ei1 k_4) ?_ ?_
  · exact (qz_X15_operate_J122 hS3116 hM3116 h3116 ej4 ej8)
  · exact (qz_X15_operate_J122 hS3116 hM3116 h3116 ej4 ej6)
set_option maxRecDepth 20000 in
theorem qz_X15_operate_J84 {P : Nat → Nat} {S : zm_S} {M : qm} {i1 : Int32} {qi1 : Int} {j2 : Int64} {qj2 : Int} {j4 : Int64} {qj4 : Int} {j6 : Int64} {qj6 : Int} {j8 : Int64} {qj8 : Int} (hS : Sh L xs P S) (hM : qM P S = M) (ei1 : i1.toInt = qi1) (ej2 : j2.toInt = qj2) (ej4 : j4.toInt = qj4) (ej6 : j6.toInt = qj6) (ej8 : j8.toInt = qj8) : qs (zf_X15_operate_J84 20000 2184 i1 j2 j4 j6 j8 S) (qf_X15_operate_J84 20000 qi1 qj2 qj4 qj6 qj8 M) (tO (rr L xs P vu)) := by
  unfold zf_X15_operate_J84 qf_X15_operate_J84
  refine qs_ite (c_le ei1 k_3) ?_ ?_
  · refine qs_zi hS pl_2184 ts_2184 ?_
    refine qs_b (qz_X15_times hS hM ej2 ej8) (fun v3118 S3118 w3118 M3118 h3118 hS3118 hM3118 => ?_)
    refine qs_zi hS3118 pl_2184 ts_2184 ?_
    refine qs_b (qz_X15_times hS3118 hM3118 ej6 ej4) (fun v3120 S3120 w3120 M3120 h3120 hS3120 hM3120 => ?_)
    refine qs_ite (c_eq ei1 k_3) ?_ ?_
    · exact (qz_X15_operate_J158 hS3120 hM3120 ej4 ej8 h3118 h3120 k_1)
    · exact (qz_X15_operate_J158 hS3120 hM3120 ej4 ej8 h3118 h3120 k_0)
  · refine qs_ite (c_eq ei1 k_4) ?_ ?_
    · exact (qz_X15_operate_J104 hS hM ei1 ej4 ej6 ej8 ej2 ej6)
    · exact (qz_X15_operate_J104 hS hM ei1 ej4 ej6 ej8 ej2 ej8)
set_option maxRecDepth 20000 in
theorem qz_X15_operate {P : Nat → Nat} {S : zm_S} {M : qm} {i1 : Int32} {qi1 : Int} (hS : Sh L xs P S) (hM : qM P S = M) (ei1 : i1.toInt = qi1) : qs (zf_X15_operate 20000 2184 i1 S) (qf_X15_operate 20000 qi1 M) (tO (rr L xs P vu)) := by
  unfold zf_X15_operate qf_X15_operate
  refine qs_gi hS hM pl_2184 ts_2184 (z := 39) rfl rfl (fun v3121 h3121 => ?_)
  refine qs_pi hS hM pl_2184 ts_2184 (z := 39) rfl rfl (p_sub h3121 k_2) (fun S3122 M3122 hS3122 hM3122 => ?_)
  refine qs_gr hS3122 pl_2184 ts_2184 rfl ?_
  refine qs_gi hS3122 hM3122 pl_2184 ts_2184 (z := 39) rfl rfl (fun v3124 h3124 => ?_)
  refine qs_gd (fun g3126 => ?_)
  refine qs_xl hM3122 (pa_p hS3122 pl_2206 ts_2206) h3124 g3126 (fun v3125 h3125 => ?_)
  refine qs_gr hS3122 pl_2184 ts_2184 rfl ?_
  refine qs_gi hS3122 hM3122 pl_2184 ts_2184 (z := 39) rfl rfl (fun v3128 h3128 => ?_)
  refine qs_gd (fun g3130 => ?_)
  refine qs_xl hM3122 (pa_p hS3122 pl_2207 ts_2207) h3128 g3130 (fun v3129 h3129 => ?_)
  refine qs_gr hS3122 pl_2184 ts_2184 rfl ?_
  refine qs_gi hS3122 hM3122 pl_2184 ts_2184 (z := 39) rfl rfl (fun v3132 h3132 => ?_)
  refine qs_gd (fun g3134 => ?_)
  refine qs_xl hM3122 (pa_p hS3122 pl_2206 ts_2206) (p_add h3132 k_1) g3134 (fun v3133 h3133 => ?_)
  refine qs_gr hS3122 pl_2184 ts_2184 rfl ?_
  refine qs_gi hS3122 hM3122 pl_2184 ts_2184 (z := 39) rfl rfl (fun v3136 h3136 => ?_)
  refine qs_gd (fun g3138 => ?_)
  refine qs_xl hM3122 (pa_p hS3122 pl_2207 ts_2207) (p_add h3136 k_1) g3138 (fun v3137 h3137 => ?_)
  refine qs_ite (c_eq ei1 k_5) ?_ ?_
  · refine qs_ite (g_eq h3133 kl_0) ?_ ?_
    · refine qs_zi hS3122 pl_2184 ts_2184 ?_
      refine qs_b (qz_X15_opens hS3122 hM3122 k_3 kl_0) (fun v3140 S3140 w3140 M3140 h3140 hS3140 hM3140 => ?_)
      refine qs_zi hS3140 pl_2184 ts_2184 ?_
      refine qs_b (qz_X15_push hS3140 hM3140 kl_0 kl_1) (fun v3142 S3142 w3142 M3142 h3142 hS3142 hM3142 => ?_)
      exact qs_tr (show vu _ _ from trivial) hS3142 hM3142
    · exact (qz_X15_operate_J84 hS3122 hM3122 ei1 h3125 h3129 h3133 h3137)
  · exact (qz_X15_operate_J84 hS3122 hM3122 ei1 h3125 h3129 h3133 h3137)
set_option maxRecDepth 20000 in
theorem qz_X15_reckon_L7_b (n : Nat) {P : Nat → Nat} {S : zm_S} {M : qm} {i2 : Int32} {qi2 : Int} {i3 : Int32} {qi3 : Int} (hS : Sh L xs P S) (hM : qM P S = M) (ei2 : i2.toInt = qi2) (ei3 : i3.toInt = qi3) : qs (zf_X15_reckon_L7 20000 (n + 1) 2184 i2 i3 S) (qf_X15_reckon_L7_b 20000 qi2 qi3 M) (tk (vs (rr L xs P vu) (rr L xs P vu)) (qc_X15_reckon_L7 L xs P (zf_X15_reckon_L7 20000 n))) := by
  refine qs_eq (zf_X15_reckon_L7.eq_2 ..) ?_
  unfold qf_X15_reckon_L7_b
  refine qs_ite (c_le ei2 ei3) ?_ ?_
  · exact qs_tr2 (show vu _ _ from trivial) hS hM
  · refine qs_gi hS hM pl_2184 ts_2184 (z := 40) rfl rfl (fun v3143 h3143 => ?_)
    refine qs_ite (c_eq h3143 k_0) ?_ ?_
    · refine qs_gr hS pl_2184 ts_2184 rfl ?_
      refine qs_gd (fun g3146 => ?_)
      refine qs_xi hM (pa_p hS pl_2196 ts_2196) ei3 g3146 (fun v3145 h3145 => ?_)
      refine qs_ite (c_eq h3145 k_0) ?_ ?_
      · refine qs_gr hS pl_2184 ts_2184 rfl ?_
        refine qs_gd (fun g3149 => ?_)
        refine qs_xl hM (pa_p hS pl_2197 ts_2197) ei3 g3149 (fun v3148 h3148 => ?_)
        refine qs_zi hS pl_2184 ts_2184 ?_
        refine qs_b (qz_X15_push hS hM h3148 kl_1) (fun v3151 S3151 w3151 M3151 h3151 hS3151 hM3151 => ?_)
        exact qs_tk ⟨_, _, _, rfl, ei2, (p_add ei3 k_1), hS3151, hM3151⟩
      · refine qs_gr hS pl_2184 ts_2184 rfl ?_
        refine qs_gd (fun g3154 => ?_)
        refine qs_xi hM (pa_p hS pl_2196 ts_2196) ei3 g3154 (fun v3153 h3153 => ?_)
        refine qs_ite (c_eq h3153 k_1) ?_ ?_
        · refine qs_gr hS pl_2184 ts_2184 rfl ?_
          refine qs_gd (fun g3157 => ?_)
          refine qs_xl hM (pa_p hS pl_2197 ts_2197) ei3 g3157 (fun v3156 h3156 => ?_)
          refine qs_zi hS pl_2184 ts_2184 ?_
          refine qs_bp (qz_X15_factOf hS hM h3156) (fun v3159 S3159 w3159 h3159 hS3159 hM3159 => ?_)
          refine qs_ite (c_le k_0 h3159) ?_ ?_
          · refine qs_gr hS3159 pl_2184 ts_2184 rfl ?_
            refine qs_gd (fun g3162 => ?_)
            refine qs_xi hM3159 (pa_p hS3159 pl_2187 ts_2187) h3159 g3162 (fun v3161 h3161 => ?_)
            refine qs_zi hS3159 pl_2184 ts_2184 ?_
            refine qs_b (qz_X15_push hS3159 hM3159 (p_64 h3161) kl_1) (fun v3164 S3164 w3164 M3164 h3164 hS3164 hM3164 => ?_)
            exact qs_tk ⟨_, _, _, rfl, ei2, (p_add ei3 k_1), hS3164, hM3164⟩
          · refine qs_gr hS3159 pl_2184 ts_2184 rfl ?_
            refine qs_gd (fun g3167 => ?_)
            refine qs_xl hM3159 (pa_p hS3159 pl_2197 ts_2197) ei3 g3167 (fun v3166 h3166 => ?_)
            refine qs_zi hS3159 pl_2184 ts_2184 ?_
            refine qs_b (qz_X15_opens hS3159 hM3159 k_1 h3166) (fun v3169 S3169 w3169 M3169 h3169 hS3169 hM3169 => ?_)
            exact qs_tk ⟨_, _, _, rfl, ei2, (p_add ei3 k_1), hS3169, hM3169⟩
        · refine qs_gr hS pl_2184 ts_2184 rfl ?_
          refine qs_gd (fun g3172 => ?_)
          refine qs_xi hM (pa_p hS pl_2196 ts_2196) ei3 g3172 (fun v3171 h3171 => ?_)
          refine qs_zi hS pl_2184 ts_2184 ?_
          refine qs_b (qz_X15_operate hS hM h3171) (fun v3174 S3174 w3174 M3174 h3174 hS3174 hM3174 => ?_)
          exact qs_tk ⟨_, _, _, rfl, ei2, (p_add ei3 k_1), hS3174, hM3174⟩
    · exact qs_tr2 (show vu _ _ from trivial) hS hM
theorem qz_X15_reckon_L7 (n : Nat) : ∀ {P : Nat → Nat} {S : zm_S} {M : qm} {i2 : Int32} {qi2 : Int} {i3 : Int32} {qi3 : Int} (hS : Sh L xs P S) (hM : qM P S = M) (ei2 : i2.toInt = qi2) (ei3 : i3.toInt = qi3), qs (zf_X15_reckon_L7 20000 n 2184 i2 i3 S) (qf_X15_reckon_L7 20000 n qi2 qi3 M) (tO (vs (rr L xs P vu) (rr L xs P vu))) := by
  induction n with
  | zero =>
    intros
    exact qs_none
  | succ n ih =>
    intro P S M i2 qi2 i3 qi3 hS hM ei2 ei3
    unfold qf_X15_reckon_L7
    refine qs_loop (C := (qc_X15_reckon_L7 L xs P (zf_X15_reckon_L7 20000 n))) (qz_X15_reckon_L7_b n hS hM ei2 ei3) ?_
    rintro x s ⟨_, _, _, rfl, u0, u1, hS2, hM2⟩
    exact ih hS2 hM2 u0 u1
set_option maxRecDepth 20000 in
theorem qz_X15_reckon {P : Nat → Nat} {S : zm_S} {M : qm} {i1 : Int32} {qi1 : Int} {i2 : Int32} {qi2 : Int} (hS : Sh L xs P S) (hM : qM P S = M) (ei1 : i1.toInt = qi1) (ei2 : i2.toInt = qi2) : qs (zf_X15_reckon 20000 2184 i1 i2 S) (qf_X15_reckon 20000 qi1 qi2 M) (tO (rr L xs P vu)) := by
  unfold zf_X15_reckon qf_X15_reckon
  refine qs_pi hS hM pl_2184 ts_2184 (z := 39) rfl rfl k_0 (fun S3175 M3175 hS3175 hM3175 => ?_)
  refine qs_lr (qz_X15_reckon_L7 20000 hS3175 hM3175 ei2 ei1) ?_ ?_
  · intro v3177 S3177 w3177 M3177 h3177 hS3177 hM3177
    dsimp only
    exact qs_tr h3177 hS3177 hM3177
  · intro v3177 S3177 w3177 M3177 h3177 hS3177 hM3177
    dsimp only
    exact qs_tr (show vu _ _ from trivial) hS3177 hM3177
set_option maxRecDepth 20000 in
theorem qz_X15_holds_J122 {P : Nat → Nat} {S : zm_S} {M : qm} {i1 : Int32} {qi1 : Int} (hS : Sh L xs P S) (hM : qM P S = M) (ei1 : i1.toInt = qi1) : qs (zf_X15_holds_J122 20000 2184 i1 S) (qf_X15_holds_J122 20000 qi1 M) (tO (rr L xs P vi)) := by
  unfold zf_X15_holds_J122 qf_X15_holds_J122
  refine qs_gl hS hM pl_2184 ts_2184 (z := 42) rfl rfl (fun v3178 h3178 => ?_)
  refine qs_gr hS pl_2184 ts_2184 rfl ?_
  refine qs_xl (i := 0) hM (pa_p hS pl_2207 ts_2207) k_0 (by decide) (fun v3180 h3180 => ?_)
  refine qs_zi hS pl_2184 ts_2184 ?_
  refine qs_b (qz_X15_times hS hM h3178 h3180) (fun v3182 S3182 w3182 M3182 h3182 hS3182 hM3182 => ?_)
  refine qs_gr hS3182 pl_2184 ts_2184 rfl ?_
  refine qs_xl (i := 0) hM3182 (pa_p hS3182 pl_2206 ts_2206) k_0 (by decide) (fun v3184 h3184 => ?_)
  refine qs_gl hS3182 hM3182 pl_2184 ts_2184 (z := 43) rfl rfl (fun v3185 h3185 => ?_)
  refine qs_zi hS3182 pl_2184 ts_2184 ?_
  refine qs_b (qz_X15_times hS3182 hM3182 h3184 h3185) (fun v3187 S3187 w3187 M3187 h3187 hS3187 hM3187 => ?_)
  refine qs_gi hS3187 hM3187 pl_2184 ts_2184 (z := 40) rfl rfl (fun v3188 h3188 => ?_)
  refine qs_ite (c_le h3188 k_0) ?_ ?_
  · refine qs_gr hS3187 pl_2184 ts_2184 rfl ?_
    refine qs_gd (fun g3191 => ?_)
    refine qs_xi hM3187 (pa_p hS3187 pl_2195 ts_2195) ei1 g3191 (fun v3190 h3190 => ?_)
    refine qs_ite (c_eq h3190 k_0) ?_ ?_
    · refine qs_ite (g0_le h3182 h3187) ?_ ?_
      · exact qs_tr (show vi _ _ from k_0) hS3187 hM3187
      · exact qs_tr (show vi _ _ from k_1) hS3187 hM3187
    · refine qs_ite (c_eq h3190 k_1) ?_ ?_
      · refine qs_ite (g0_lt h3182 h3187) ?_ ?_
        · exact qs_tr (show vi _ _ from k_0) hS3187 hM3187
        · exact qs_tr (show vi _ _ from k_1) hS3187 hM3187
      · refine qs_ite (c_eq h3190 k_2) ?_ ?_
        · refine qs_ite (g_eq h3182 h3187) ?_ ?_
          · exact qs_tr (show vi _ _ from k_1) hS3187 hM3187
          · exact qs_tr (show vi _ _ from k_0) hS3187 hM3187
        · refine qs_ite (c_eq h3190 k_3) ?_ ?_
          · refine qs_ite (g_lt h3182 h3187) ?_ ?_
            · exact qs_tr (show vi _ _ from k_0) hS3187 hM3187
            · exact qs_tr (show vi _ _ from k_1) hS3187 hM3187
          · refine qs_ite (g_le h3182 h3187) ?_ ?_
            · exact qs_tr (show vi _ _ from k_0) hS3187 hM3187
            · exact qs_tr (show vi _ _ from k_1) hS3187 hM3187
  · exact qs_tr (show vi _ _ from k_0) hS3187 hM3187
set_option maxRecDepth 20000 in
theorem qz_X15_holds_J69 {P : Nat → Nat} {S : zm_S} {M : qm} {i1 : Int32} {qi1 : Int} {i2 : Int32} {qi2 : Int} (hS : Sh L xs P S) (hM : qM P S = M) (ei1 : i1.toInt = qi1) (ei2 : i2.toInt = qi2) : qs (zf_X15_holds_J69 20000 2184 i1 i2 S) (qf_X15_holds_J69 20000 qi1 qi2 M) (tO (rr L xs P vi)) := by
  unfold zf_X15_holds_J69 qf_X15_holds_J69
  refine qs_gr hS pl_2184 ts_2184 rfl ?_
  refine qs_gd (fun g3194 => ?_)
  refine qs_xi hM (pa_p hS pl_2193 ts_2193) ei1 g3194 (fun v3193 h3193 => ?_)
  refine qs_gr hS pl_2184 ts_2184 rfl ?_
  refine qs_gd (fun g3197 => ?_)
  refine qs_xi hM (pa_p hS pl_2194 ts_2194) ei1 g3197 (fun v3196 h3196 => ?_)
  refine qs_zi hS pl_2184 ts_2184 ?_
  refine qs_b (qz_X15_reckon hS hM h3193 h3196) (fun v3199 S3199 w3199 M3199 h3199 hS3199 hM3199 => ?_)
  refine qs_gi hS3199 hM3199 pl_2184 ts_2184 (z := 40) rfl rfl (fun v3200 h3200 => ?_)
  refine qs_ite (c_le h3200 k_0) ?_ ?_
  · refine qs_ite (c_lt ei2 k_0) ?_ ?_
    · exact (qz_X15_holds_J122 hS3199 hM3199 ei1)
    · refine qs_gr hS3199 pl_2184 ts_2184 rfl ?_
      refine qs_gr hS3199 pl_2184 ts_2184 rfl ?_
      refine qs_xl (i := 0) hM3199 (pa_p hS3199 pl_2206 ts_2206) k_0 (by decide) (fun v3203 h3203 => ?_)
      refine qs_gd (fun g3205 => ?_)
      refine qs_sl hS3199 hM3199 (pa_p hS3199 pl_2201 ts_2201) ei2 g3205 h3203 (fun S3204 M3204 hS3204 hM3204 => ?_)
      refine qs_gr hS3204 pl_2184 ts_2184 rfl ?_
      refine qs_gr hS3204 pl_2184 ts_2184 rfl ?_
      refine qs_xl (i := 0) hM3204 (pa_p hS3204 pl_2207 ts_2207) k_0 (by decide) (fun v3208 h3208 => ?_)
      refine qs_gd (fun g3210 => ?_)
      refine qs_sl hS3204 hM3204 (pa_p hS3204 pl_2202 ts_2202) ei2 g3210 h3208 (fun S3209 M3209 hS3209 hM3209 => ?_)
      exact (qz_X15_holds_J122 hS3209 hM3209 ei1)
  · exact qs_tr (show vi _ _ from k_0) hS3199 hM3199
set_option maxRecDepth 20000 in
theorem qz_X15_holds {P : Nat → Nat} {S : zm_S} {M : qm} {i1 : Int32} {qi1 : Int} {i2 : Int32} {qi2 : Int} (hS : Sh L xs P S) (hM : qM P S = M) (ei1 : i1.toInt = qi1) (ei2 : i2.toInt = qi2) : qs (zf_X15_holds 20000 2184 i1 i2 S) (qf_X15_holds 20000 qi1 qi2 M) (tO (rr L xs P vi)) := by
  unfold zf_X15_holds qf_X15_holds
  refine qs_gr hS pl_2184 ts_2184 rfl ?_
  refine qs_gd (fun g3213 => ?_)
  refine qs_xi hM (pa_p hS pl_2192 ts_2192) ei1 g3213 (fun v3212 h3212 => ?_)
  refine qs_gr hS pl_2184 ts_2184 rfl ?_
  refine qs_gd (fun g3216 => ?_)
  refine qs_xi hM (pa_p hS pl_2193 ts_2193) ei1 g3216 (fun v3215 h3215 => ?_)
  refine qs_zi hS pl_2184 ts_2184 ?_
  refine qs_b (qz_X15_reckon hS hM h3212 h3215) (fun v3218 S3218 w3218 M3218 h3218 hS3218 hM3218 => ?_)
  refine qs_gi hS3218 hM3218 pl_2184 ts_2184 (z := 40) rfl rfl (fun v3219 h3219 => ?_)
  refine qs_ite (c_le h3219 k_0) ?_ ?_
  · refine qs_gr hS3218 pl_2184 ts_2184 rfl ?_
    refine qs_xl (i := 0) hM3218 (pa_p hS3218 pl_2206 ts_2206) k_0 (by decide) (fun v3221 h3221 => ?_)
    refine qs_pl hS3218 hM3218 pl_2184 ts_2184 (z := 42) rfl rfl h3221 (fun S3222 M3222 hS3222 hM3222 => ?_)
    refine qs_gr hS3222 pl_2184 ts_2184 rfl ?_
    refine qs_xl (i := 0) hM3222 (pa_p hS3222 pl_2207 ts_2207) k_0 (by decide) (fun v3224 h3224 => ?_)
    refine qs_pl hS3222 hM3222 pl_2184 ts_2184 (z := 43) rfl rfl h3224 (fun S3225 M3225 hS3225 hM3225 => ?_)
    refine qs_ite (c_lt ei2 k_0) ?_ ?_
    · exact (qz_X15_holds_J69 hS3225 hM3225 ei1 ei2)
    · refine qs_gr hS3225 pl_2184 ts_2184 rfl ?_
      refine qs_gl hS3225 hM3225 pl_2184 ts_2184 (z := 42) rfl rfl (fun v3227 h3227 => ?_)
      refine qs_gd (fun g3229 => ?_)
      refine qs_sl hS3225 hM3225 (pa_p hS3225 pl_2199 ts_2199) ei2 g3229 h3227 (fun S3228 M3228 hS3228 hM3228 => ?_)
      refine qs_gr hS3228 pl_2184 ts_2184 rfl ?_
      refine qs_gl hS3228 hM3228 pl_2184 ts_2184 (z := 43) rfl rfl (fun v3231 h3231 => ?_)
      refine qs_gd (fun g3233 => ?_)
      refine qs_sl hS3228 hM3228 (pa_p hS3228 pl_2200 ts_2200) ei2 g3233 h3231 (fun S3232 M3232 hS3232 hM3232 => ?_)
      exact (qz_X15_holds_J69 hS3232 hM3232 ei1 ei2)
  · exact qs_tr (show vi _ _ from k_0) hS3218 hM3218
set_option maxRecDepth 20000 in
theorem qz_X15_ask_L82_b (n : Nat) {P : Nat → Nat} {S : zm_S} {M : qm} {i1 : Int32} {qi1 : Int} {i4 : Int32} {qi4 : Int} {i6 : Int32} {qi6 : Int} {i7 : Int32} {qi7 : Int} (hS : Sh L xs P S) (hM : qM P S = M) (ei1 : i1.toInt = qi1) (ei4 : i4.toInt = qi4) (ei6 : i6.toInt = qi6) (ei7 : i7.toInt = qi7) : qs (zf_X15_ask_L82 20000 (n + 1) 2184 i1 i4 i6 i7 S) (qf_X15_ask_L82_b 20000 qi1 qi4 qi6 qi7 M) (tk (vs (rr L xs P vi) (rr L xs P vi)) (qc_X15_ask_L82 L xs P (zf_X15_ask_L82 20000 n))) := by
  refine qs_eq (zf_X15_ask_L82.eq_2 ..) ?_
  unfold qf_X15_ask_L82_b
  refine qs_gr hS pl_2184 ts_2184 rfl ?_
  refine qs_gd (fun g3236 => ?_)
  refine qs_xi hM (pa_p hS pl_2190 ts_2190) ei1 g3236 (fun v3235 h3235 => ?_)
  refine qs_ite (c_lt h3235 ei7) ?_ ?_
  · exact qs_tr2 (show vi _ _ from ei6) hS hM
  · refine qs_ite (c_eq ei6 k_0) ?_ ?_
    · exact qs_tr2 (show vi _ _ from ei6) hS hM
    · refine qs_zi hS pl_2184 ts_2184 ?_
      refine qs_b (qz_X15_holds hS hM (p_add ei4 ei7) k_m1) (fun v3238 S3238 w3238 M3238 h3238 hS3238 hM3238 => ?_)
      exact qs_tk ⟨_, _, _, _, _, rfl, ei1, ei4, h3238, (p_add ei7 k_1), hS3238, hM3238⟩
theorem qz_X15_ask_L82 (n : Nat) : ∀ {P : Nat → Nat} {S : zm_S} {M : qm} {i1 : Int32} {qi1 : Int} {i4 : Int32} {qi4 : Int} {i6 : Int32} {qi6 : Int} {i7 : Int32} {qi7 : Int} (hS : Sh L xs P S) (hM : qM P S = M) (ei1 : i1.toInt = qi1) (ei4 : i4.toInt = qi4) (ei6 : i6.toInt = qi6) (ei7 : i7.toInt = qi7), qs (zf_X15_ask_L82 20000 n 2184 i1 i4 i6 i7 S) (qf_X15_ask_L82 20000 n qi1 qi4 qi6 qi7 M) (tO (vs (rr L xs P vi) (rr L xs P vi))) := by
  induction n with
  | zero =>
    intros
    exact qs_none
  | succ n ih =>
    intro P S M i1 qi1 i4 qi4 i6 qi6 i7 qi7 hS hM ei1 ei4 ei6 ei7
    unfold qf_X15_ask_L82
    refine qs_loop (C := (qc_X15_ask_L82 L xs P (zf_X15_ask_L82 20000 n))) (qz_X15_ask_L82_b n hS hM ei1 ei4 ei6 ei7) ?_
    rintro x s ⟨_, _, _, _, _, rfl, u0, u1, u2, u3, hS2, hM2⟩
    exact ih hS2 hM2 u0 u1 u2 u3
set_option maxRecDepth 20000 in
theorem qz_X15_ask_J116 {P : Nat → Nat} {S : zm_S} {M : qm} {i6 : Int32} {qi6 : Int} (hS : Sh L xs P S) (hM : qM P S = M) (ei6 : i6.toInt = qi6) : qs (zf_X15_ask_J116 20000 2184 i6 S) (qf_X15_ask_J116 20000 qi6 M) (tO (rr L xs P vi)) := by
  unfold zf_X15_ask_J116 qf_X15_ask_J116
  refine qs_gi hS hM pl_2184 ts_2184 (z := 40) rfl rfl (fun v3239 h3239 => ?_)
  refine qs_ite (c_le h3239 k_0) ?_ ?_
  · refine qs_ite (c_eq ei6 k_0) ?_ ?_
    · exact qs_tr (show vi _ _ from k_1) hS hM
    · exact qs_tr (show vi _ _ from k_2) hS hM
  · exact qs_tr (show vi _ _ from k_3) hS hM
set_option maxRecDepth 20000 in
theorem qz_X15_ask_J77 {P : Nat → Nat} {S : zm_S} {M : qm} {i1 : Int32} {qi1 : Int} {i4 : Int32} {qi4 : Int} {t0 : Int32} {qt0 : Int} (hS : Sh L xs P S) (hM : qM P S = M) (ei1 : i1.toInt = qi1) (ei4 : i4.toInt = qi4) (et0 : t0.toInt = qt0) : qs (zf_X15_ask_J77 20000 2184 i1 i4 t0 S) (qf_X15_ask_J77 20000 qi1 qi4 qt0 M) (tO (rr L xs P vi)) := by
  unfold zf_X15_ask_J77 qf_X15_ask_J77
  refine qs_lr (qz_X15_ask_L82 20000 hS hM ei1 ei4 et0 k_1) ?_ ?_
  · intro v3241 S3241 w3241 M3241 h3241 hS3241 hM3241
    dsimp only
    exact qs_tr h3241 hS3241 hM3241
  · intro v3241 S3241 w3241 M3241 h3241 hS3241 hM3241
    dsimp only
    exact (qz_X15_ask_J116 hS3241 hM3241 h3241)
set_option maxRecDepth 20000 in
theorem qz_X15_ask_J42 {P : Nat → Nat} {S : zm_S} {M : qm} {i1 : Int32} {qi1 : Int} {i4 : Int32} {qi4 : Int} {t1 : Int32} {qt1 : Int} {t2 : Int32} {qt2 : Int} (hS : Sh L xs P S) (hM : qM P S = M) (ei1 : i1.toInt = qi1) (ei4 : i4.toInt = qi4) (et1 : t1.toInt = qt1) (et2 : t2.toInt = qt2) : qs (zf_X15_ask_J42 20000 2184 i1 i4 2184 t1 t2 S) (qf_X15_ask_J42 20000 qi1 qi4 qt1 qt2 M) (tO (rr L xs P vi)) := by
  unfold zf_X15_ask_J42 qf_X15_ask_J42
  refine qs_zi hS pl_2184 ts_2184 ?_
  refine qs_b (qz_X15_holds hS hM et1 et2) (fun v3243 S3243 w3243 M3243 h3243 hS3243 hM3243 => ?_)
  refine qs_gi hS3243 hM3243 pl_2184 ts_2184 (z := 40) rfl rfl (fun v3244 h3244 => ?_)
  refine qs_ite (c_le h3244 k_0) ?_ ?_
  · refine qs_ite (c_eq h3243 k_0) ?_ ?_
    · refine qs_gr hS3243 pl_2184 ts_2184 rfl ?_
      refine qs_gd (fun g3247 => ?_)
      refine qs_xi hM3243 (pa_p hS3243 pl_2190 ts_2190) ei1 g3247 (fun v3246 h3246 => ?_)
      refine qs_ite (c_le h3246 k_0) ?_ ?_
      · exact (qz_X15_ask_J77 hS3243 hM3243 ei1 ei4 k_0)
      · exact (qz_X15_ask_J77 hS3243 hM3243 ei1 ei4 k_1)
    · exact qs_tr (show vi _ _ from k_0) hS3243 hM3243
  · exact qs_tr (show vi _ _ from k_3) hS3243 hM3243
set_option maxRecDepth 20000 in
theorem qz_X15_ask {P : Nat → Nat} {S : zm_S} {M : qm} {i1 : Int32} {qi1 : Int} {i2 : Int32} {qi2 : Int} {i3 : Int32} {qi3 : Int} (hS : Sh L xs P S) (hM : qM P S = M) (ei1 : i1.toInt = qi1) (ei2 : i2.toInt = qi2) (ei3 : i3.toInt = qi3) : qs (zf_X15_ask 20000 2184 i1 i2 i3 S) (qf_X15_ask 20000 qi1 qi2 qi3 M) (tO (rr L xs P vi)) := by
  unfold zf_X15_ask qf_X15_ask
  refine qs_pi hS hM pl_2184 ts_2184 (z := 40) rfl rfl k_0 (fun S3248 M3248 hS3248 hM3248 => ?_)
  refine qs_pl hS3248 hM3248 pl_2184 ts_2184 (z := 41) rfl rfl kl_0 (fun S3249 M3249 hS3249 hM3249 => ?_)
  refine qs_gr hS3249 pl_2184 ts_2184 rfl ?_
  refine qs_gd (fun g3252 => ?_)
  refine qs_xi hM3249 (pa_p hS3249 pl_2191 ts_2191) ei1 g3252 (fun v3251 h3251 => ?_)
  refine qs_ite (c_le h3251 ei2) ?_ ?_
  · refine qs_gr hS3249 pl_2184 ts_2184 rfl ?_
    refine qs_gd (fun g3255 => ?_)
    refine qs_xi hM3249 (pa_p hS3249 pl_2189 ts_2189) ei1 g3255 (fun v3254 h3254 => ?_)
    refine qs_ite (c_eq ei3 k_0) ?_ ?_
    · exact (qz_X15_ask_J42 hS3249 hM3249 ei1 h3254 h3254 k_m1)
    · exact (qz_X15_ask_J42 hS3249 hM3249 ei1 h3254 h3254 ei1)
  · exact qs_tr (show vi _ _ from k_4) hS3249 hM3249
set_option maxRecDepth 20000 in
theorem qz_X15_run_J94 {P : Nat → Nat} {S : zm_S} {M : qm} {i1 : Int32} {qi1 : Int} {i3 : Int32} {qi3 : Int} {t0 : Int32} {qt0 : Int} {t1 : Int32} {qt1 : Int} (hS : Sh L xs P S) (hM : qM P S = M) (ei1 : i1.toInt = qi1) (ei3 : i3.toInt = qi3) (et0 : t0.toInt = qt0) (et1 : t1.toInt = qt1) {k : Nat → Int32 → Int32 → Int32 → zm_S → Option ((Int32 × zm_S) ⊕ ((Int32) × zm_S))} : qs (zf_X15_run_J94 20000 k 2184 i1 i3 t0 t1 S) (qf_X15_run_J94 20000 qi1 qi3 qt0 qt1 M) (tk (vs (rr L xs P vi) (rr L xs P vi)) (qc_X15_run_L9 L xs P k)) := by
  unfold zf_X15_run_J94 qf_X15_run_J94
  exact qs_tk ⟨_, _, _, _, rfl, ei1, (p_add et0 et1), (p_add ei3 k_1), hS, hM⟩
set_option maxRecDepth 20000 in
theorem qz_X15_run_L9_b (n : Nat) {P : Nat → Nat} {S : zm_S} {M : qm} {i1 : Int32} {qi1 : Int} {i2 : Int32} {qi2 : Int} {i3 : Int32} {qi3 : Int} (hS : Sh L xs P S) (hM : qM P S = M) (ei1 : i1.toInt = qi1) (ei2 : i2.toInt = qi2) (ei3 : i3.toInt = qi3) : qs (zf_X15_run_L9 20000 (n + 1) 2184 i1 i2 i3 S) (qf_X15_run_L9_b 20000 qi1 qi2 qi3 M) (tk (vs (rr L xs P vi) (rr L xs P vi)) (qc_X15_run_L9 L xs P (zf_X15_run_L9 20000 n))) := by
  refine qs_eq (zf_X15_run_L9.eq_2 ..) ?_
  unfold qf_X15_run_L9_b
  refine qs_gi hS hM pl_2184 ts_2184 (z := 5) rfl rfl (fun v3256 h3256 => ?_)
  refine qs_ite (c_le h3256 ei3) ?_ ?_
  · exact qs_tr2 (show vi _ _ from ei2) hS hM
  · refine qs_gr hS pl_2184 ts_2184 rfl ?_
    refine qs_gd (fun g3259 => ?_)
    refine qs_sl hS hM (pa_p hS pl_2199 ts_2199) ei3 g3259 kl_0 (fun S3258 M3258 hS3258 hM3258 => ?_)
    refine qs_gr hS3258 pl_2184 ts_2184 rfl ?_
    refine qs_gd (fun g3262 => ?_)
    refine qs_sl hS3258 hM3258 (pa_p hS3258 pl_2200 ts_2200) ei3 g3262 kl_0 (fun S3261 M3261 hS3261 hM3261 => ?_)
    refine qs_gr hS3261 pl_2184 ts_2184 rfl ?_
    refine qs_gd (fun g3265 => ?_)
    refine qs_sl hS3261 hM3261 (pa_p hS3261 pl_2201 ts_2201) ei3 g3265 kl_0 (fun S3264 M3264 hS3264 hM3264 => ?_)
    refine qs_gr hS3264 pl_2184 ts_2184 rfl ?_
    refine qs_gd (fun g3268 => ?_)
    refine qs_sl hS3264 hM3264 (pa_p hS3264 pl_2202 ts_2202) ei3 g3268 kl_0 (fun S3267 M3267 hS3267 hM3267 => ?_)
    refine qs_gr hS3267 pl_2184 ts_2184 rfl ?_
    refine qs_zi hS3267 pl_2184 ts_2184 ?_
    refine qs_b (qz_X15_ask hS3267 hM3267 ei3 ei1 k_1) (fun v3271 S3271 w3271 M3271 h3271 hS3271 hM3271 => ?_)
    refine qs_gd (fun g3273 => ?_)
    refine qs_si hS3271 hM3271 (pa_p hS3271 pl_2198 ts_2198) ei3 g3273 h3271 (fun S3272 M3272 hS3272 hM3272 => ?_)
    refine qs_gr hS3272 pl_2184 ts_2184 rfl ?_
    refine qs_gi hS3272 hM3272 pl_2184 ts_2184 (z := 40) rfl rfl (fun v3275 h3275 => ?_)
    refine qs_gd (fun g3277 => ?_)
    refine qs_si hS3272 hM3272 (pa_p hS3272 pl_2203 ts_2203) ei3 g3277 h3275 (fun S3276 M3276 hS3276 hM3276 => ?_)
    refine qs_gr hS3276 pl_2184 ts_2184 rfl ?_
    refine qs_gl hS3276 hM3276 pl_2184 ts_2184 (z := 41) rfl rfl (fun v3279 h3279 => ?_)
    refine qs_gd (fun g3281 => ?_)
    refine qs_sl hS3276 hM3276 (pa_p hS3276 pl_2204 ts_2204) ei3 g3281 h3279 (fun S3280 M3280 hS3280 hM3280 => ?_)
    refine qs_gr hS3280 pl_2184 ts_2184 rfl ?_
    refine qs_gd (fun g3284 => ?_)
    refine qs_xi hM3280 (pa_p hS3280 pl_2198 ts_2198) ei3 g3284 (fun v3283 h3283 => ?_)
    refine qs_ite (c_eq h3283 k_1) ?_ ?_
    · exact (qz_X15_run_J94 hS3280 hM3280 ei1 ei3 ei2 k_1)
    · exact (qz_X15_run_J94 hS3280 hM3280 ei1 ei3 ei2 k_0)
theorem qz_X15_run_L9 (n : Nat) : ∀ {P : Nat → Nat} {S : zm_S} {M : qm} {i1 : Int32} {qi1 : Int} {i2 : Int32} {qi2 : Int} {i3 : Int32} {qi3 : Int} (hS : Sh L xs P S) (hM : qM P S = M) (ei1 : i1.toInt = qi1) (ei2 : i2.toInt = qi2) (ei3 : i3.toInt = qi3), qs (zf_X15_run_L9 20000 n 2184 i1 i2 i3 S) (qf_X15_run_L9 20000 n qi1 qi2 qi3 M) (tO (vs (rr L xs P vi) (rr L xs P vi))) := by
  induction n with
  | zero =>
    intros
    exact qs_none
  | succ n ih =>
    intro P S M i1 qi1 i2 qi2 i3 qi3 hS hM ei1 ei2 ei3
    unfold qf_X15_run_L9
    refine qs_loop (C := (qc_X15_run_L9 L xs P (zf_X15_run_L9 20000 n))) (qz_X15_run_L9_b n hS hM ei1 ei2 ei3) ?_
    rintro x s ⟨_, _, _, _, rfl, u0, u1, u2, hS2, hM2⟩
    exact ih hS2 hM2 u0 u1 u2
set_option maxRecDepth 20000 in
theorem qz_X15_run {P : Nat → Nat} {S : zm_S} {M : qm} {i1 : Int32} {qi1 : Int} (hS : Sh L xs P S) (hM : qM P S = M) (ei1 : i1.toInt = qi1) : qs (zf_X15_run 20000 2184 i1 S) (qf_X15_run 20000 qi1 M) (tO (rr L xs P vi)) := by
  unfold zf_X15_run qf_X15_run
  refine qs_pi hS hM pl_2184 ts_2184 (z := 18) rfl rfl ei1 (fun S3285 M3285 hS3285 hM3285 => ?_)
  refine qs_lr (qz_X15_run_L9 20000 hS3285 hM3285 ei1 k_0 k_0) ?_ ?_
  · intro v3287 S3287 w3287 M3287 h3287 hS3287 hM3287
    dsimp only
    exact qs_tr h3287 hS3287 hM3287
  · intro v3287 S3287 w3287 M3287 h3287 hS3287 hM3287
    dsimp only
    exact qs_tr (show vi _ _ from h3287) hS3287 hM3287
set_option maxRecDepth 20000 in
theorem qz_X18_check {P : Nat → Nat} {S : zm_S} {M : qm} {i1 : Int32} {qi1 : Int} (hS : Sh L xs P S) (hM : qM P S = M) (ei1 : i1.toInt = qi1) : qs (zf_X18_check 20000 2156 i1 S) (qf_X18_check 20000 qi1 M) (tO (rr L xs P vi)) := by
  unfold zf_X18_check qf_X18_check
  refine qs_bp (qz_X18_isDay hS hM ei1) (fun v3288 S3288 w3288 h3288 hS3288 hM3288 => ?_)
  refine qs_zi hS3288 pl_2156 ts_2156 ?_
  refine qs_b (qz_X18_goes hS3288 hM3288 h3288 k_1) (fun v3290 S3290 w3290 M3290 h3290 hS3290 hM3290 => ?_)
  refine qs_ite (c_eq h3290 k_0) ?_ ?_
  · exact qs_tr (show vi _ _ from k_0) hS3290 hM3290
  · refine qs_gr hS3290 pl_2156 ts_2156 rfl ?_
    refine qs_zi hS3290 pl_2184 ts_2184 ?_
    refine qs_b (qz_X15_run hS3290 hM3290 ei1) (fun v3293 S3293 w3293 M3293 h3293 hS3293 hM3293 => ?_)
    exact qs_tr (show vi _ _ from h3293) hS3293 hM3293
set_option maxRecDepth 20000 in
theorem qz_X7_answerOf {P : Nat → Nat} {S : zm_S} {M : qm} {i1 : Int32} {qi1 : Int} {i2 : Int32} {qi2 : Int} (hS : Sh L xs P S) (hM : qM P S = M) (ei1 : i1.toInt = qi1) (ei2 : i2.toInt = qi2) : qs (zf_X7_answerOf 20000 735 i1 i2 S) (qf_X7_answerOf 20000 qi1 qi2 M) (tO (rp L xs P M vl)) := by
  unfold zf_X7_answerOf qf_X7_answerOf
  refine qs_gr hS pl_735 ts_735 rfl ?_
  refine qs_gd (fun g3296 => ?_)
  refine qs_xt hS pl_740 ts_740 (Or.inr rfl) ei1 g3296 (fun b3295 r3295 => ?_)
  refine qs_gd (fun g3298 => ?_)
  refine qs_yl hS hM qt_740 tq_740 r3295 ei2 g3298 (fun v3297 h3297 => ?_)
  exact qs_tp (show vl _ _ from h3297) hS hM
set_option maxRecDepth 20000 in
theorem qz_X11_rule_J32 {P : Nat → Nat} {S : zm_S} {M : qm} {i1 : Int32} {qi1 : Int} {i2 : Int32} {qi2 : Int} {t0 : Int32} {qt0 : Int} (hS : Sh L xs P S) (hM : qM P S = M) (ei1 : i1.toInt = qi1) (ei2 : i2.toInt = qi2) (et0 : t0.toInt = qt0) : qs (zf_X11_rule_J32 20000 6 i1 i2 t0 S) (qf_X11_rule_J32 20000 qi1 qi2 qt0 M) (tO (rp L xs P M (vs vl ve))) := by
  unfold zf_X11_rule_J32 qf_X11_rule_J32
  refine qs_xp (qz_X11_needArgument hS hM et0) ?_ ?_
  · intro v3300 S3300 w3300 h3300 hS3300 hM3300
    dsimp only
    refine qs_gr hS3300 pl_6 ts_6 rfl ?_
    refine qs_gi hS3300 hM3300 pl_735 ts_735 (z := 1) rfl rfl (fun v3302 h3302 => ?_)
    refine qs_xp (qz_X11_needState hS3300 hM3300 h3302) ?_ ?_
    · intro v3304 S3304 w3304 h3304 hS3304 hM3304
      dsimp only
      refine qs_gr hS3304 pl_6 ts_6 rfl ?_
      refine qs_zi hS3304 pl_735 ts_735 ?_
      refine qs_bp (qz_X7_answerOf hS3304 hM3304 ei1 ei2) (fun v3307 S3307 w3307 h3307 hS3307 hM3307 => ?_)
      exact qs_tp (show (vs vl ve) _ _ from h3307) hS3307 hM3307
    · intro v3304 S3304 hS3304 hM3304
      dsimp only
      exact qs_tp (show (vs vl ve) _ _ from rfl) hS3304 hM3304
  · intro v3300 S3300 hS3300 hM3300
    dsimp only
    exact qs_tp (show (vs vl ve) _ _ from rfl) hS3300 hM3300
set_option maxRecDepth 20000 in
theorem qz_X11_rule_J31 {P : Nat → Nat} {S : zm_S} {M : qm} {i1 : Int32} {qi1 : Int} {i2 : Int32} {qi2 : Int} (hS : Sh L xs P S) (hM : qM P S = M) (ei1 : i1.toInt = qi1) (ei2 : i2.toInt = qi2) : qs (zf_X11_rule_J31 20000 6 i1 i2 S) (qf_X11_rule_J31 20000 qi1 qi2 M) (tO (rp L xs P M (vs vl ve))) := by
  unfold zf_X11_rule_J31 qf_X11_rule_J31
  exact (qz_X11_rule_J32 hS hM ei1 ei2 k_0)
set_option maxRecDepth 20000 in
theorem qz_X11_rule {P : Nat → Nat} {S : zm_S} {M : qm} {i1 : Int32} {qi1 : Int} {i2 : Int32} {qi2 : Int} (hS : Sh L xs P S) (hM : qM P S = M) (ei1 : i1.toInt = qi1) (ei2 : i2.toInt = qi2) : qs (zf_X11_rule 20000 6 i1 i2 S) (qf_X11_rule 20000 qi1 qi2 M) (tO (rp L xs P M (vs vl ve))) := by
  unfold zf_X11_rule qf_X11_rule
  refine qs_gr hS pl_6 ts_6 rfl ?_
  refine qs_gi hS hM pl_735 ts_735 (z := 0) rfl rfl (fun v3309 h3309 => ?_)
  refine qs_bp (qz_X11_isWithin hS hM ei1 k_0 (p_sub h3309 k_1)) (fun v3310 S3310 w3310 h3310 hS3310 hM3310 => ?_)
  refine qs_ite (c_eq h3310 k_0) ?_ ?_
  · exact (qz_X11_rule_J31 hS3310 hM3310 ei1 ei2)
  · refine qs_bp (qz_X11_isWithin hS3310 hM3310 ei2 k_0 k_6) (fun v3311 S3311 w3311 h3311 hS3311 hM3311 => ?_)
    refine qs_ite (c_eq h3311 k_0) ?_ ?_
    · exact (qz_X11_rule_J31 hS3311 hM3311 ei1 ei2)
    · exact (qz_X11_rule_J32 hS3311 hM3311 ei1 ei2 k_1)
set_option maxRecDepth 20000 in
theorem qz_L_rule {P : Nat → Nat} {S : zm_S} {M : qm} {i1 : Int32} {qi1 : Int} {i2 : Int32} {qi2 : Int} (hS : Sh L xs P S) (hM : qM P S = M) (ei1 : i1.toInt = qi1) (ei2 : i2.toInt = qi2) : qs (zf_L_rule 20000 6 i1 i2 2332 S) (qf_L_rule 20000 qi1 qi2 M) (tO (rr L xs P vi)) := by
  unfold zf_L_rule qf_L_rule
  refine qs_zi hS pl_6 ts_6 ?_
  refine qs_xp (qz_X11_rule hS hM ei1 ei2) ?_ ?_
  · intro v3314 S3314 w3314 h3314 hS3314 hM3314
    dsimp only
    refine qs_sl hS3314 hM3314 (pa_p hS3314 pl_2332 ts_2332) k_0 (by decide) h3314 (fun S3315 M3315 hS3315 hM3315 => ?_)
    exact qs_tr (show vi _ _ from k_0) hS3315 hM3315
  · intro v3314 S3314 hS3314 hM3314
    dsimp only
    refine qs_ite Iff.rfl ?_ ?_
    · exact qs_tr (show vi _ _ from k_1) hS3314 hM3314
    · refine qs_ite Iff.rfl ?_ ?_
      · exact qs_tr (show vi _ _ from k_2) hS3314 hM3314
      · exact qs_none
set_option maxRecDepth 20000 in
theorem qz_X15_told {P : Nat → Nat} {S : zm_S} {M : qm} {i1 : Int32} {qi1 : Int} {i2 : Int32} {qi2 : Int} (hS : Sh L xs P S) (hM : qM P S = M) (ei1 : i1.toInt = qi1) (ei2 : i2.toInt = qi2) : qs (zf_X15_told 20000 2184 i1 i2 S) (qf_X15_told 20000 qi1 qi2 M) (tO (rp L xs P M vl)) := by
  unfold zf_X15_told qf_X15_told
  refine qs_ite (z_eq ei2) ?_ ?_
  · refine qs_gr hS pl_2184 ts_2184 rfl ?_
    refine qs_gd (fun g3318 => ?_)
    refine qs_xi hM (pa_p hS pl_2198 ts_2198) ei1 g3318 (fun v3317 h3317 => ?_)
    exact qs_tp (show vl _ _ from (p_64 h3317)) hS hM
  · refine qs_ite (z_eq ei2) ?_ ?_
    · refine qs_gr hS pl_2184 ts_2184 rfl ?_
      refine qs_gd (fun g3321 => ?_)
      refine qs_xl hM (pa_p hS pl_2199 ts_2199) ei1 g3321 (fun v3320 h3320 => ?_)
      exact qs_tp (show vl _ _ from h3320) hS hM
    · refine qs_ite (z_eq ei2) ?_ ?_
      · refine qs_gr hS pl_2184 ts_2184 rfl ?_
        refine qs_gd (fun g3324 => ?_)
        refine qs_xl hM (pa_p hS pl_2200 ts_2200) ei1 g3324 (fun v3323 h3323 => ?_)
        exact qs_tp (show vl _ _ from h3323) hS hM
      · refine qs_ite (z_eq ei2) ?_ ?_
        · refine qs_gr hS pl_2184 ts_2184 rfl ?_
          refine qs_gd (fun g3327 => ?_)
          refine qs_xl hM (pa_p hS pl_2201 ts_2201) ei1 g3327 (fun v3326 h3326 => ?_)
          exact qs_tp (show vl _ _ from h3326) hS hM
        · refine qs_ite (z_eq ei2) ?_ ?_
          · refine qs_gr hS pl_2184 ts_2184 rfl ?_
            refine qs_gd (fun g3330 => ?_)
            refine qs_xl hM (pa_p hS pl_2202 ts_2202) ei1 g3330 (fun v3329 h3329 => ?_)
            exact qs_tp (show vl _ _ from h3329) hS hM
          · refine qs_ite (z_eq ei2) ?_ ?_
            · refine qs_gr hS pl_2184 ts_2184 rfl ?_
              refine qs_gd (fun g3333 => ?_)
              refine qs_xi hM (pa_p hS pl_2203 ts_2203) ei1 g3333 (fun v3332 h3332 => ?_)
              exact qs_tp (show vl _ _ from (p_64 h3332)) hS hM
            · refine qs_gr hS pl_2184 ts_2184 rfl ?_
              refine qs_gd (fun g3336 => ?_)
              refine qs_xl hM (pa_p hS pl_2204 ts_2204) ei1 g3336 (fun v3335 h3335 => ?_)
              exact qs_tp (show vl _ _ from h3335) hS hM
set_option maxRecDepth 20000 in
theorem qz_X18_rule_J44 {P : Nat → Nat} {S : zm_S} {M : qm} {i1 : Int32} {qi1 : Int} {i2 : Int32} {qi2 : Int} {t1 : Int32} {qt1 : Int} {t2 : Int32} {qt2 : Int} (hS : Sh L xs P S) (hM : qM P S = M) (ei1 : i1.toInt = qi1) (ei2 : i2.toInt = qi2) (et1 : t1.toInt = qt1) (et2 : t2.toInt = qt2) : qs (zf_X18_rule_J44 20000 2156 i1 i2 2156 t1 t2 S) (qf_X18_rule_J44 20000 qi1 qi2 qt1 qt2 M) (tO (rr L xs P vl)) := by
  unfold zf_X18_rule_J44 qf_X18_rule_J44
  refine qs_zi hS pl_2156 ts_2156 ?_
  refine qs_b (qz_X18_goes hS hM et1 et2) (fun v3338 S3338 w3338 M3338 h3338 hS3338 hM3338 => ?_)
  refine qs_ite (c_eq h3338 k_0) ?_ ?_
  · exact qs_tr (show vl _ _ from kl_0) hS3338 hM3338
  · refine qs_gr hS3338 pl_2156 ts_2156 rfl ?_
    refine qs_zi hS3338 pl_2184 ts_2184 ?_
    refine qs_bp (qz_X15_told hS3338 hM3338 ei1 ei2) (fun v3341 S3341 w3341 h3341 hS3341 hM3341 => ?_)
    exact qs_tr (show vl _ _ from h3341) hS3341 hM3341
set_option maxRecDepth 20000 in
theorem qz_X18_rule_J29 {P : Nat → Nat} {S : zm_S} {M : qm} {i1 : Int32} {qi1 : Int} {i2 : Int32} {qi2 : Int} {t1 : Int32} {qt1 : Int} (hS : Sh L xs P S) (hM : qM P S = M) (ei1 : i1.toInt = qi1) (ei2 : i2.toInt = qi2) (et1 : t1.toInt = qt1) : qs (zf_X18_rule_J29 20000 2156 i1 i2 2156 t1 S) (qf_X18_rule_J29 20000 qi1 qi2 qt1 M) (tO (rr L xs P vl)) := by
  unfold zf_X18_rule_J29 qf_X18_rule_J29
  refine qs_gr hS pl_2156 ts_2156 rfl ?_
  refine qs_gi hS hM pl_2184 ts_2184 (z := 18) rfl rfl (fun v3343 h3343 => ?_)
  refine qs_ite (c_lt h3343 k_0) ?_ ?_
  · exact (qz_X18_rule_J44 hS hM ei1 ei2 et1 k_0)
  · exact (qz_X18_rule_J44 hS hM ei1 ei2 et1 k_1)
set_option maxRecDepth 20000 in
theorem qz_X18_rule_J28 {P : Nat → Nat} {S : zm_S} {M : qm} {i1 : Int32} {qi1 : Int} {i2 : Int32} {qi2 : Int} (hS : Sh L xs P S) (hM : qM P S = M) (ei1 : i1.toInt = qi1) (ei2 : i2.toInt = qi2) : qs (zf_X18_rule_J28 20000 2156 i1 i2 2156 S) (qf_X18_rule_J28 20000 qi1 qi2 M) (tO (rr L xs P vl)) := by
  unfold zf_X18_rule_J28 qf_X18_rule_J28
  exact (qz_X18_rule_J29 hS hM ei1 ei2 k_0)
set_option maxRecDepth 20000 in
theorem qz_X18_rule {P : Nat → Nat} {S : zm_S} {M : qm} {i1 : Int32} {qi1 : Int} {i2 : Int32} {qi2 : Int} (hS : Sh L xs P S) (hM : qM P S = M) (ei1 : i1.toInt = qi1) (ei2 : i2.toInt = qi2) : qs (zf_X18_rule 20000 2156 i1 i2 S) (qf_X18_rule 20000 qi1 qi2 M) (tO (rr L xs P vl)) := by
  unfold zf_X18_rule qf_X18_rule
  refine qs_gr hS pl_2156 ts_2156 rfl ?_
  refine qs_gi hS hM pl_2184 ts_2184 (z := 5) rfl rfl (fun v3345 h3345 => ?_)
  refine qs_bp (qz_X18_isIn hS hM ei1 h3345) (fun v3346 S3346 w3346 h3346 hS3346 hM3346 => ?_)
  refine qs_ite (c_eq h3346 k_0) ?_ ?_
  · exact (qz_X18_rule_J28 hS3346 hM3346 ei1 ei2)
  · refine qs_bp (qz_X18_isIn hS3346 hM3346 ei2 k_7) (fun v3347 S3347 w3347 h3347 hS3347 hM3347 => ?_)
    refine qs_ite (c_eq h3347 k_0) ?_ ?_
    · exact (qz_X18_rule_J28 hS3347 hM3347 ei1 ei2)
    · exact (qz_X18_rule_J29 hS3347 hM3347 ei1 ei2 k_1)
set_option maxRecDepth 20000 in
theorem qz_X7_firstRefusing_L2_b (n : Nat) {P : Nat → Nat} {S : zm_S} {M : qm} {i1 : Int32} {qi1 : Int} (hS : Sh L xs P S) (hM : qM P S = M) (ei1 : i1.toInt = qi1) : qs (zf_X7_firstRefusing_L2 20000 (n + 1) 735 i1 S) (qf_X7_firstRefusing_L2_b 20000 qi1 M) (tk (vs (rp L xs P M vi) (rp L xs P M vu)) (qc_X7_firstRefusing_L2 L xs P M (zf_X7_firstRefusing_L2 20000 n))) := by
  refine qs_eq (zf_X7_firstRefusing_L2.eq_2 ..) ?_
  unfold qf_X7_firstRefusing_L2_b
  refine qs_gi hS hM pl_735 ts_735 (z := 0) rfl rfl (fun v3348 h3348 => ?_)
  refine qs_ite (c_le h3348 ei1) ?_ ?_
  · exact qs_tp2 (show vu _ _ from trivial) hS hM
  · refine qs_gr hS pl_735 ts_735 rfl ?_
    refine qs_gd (fun g3351 => ?_)
    refine qs_xt hS pl_740 ts_740 (Or.inr rfl) ei1 g3351 (fun b3350 r3350 => ?_)
    refine qs_yl (j := 0) hS hM qt_740 tq_740 r3350 k_0 (by decide) (fun v3352 h3352 => ?_)
    refine qs_ite (g_eq h3352 kl_1) ?_ ?_
    · exact qs_tp1 (show vi _ _ from ei1) hS hM
    · refine qs_gr hS pl_735 ts_735 rfl ?_
      refine qs_gd (fun g3355 => ?_)
      refine qs_xt hS pl_740 ts_740 (Or.inr rfl) ei1 g3355 (fun b3354 r3354 => ?_)
      refine qs_yl (j := 0) hS hM qt_740 tq_740 r3354 k_0 (by decide) (fun v3356 h3356 => ?_)
      refine qs_ite (g_eq h3356 kl_3) ?_ ?_
      · exact qs_tp1 (show vi _ _ from ei1) hS hM
      · exact qs_tk ⟨_, _, rfl, (p_add ei1 k_1), hS, hM⟩
theorem qz_X7_firstRefusing_L2 (n : Nat) : ∀ {P : Nat → Nat} {S : zm_S} {M : qm} {i1 : Int32} {qi1 : Int} (hS : Sh L xs P S) (hM : qM P S = M) (ei1 : i1.toInt = qi1), qs (zf_X7_firstRefusing_L2 20000 n 735 i1 S) (qf_X7_firstRefusing_L2 20000 n qi1 M) (tO (vs (rp L xs P M vi) (rp L xs P M vu))) := by
  induction n with
  | zero =>
    intros
    exact qs_none
  | succ n ih =>
    intro P S M i1 qi1 hS hM ei1
    unfold qf_X7_firstRefusing_L2
    refine qs_loop (C := (qc_X7_firstRefusing_L2 L xs P M (zf_X7_firstRefusing_L2 20000 n))) (qz_X7_firstRefusing_L2_b n hS hM ei1) ?_
    rintro x s ⟨_, _, rfl, u0, hS2, hM2⟩
    exact ih hS2 hM2 u0
end QZ
