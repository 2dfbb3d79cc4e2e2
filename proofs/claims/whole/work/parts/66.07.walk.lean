/-! ===== each function over memories is the one over plain states, by program (wip/tools/q) ===== -/
section QZ
variable {L : Nat} {xs : Nat → Int32}
set_option maxRecDepth 20000 in
theorem qz_X3_tryRows_B {P : Nat → Nat} {S : zm_S} {M : qm} {i1 : Int32} {qi1 : Int} {i2 : Int32} {qi2 : Int} {i3 : Int32} {qi3 : Int} {i4 : Int32} {qi4 : Int} {i5 : Int32} {qi5 : Int} {j6 : Int64} {qj6 : Int} {K : Nat → Int32 → Int32 → Int32 → Int32 → Int32 → Int64 → zm_S → Option (Unit × zm_S)} {Kq : Int → Int → Int → Int → Int → Int → qm → Option (Unit × qm)} (hK : ∀ {S : zm_S} {M : qm} {x2 : Int32} {y2 : Int} {x3 : Int32} {y3 : Int} {x4 : Int32} {y4 : Int} {x5 : Int32} {y5 : Int} {x6 : Int32} {y6 : Int} {x7 : Int64} {y7 : Int}, Sh L xs P S → qM P S = M → x2.toInt = y2 → x3.toInt = y3 → x4.toInt = y4 → x5.toInt = y5 → x6.toInt = y6 → x7.toInt = y7 → qs (K 1337 x2 x3 x4 x5 x6 x7 S) (Kq y2 y3 y4 y5 y6 y7 M) (tO (rr L xs P vu))) (hS : Sh L xs P S) (hM : qM P S = M) (ei1 : i1.toInt = qi1) (ei2 : i2.toInt = qi2) (ei3 : i3.toInt = qi3) (ei4 : i4.toInt = qi4) (ei5 : i5.toInt = qi5) (ej6 : j6.toInt = qj6) : qs (zf_X3_tryRows_B 20000 K 1337 i1 i2 i3 i4 i5 j6 S) (qf_X3_tryRows_B 20000 Kq qi1 qi2 qi3 qi4 qi5 qj6 M) (tO (rr L xs P vu)) := by
  unfold zf_X3_tryRows_B qf_X3_tryRows_B
  refine qs_gl hS hM pl_1337 ts_1337 (z := 12) rfl rfl (fun v8266 h8266 => ?_)
  refine qs_ite (g_lt ej6 h8266) ?_ ?_
  · refine qs_ite (c_eq ei2 k_0) ?_ ?_
    · refine qs_pl hS hM pl_1337 ts_1337 (z := 12) rfl rfl ej6 (fun S8267 M8267 hS8267 hM8267 => ?_)
      refine qs_gr hS8267 pl_1337 ts_1337 rfl ?_
      refine qs_gr hS8267 pl_1337 ts_1337 rfl ?_
      refine qs_gd (fun g8271 => ?_)
      refine qs_cpi hS8267 hM8267 (pa_p hS8267 pl_2152 ts_2152) (pa_p hS8267 pl_2153 ts_2153) k_0 k_0 ei3 (by have q := g8271; omega) (fun S8270 M8270 hS8270 hM8270 => ?_)
      exact qs_tr (show vu _ _ from trivial) hS8270 hM8270
    · refine qs_gr hS pl_1337 ts_1337 rfl ?_
      refine qs_gd (fun g8274 => ?_)
      refine qs_xt hS pl_1338 ts_1338 (Or.inl rfl) ei1 g8274 (fun b8273 r8273 => ?_)
      refine qs_yi (j := 1) hS hM qt_1338 tq_1338 r8273 k_1 (by decide) (fun v8275 h8275 => ?_)
      refine qs_lr (qz_X3_tryRows_B_L49 20000 hK hS hM ei1 ei2 ei3 ei4 ei5 ej6 h8275 k_0) ?_ ?_
      · intro v8277 S8277 w8277 M8277 h8277 hS8277 hM8277
        dsimp only
        exact qs_tr h8277 hS8277 hM8277
      · intro v8277 S8277 w8277 M8277 h8277 hS8277 hM8277
        dsimp only
        exact qs_tr (show vu _ _ from trivial) hS8277 hM8277
  · exact qs_tr (show vu _ _ from trivial) hS hM
theorem qy_X3_tryRows (n : Nat) : ∀ {P : Nat → Nat} {S : zm_S} {M : qm} {i1 : Int32} {qi1 : Int} {i2 : Int32} {qi2 : Int} {i3 : Int32} {qi3 : Int} {i4 : Int32} {qi4 : Int} {i5 : Int32} {qi5 : Int} {j6 : Int64} {qj6 : Int} (hS : Sh L xs P S) (hM : qM P S = M) (ei1 : i1.toInt = qi1) (ei2 : i2.toInt = qi2) (ei3 : i3.toInt = qi3) (ei4 : i4.toInt = qi4) (ei5 : i5.toInt = qi5) (ej6 : j6.toInt = qj6), qs (zr_X3_tryRows 20000 n 1337 i1 i2 i3 i4 i5 j6 S) (qr_X3_tryRows 20000 n qi1 qi2 qi3 qi4 qi5 qj6 M) (tO (rr L xs P vu)) := by
  induction n with
  | zero =>
    intros
    exact qs_none
  | succ n ih =>
    intro P S M i1 qi1 i2 qi2 i3 qi3 i4 qi4 i5 qi5 j6 qj6 hS hM ei1 ei2 ei3 ei4 ei5 ej6
    refine qs_eq (zr_X3_tryRows.eq_2 ..) (qs_eqr (qr_X3_tryRows.eq_2 ..) ?_)
    exact qz_X3_tryRows_B (K := zr_X3_tryRows 20000 n) (Kq := qr_X3_tryRows 20000 n) (fun u0 u1 u2 u3 u4 u5 u6 u7 => ih u0 u1 u2 u3 u4 u5 u6 u7) hS hM ei1 ei2 ei3 ei4 ei5 ej6
set_option maxRecDepth 20000 in
theorem qz_X3_tryRows {P : Nat → Nat} {S : zm_S} {M : qm} {i1 : Int32} {qi1 : Int} {i2 : Int32} {qi2 : Int} {i3 : Int32} {qi3 : Int} {i4 : Int32} {qi4 : Int} {i5 : Int32} {qi5 : Int} {j6 : Int64} {qj6 : Int} (hS : Sh L xs P S) (hM : qM P S = M) (ei1 : i1.toInt = qi1) (ei2 : i2.toInt = qi2) (ei3 : i3.toInt = qi3) (ei4 : i4.toInt = qi4) (ei5 : i5.toInt = qi5) (ej6 : j6.toInt = qj6) : qs (zf_X3_tryRows 20000 1337 i1 i2 i3 i4 i5 j6 S) (qf_X3_tryRows 20000 qi1 qi2 qi3 qi4 qi5 qj6 M) (tO (rr L xs P vu)) := by
  unfold zf_X3_tryRows qf_X3_tryRows
  exact (qy_X3_tryRows 12 hS hM ei1 ei2 ei3 ei4 ei5 ej6)
set_option maxRecDepth 20000 in
theorem qz_X3_leastRowCost {P : Nat → Nat} {S : zm_S} {M : qm} {i1 : Int32} {qi1 : Int} {i2 : Int32} {qi2 : Int} (hS : Sh L xs P S) (hM : qM P S = M) (ei1 : i1.toInt = qi1) (ei2 : i2.toInt = qi2) : qs (zf_X3_leastRowCost 20000 1337 i1 i2 S) (qf_X3_leastRowCost 20000 qi1 qi2 M) (tO (rr L xs P vl)) := by
  unfold zf_X3_leastRowCost qf_X3_leastRowCost
  refine qs_pl hS hM pl_1337 ts_1337 (z := 12) rfl rfl kl_9223372036854775807 (fun S8278 M8278 hS8278 hM8278 => ?_)
  refine qs_gr hS8278 pl_1337 ts_1337 rfl ?_
  refine qs_gd (fun g8281 => ?_)
  refine qs_xt hS8278 pl_1338 ts_1338 (Or.inl rfl) ei1 g8281 (fun b8280 r8280 => ?_)
  refine qs_yi (j := 0) hS8278 hM8278 qt_1338 tq_1338 r8280 k_0 (by decide) (fun v8282 h8282 => ?_)
  refine qs_gr hS8278 pl_1337 ts_1337 rfl ?_
  refine qs_gd (fun g8285 => ?_)
  refine qs_xt hS8278 pl_1338 ts_1338 (Or.inl rfl) ei1 g8285 (fun b8284 r8284 => ?_)
  refine qs_yi (j := 2) hS8278 hM8278 qt_1338 tq_1338 r8284 k_2 (by decide) (fun v8286 h8286 => ?_)
  refine qs_gi hS8278 hM8278 pl_1337 ts_1337 (z := 7) rfl rfl (fun v8287 h8287 => ?_)
  refine qs_zi hS8278 pl_1337 ts_1337 ?_
  refine qs_b (qz_X3_tryRows hS8278 hM8278 ei1 ei2 k_0 h8282 (p_max k_0 (p_sub h8286 h8287)) kl_0) (fun v8289 S8289 w8289 M8289 h8289 hS8289 hM8289 => ?_)
  refine qs_gl hS8289 hM8289 pl_1337 ts_1337 (z := 12) rfl rfl (fun v8290 h8290 => ?_)
  exact qs_tr (show vl _ _ from h8290) hS8289 hM8289
set_option maxRecDepth 20000 in
theorem qz_X3_costRows_L2_b (n : Nat) {P : Nat → Nat} {S : zm_S} {M : qm} {i1 : Int32} {qi1 : Int} {i2 : Int32} {qi2 : Int} (hS : Sh L xs P S) (hM : qM P S = M) (ei1 : i1.toInt = qi1) (ei2 : i2.toInt = qi2) : qs (zf_X3_costRows_L2 20000 (n + 1) 1337 i1 i2 S) (qf_X3_costRows_L2_b 20000 qi1 qi2 M) (tk (vs (rr L xs P vu) (rr L xs P vu)) (qc_X3_costRows_L2 L xs P (zf_X3_costRows_L2 20000 n))) := by
  refine qs_eq (zf_X3_costRows_L2.eq_2 ..) ?_
  unfold qf_X3_costRows_L2_b
  refine qs_gi hS hM pl_1337 ts_1337 (z := 4) rfl rfl (fun v8291 h8291 => ?_)
  refine qs_ite (c_le (p_shl k_1 h8291) ei2) ?_ ?_
  · exact qs_tr2 (show vu _ _ from trivial) hS hM
  · refine qs_gr hS pl_1337 ts_1337 rfl ?_
    refine qs_gd (fun g8294 => ?_)
    refine qs_xt hS pl_2147 ts_2147 (Or.inr rfl) ei1 g8294 (fun b8293 r8293 => ?_)
    refine qs_zi hS pl_1337 ts_1337 ?_
    refine qs_bp (qz_X3_mayTakeAll hS hM ei1 ei2) (fun v8296 S8296 w8296 h8296 hS8296 hM8296 => ?_)
    refine qs_ite (c_eq h8296 k_0) ?_ ?_
    · refine qs_gd (fun g8298 => ?_)
      refine qs_ysl hS8296 hM8296 qt_2147 tq_2147 r8293 ei2 g8298 kl_0 (fun S8297 M8297 hS8297 hM8297 => ?_)
      exact qs_tk ⟨_, _, _, rfl, ei1, (p_add ei2 k_1), hS8297, hM8297⟩
    · refine qs_zi hS8296 pl_1337 ts_1337 ?_
      refine qs_b (qz_X3_leastRowCost hS8296 hM8296 ei1 ei2) (fun v8300 S8300 w8300 M8300 h8300 hS8300 hM8300 => ?_)
      refine qs_gd (fun g8302 => ?_)
      refine qs_ysl hS8300 hM8300 qt_2147 tq_2147 r8293 ei2 g8302 h8300 (fun S8301 M8301 hS8301 hM8301 => ?_)
      exact qs_tk ⟨_, _, _, rfl, ei1, (p_add ei2 k_1), hS8301, hM8301⟩
theorem qz_X3_costRows_L2 (n : Nat) : ∀ {P : Nat → Nat} {S : zm_S} {M : qm} {i1 : Int32} {qi1 : Int} {i2 : Int32} {qi2 : Int} (hS : Sh L xs P S) (hM : qM P S = M) (ei1 : i1.toInt = qi1) (ei2 : i2.toInt = qi2), qs (zf_X3_costRows_L2 20000 n 1337 i1 i2 S) (qf_X3_costRows_L2 20000 n qi1 qi2 M) (tO (vs (rr L xs P vu) (rr L xs P vu))) := by
  induction n with
  | zero =>
    intros
    exact qs_none
  | succ n ih =>
    intro P S M i1 qi1 i2 qi2 hS hM ei1 ei2
    unfold qf_X3_costRows_L2
    refine qs_loop (C := (qc_X3_costRows_L2 L xs P (zf_X3_costRows_L2 20000 n))) (qz_X3_costRows_L2_b n hS hM ei1 ei2) ?_
    rintro x s ⟨_, _, _, rfl, u0, u1, hS2, hM2⟩
    exact ih hS2 hM2 u0 u1
set_option maxRecDepth 20000 in
theorem qz_X3_costRows {P : Nat → Nat} {S : zm_S} {M : qm} {i1 : Int32} {qi1 : Int} (hS : Sh L xs P S) (hM : qM P S = M) (ei1 : i1.toInt = qi1) : qs (zf_X3_costRows 20000 1337 i1 S) (qf_X3_costRows 20000 qi1 M) (tO (rr L xs P vu)) := by
  unfold zf_X3_costRows qf_X3_costRows
  refine qs_lr (qz_X3_costRows_L2 20000 hS hM ei1 k_0) ?_ ?_
  · intro v8304 S8304 w8304 M8304 h8304 hS8304 hM8304
    dsimp only
    exact qs_tr h8304 hS8304 hM8304
  · intro v8304 S8304 w8304 M8304 h8304 hS8304 hM8304
    dsimp only
    exact qs_tr (show vu _ _ from trivial) hS8304 hM8304
set_option maxRecDepth 20000 in
theorem qz_X3_makeGiving_L73_b (n : Nat) {P : Nat → Nat} {S : zm_S} {M : qm} {i3 : Int32} {qi3 : Int} (hS : Sh L xs P S) (hM : qM P S = M) (ei3 : i3.toInt = qi3) : qs (zf_X3_makeGiving_L73 20000 (n + 1) 1337 i3 S) (qf_X3_makeGiving_L73_b 20000 qi3 M) (tk (vs (rr L xs P vl) (rr L xs P vu)) (qc_X3_makeGiving_L73 L xs P (zf_X3_makeGiving_L73 20000 n))) := by
  refine qs_eq (zf_X3_makeGiving_L73.eq_2 ..) ?_
  unfold qf_X3_makeGiving_L73_b
  refine qs_gi hS hM pl_1337 ts_1337 (z := 0) rfl rfl (fun v8305 h8305 => ?_)
  refine qs_ite (c_le h8305 ei3) ?_ ?_
  · exact qs_tr2 (show vu _ _ from trivial) hS hM
  · refine qs_zi hS pl_1337 ts_1337 ?_
    refine qs_b (qz_X3_costRows hS hM ei3) (fun v8307 S8307 w8307 M8307 h8307 hS8307 hM8307 => ?_)
    exact qs_tk ⟨_, _, rfl, (p_add ei3 k_1), hS8307, hM8307⟩
theorem qz_X3_makeGiving_L73 (n : Nat) : ∀ {P : Nat → Nat} {S : zm_S} {M : qm} {i3 : Int32} {qi3 : Int} (hS : Sh L xs P S) (hM : qM P S = M) (ei3 : i3.toInt = qi3), qs (zf_X3_makeGiving_L73 20000 n 1337 i3 S) (qf_X3_makeGiving_L73 20000 n qi3 M) (tO (vs (rr L xs P vl) (rr L xs P vu))) := by
  induction n with
  | zero =>
    intros
    exact qs_none
  | succ n ih =>
    intro P S M i3 qi3 hS hM ei3
    unfold qf_X3_makeGiving_L73
    refine qs_loop (C := (qc_X3_makeGiving_L73 L xs P (zf_X3_makeGiving_L73 20000 n))) (qz_X3_makeGiving_L73_b n hS hM ei3) ?_
    rintro x s ⟨_, _, rfl, u0, hS2, hM2⟩
    exact ih hS2 hM2 u0
set_option maxRecDepth 20000 in
theorem qz_X3_share_B_L32_b (n : Nat) {P : Nat → Nat} {S : zm_S} {M : qm} {i1 : Int32} {qi1 : Int} {i2 : Int32} {qi2 : Int} {K : Nat → Int32 → zm_S → Option (Unit × zm_S)} {Kq : Int → qm → Option (Unit × qm)} (hK : ∀ {S : zm_S} {M : qm} {x2 : Int32} {y2 : Int}, Sh L xs P S → qM P S = M → x2.toInt = y2 → qs (K 1337 x2 S) (Kq y2 M) (tO (rr L xs P vu))) (hS : Sh L xs P S) (hM : qM P S = M) (ei1 : i1.toInt = qi1) (ei2 : i2.toInt = qi2) : qs (zf_X3_share_B_L32 20000 K (n + 1) 1337 i1 i2 S) (qf_X3_share_B_L32_b 20000 Kq qi1 qi2 M) (tk (vs (rr L xs P vu) (rr L xs P vu)) (qc_X3_share_B_L32 L xs P (zf_X3_share_B_L32 20000 K n))) := by
  refine qs_eq (zf_X3_share_B_L32.eq_2 ..) ?_
  unfold qf_X3_share_B_L32_b
  refine qs_gi hS hM pl_1337 ts_1337 (z := 0) rfl rfl (fun v8308 h8308 => ?_)
  refine qs_ite (c_le h8308 ei2) ?_ ?_
  · exact qs_tr2 (show vu _ _ from trivial) hS hM
  · refine qs_gr hS pl_1337 ts_1337 rfl ?_
    refine qs_gd (fun g8311 => ?_)
    refine qs_xi hM (pa_p hS pl_2146 ts_2146) ei1 g8311 (fun v8310 h8310 => ?_)
    refine qs_ite (c_eq (p_and (p_shr h8310 ei2) k_1) k_0) ?_ ?_
    · exact qs_tk ⟨_, _, _, rfl, ei1, (p_add ei2 k_1), hS, hM⟩
    · refine qs_gr hS pl_1337 ts_1337 rfl ?_
      refine qs_gd (fun g8314 => ?_)
      refine qs_xi hM (pa_p hS pl_2154 ts_2154) ei2 g8314 (fun v8313 h8313 => ?_)
      refine qs_gd (fun g8316 => ?_)
      refine qs_si hS hM (pa_p hS pl_2154 ts_2154) ei2 g8316 (p_or h8313 (p_shl k_1 ei1)) (fun S8315 M8315 hS8315 hM8315 => ?_)
      refine qs_zi hS8315 pl_1337 ts_1337 ?_
      refine qs_b (hK hS8315 hM8315 (p_add ei1 k_1)) (fun v8318 S8318 w8318 M8318 h8318 hS8318 hM8318 => ?_)
      refine qs_gr hS8318 pl_1337 ts_1337 rfl ?_
      refine qs_gd (fun g8321 => ?_)
      refine qs_xi hM8318 (pa_p hS8318 pl_2154 ts_2154) ei2 g8321 (fun v8320 h8320 => ?_)
      refine qs_gd (fun g8323 => ?_)
      refine qs_si hS8318 hM8318 (pa_p hS8318 pl_2154 ts_2154) ei2 g8323 (p_and h8320 (p_xor (p_shl k_1 ei1) k_m1)) (fun S8322 M8322 hS8322 hM8322 => ?_)
      exact qs_tk ⟨_, _, _, rfl, ei1, (p_add ei2 k_1), hS8322, hM8322⟩
theorem qz_X3_share_B_L32 (n : Nat) : ∀ {P : Nat → Nat} {S : zm_S} {M : qm} {i1 : Int32} {qi1 : Int} {i2 : Int32} {qi2 : Int} {K : Nat → Int32 → zm_S → Option (Unit × zm_S)} {Kq : Int → qm → Option (Unit × qm)} (hK : ∀ {S : zm_S} {M : qm} {x2 : Int32} {y2 : Int}, Sh L xs P S → qM P S = M → x2.toInt = y2 → qs (K 1337 x2 S) (Kq y2 M) (tO (rr L xs P vu))) (hS : Sh L xs P S) (hM : qM P S = M) (ei1 : i1.toInt = qi1) (ei2 : i2.toInt = qi2), qs (zf_X3_share_B_L32 20000 K n 1337 i1 i2 S) (qf_X3_share_B_L32 20000 Kq n qi1 qi2 M) (tO (vs (rr L xs P vu) (rr L xs P vu))) := by
  induction n with
  | zero =>
    intros
    exact qs_none
  | succ n ih =>
    intro P S M i1 qi1 i2 qi2 K Kq hK hS hM ei1 ei2
    unfold qf_X3_share_B_L32
    refine qs_loop (C := (qc_X3_share_B_L32 L xs P (zf_X3_share_B_L32 20000 K n))) (qz_X3_share_B_L32_b n hK hS hM ei1 ei2) ?_
    rintro x s ⟨_, _, _, rfl, u0, u1, hS2, hM2⟩
    exact ih hK hS2 hM2 u0 u1
set_option maxRecDepth 20000 in
theorem qz_X3_keepShares_L4_b (n : Nat) {P : Nat → Nat} {S : zm_S} {M : qm} {j1 : Int64} {qj1 : Int} {i3 : Int32} {qi3 : Int} (hS : Sh L xs P S) (hM : qM P S = M) (ej1 : j1.toInt = qj1) (ei3 : i3.toInt = qi3) : qs (zf_X3_keepShares_L4 20000 (n + 1) 1337 j1 i3 S) (qf_X3_keepShares_L4_b 20000 qj1 qi3 M) (tk (vs (rp L xs P M vu) (rp L xs P M vl)) (qc_X3_keepShares_L4 L xs P M (zf_X3_keepShares_L4 20000 n))) := by
  refine qs_eq (zf_X3_keepShares_L4.eq_2 ..) ?_
  unfold qf_X3_keepShares_L4_b
  refine qs_gi hS hM pl_1337 ts_1337 (z := 0) rfl rfl (fun v8324 h8324 => ?_)
  refine qs_ite (c_le h8324 ei3) ?_ ?_
  · exact qs_tp2 (show vl _ _ from ej1) hS hM
  · refine qs_gr hS pl_1337 ts_1337 rfl ?_
    refine qs_gd (fun g8327 => ?_)
    refine qs_xt hS pl_2147 ts_2147 (Or.inr rfl) ei3 g8327 (fun b8326 r8326 => ?_)
    refine qs_gr hS pl_1337 ts_1337 rfl ?_
    refine qs_gd (fun g8330 => ?_)
    refine qs_xi hM (pa_p hS pl_2154 ts_2154) ei3 g8330 (fun v8329 h8329 => ?_)
    refine qs_gd (fun g8332 => ?_)
    refine qs_yl hS hM qt_2147 tq_2147 r8326 h8329 g8332 (fun v8331 h8331 => ?_)
    exact qs_tk ⟨_, _, _, rfl, (pl_add ej1 h8331), (p_add ei3 k_1), hS, hM⟩
theorem qz_X3_keepShares_L4 (n : Nat) : ∀ {P : Nat → Nat} {S : zm_S} {M : qm} {j1 : Int64} {qj1 : Int} {i3 : Int32} {qi3 : Int} (hS : Sh L xs P S) (hM : qM P S = M) (ej1 : j1.toInt = qj1) (ei3 : i3.toInt = qi3), qs (zf_X3_keepShares_L4 20000 n 1337 j1 i3 S) (qf_X3_keepShares_L4 20000 n qj1 qi3 M) (tO (vs (rp L xs P M vu) (rp L xs P M vl))) := by
  induction n with
  | zero =>
    intros
    exact qs_none
  | succ n ih =>
    intro P S M j1 qj1 i3 qi3 hS hM ej1 ei3
    unfold qf_X3_keepShares_L4
    refine qs_loop (C := (qc_X3_keepShares_L4 L xs P M (zf_X3_keepShares_L4 20000 n))) (qz_X3_keepShares_L4_b n hS hM ej1 ei3) ?_
    rintro x s ⟨_, _, _, rfl, u0, u1, hS2, hM2⟩
    exact ih hS2 hM2 u0 u1
set_option maxRecDepth 20000 in
theorem qz_X3_keepShares {P : Nat → Nat} {S : zm_S} {M : qm}  (hS : Sh L xs P S) (hM : qM P S = M)  : qs (zf_X3_keepShares 20000 1337 S) (qf_X3_keepShares 20000 M) (tO (rr L xs P vu)) := by
  unfold zf_X3_keepShares qf_X3_keepShares
  refine qs_lp (qz_X3_keepShares_L4 20000 hS hM kl_0 k_0) ?_ ?_
  · intro v8334 S8334 w8334 h8334 hS8334 hM8334
    dsimp only
    exact qs_tr h8334 hS8334 hM8334
  · intro v8334 S8334 w8334 h8334 hS8334 hM8334
    dsimp only
    refine qs_gl hS8334 hM8334 pl_1337 ts_1337 (z := 15) rfl rfl (fun v8335 h8335 => ?_)
    refine qs_ite (g0_le h8334 h8335) ?_ ?_
    · exact qs_tr (show vu _ _ from trivial) hS8334 hM8334
    · refine qs_pl hS8334 hM8334 pl_1337 ts_1337 (z := 15) rfl rfl h8334 (fun S8336 M8336 hS8336 hM8336 => ?_)
      refine qs_gr hS8336 pl_1337 ts_1337 rfl ?_
      refine qs_gr hS8336 pl_1337 ts_1337 rfl ?_
      refine qs_gi hS8336 hM8336 pl_1337 ts_1337 (z := 0) rfl rfl (fun v8339 h8339 => ?_)
      refine qs_gd (fun g8341 => ?_)
      refine qs_cpi hS8336 hM8336 (pa_p hS8336 pl_2154 ts_2154) (pa_p hS8336 pl_2155 ts_2155) k_0 k_0 h8339 (by have q := g8341; omega) (fun S8340 M8340 hS8340 hM8340 => ?_)
      exact qs_tr (show vu _ _ from trivial) hS8340 hM8340
set_option maxRecDepth 20000 in
theorem qz_X3_share_B {P : Nat → Nat} {S : zm_S} {M : qm} {i1 : Int32} {qi1 : Int} {K : Nat → Int32 → zm_S → Option (Unit × zm_S)} {Kq : Int → qm → Option (Unit × qm)} (hK : ∀ {S : zm_S} {M : qm} {x2 : Int32} {y2 : Int}, Sh L xs P S → qM P S = M → x2.toInt = y2 → qs (K 1337 x2 S) (Kq y2 M) (tO (rr L xs P vu))) (hS : Sh L xs P S) (hM : qM P S = M) (ei1 : i1.toInt = qi1) : qs (zf_X3_share_B 20000 K 1337 i1 S) (qf_X3_share_B 20000 Kq qi1 M) (tO (rr L xs P vu)) := by
  unfold zf_X3_share_B qf_X3_share_B
  refine qs_gi hS hM pl_1337 ts_1337 (z := 4) rfl rfl (fun v8342 h8342 => ?_)
  refine qs_ite (c_lt ei1 h8342) ?_ ?_
  · refine qs_gr hS pl_1337 ts_1337 rfl ?_
    refine qs_gd (fun g8345 => ?_)
    refine qs_xi hM (pa_p hS pl_2146 ts_2146) ei1 g8345 (fun v8344 h8344 => ?_)
    refine qs_ite (c_eq h8344 k_0) ?_ ?_
    · refine qs_zi hS pl_1337 ts_1337 ?_
      refine qs_b (hK hS hM (p_add ei1 k_1)) (fun v8347 S8347 w8347 M8347 h8347 hS8347 hM8347 => ?_)
      exact qs_tr (show vu _ _ from trivial) hS8347 hM8347
    · refine qs_lr (qz_X3_share_B_L32 20000 hK hS hM ei1 k_0) ?_ ?_
      · intro v8349 S8349 w8349 M8349 h8349 hS8349 hM8349
        dsimp only
        exact qs_tr h8349 hS8349 hM8349
      · intro v8349 S8349 w8349 M8349 h8349 hS8349 hM8349
        dsimp only
        exact qs_tr (show vu _ _ from trivial) hS8349 hM8349
  · refine qs_zi hS pl_1337 ts_1337 ?_
    refine qs_b (qz_X3_keepShares hS hM ) (fun v8351 S8351 w8351 M8351 h8351 hS8351 hM8351 => ?_)
    exact qs_tr (show vu _ _ from trivial) hS8351 hM8351
theorem qy_X3_share (n : Nat) : ∀ {P : Nat → Nat} {S : zm_S} {M : qm} {i1 : Int32} {qi1 : Int} (hS : Sh L xs P S) (hM : qM P S = M) (ei1 : i1.toInt = qi1), qs (zr_X3_share 20000 n 1337 i1 S) (qr_X3_share 20000 n qi1 M) (tO (rr L xs P vu)) := by
  induction n with
  | zero =>
    intros
    exact qs_none
  | succ n ih =>
    intro P S M i1 qi1 hS hM ei1
    refine qs_eq (zr_X3_share.eq_2 ..) (qs_eqr (qr_X3_share.eq_2 ..) ?_)
    exact qz_X3_share_B (K := zr_X3_share 20000 n) (Kq := qr_X3_share 20000 n) (fun u0 u1 u2 => ih u0 u1 u2) hS hM ei1
set_option maxRecDepth 20000 in
theorem qz_X3_share {P : Nat → Nat} {S : zm_S} {M : qm} {i1 : Int32} {qi1 : Int} (hS : Sh L xs P S) (hM : qM P S = M) (ei1 : i1.toInt = qi1) : qs (zf_X3_share 20000 1337 i1 S) (qf_X3_share 20000 qi1 M) (tO (rr L xs P vu)) := by
  unfold zf_X3_share qf_X3_share
  exact (qy_X3_share 12 hS hM ei1)
set_option maxRecDepth 20000 in
theorem qz_J6_bitCount_0f7a4 {P : Nat → Nat} {S : zm_S} {M : qm} {i0 : Int32} {qi0 : Int} (hS : Sh L xs P S) (hM : qM P S = M) (ei0 : i0.toInt = qi0) : qs (zf_J6_bitCount_0f7a4 20000 i0 S) (qf_J6_bitCount_0f7a4 20000 qi0 M) (tO (rp L xs P M vi)) := by
  unfold zf_J6_bitCount_0f7a4 qf_J6_bitCount_0f7a4
  exact qs_tp (show vi _ _ from (p_and (p_add (p_add (p_and (p_add (p_add (p_and (p_sub ei0 (p_and (p_ushr ei0 k_1) k_1431655765)) k_858993459) (p_and (p_ushr (p_sub ei0 (p_and (p_ushr ei0 k_1) k_1431655765)) k_2) k_858993459)) (p_ushr (p_add (p_and (p_sub ei0 (p_and (p_ushr ei0 k_1) k_1431655765)) k_858993459) (p_and (p_ushr (p_sub ei0 (p_and (p_ushr ei0 k_1) k_1431655765)) k_2) k_858993459)) k_4)) k_252645135) (p_ushr (p_and (p_add (p_add (p_and (p_sub ei0 (p_and (p_ushr ei0 k_1) k_1431655765)) k_858993459) (p_and (p_ushr (p_sub ei0 (p_and (p_ushr ei0 k_1) k_1431655765)) k_2) k_858993459)) (p_ushr (p_add (p_and (p_sub ei0 (p_and (p_ushr ei0 k_1) k_1431655765)) k_858993459) (p_and (p_ushr (p_sub ei0 (p_and (p_ushr ei0 k_1) k_1431655765)) k_2) k_858993459)) k_4)) k_252645135) k_8)) (p_ushr (p_add (p_and (p_add (p_add (p_and (p_sub ei0 (p_and (p_ushr ei0 k_1) k_1431655765)) k_858993459) (p_and (p_ushr (p_sub ei0 (p_and (p_ushr ei0 k_1) k_1431655765)) k_2) k_858993459)) (p_ushr (p_add (p_and (p_sub ei0 (p_and (p_ushr ei0 k_1) k_1431655765)) k_858993459) (p_and (p_ushr (p_sub ei0 (p_and (p_ushr ei0 k_1) k_1431655765)) k_2) k_858993459)) k_4)) k_252645135) (p_ushr (p_and (p_add (p_add (p_and (p_sub ei0 (p_and (p_ushr ei0 k_1) k_1431655765)) k_858993459) (p_and (p_ushr (p_sub ei0 (p_and (p_ushr ei0 k_1) k_1431655765)) k_2) k_858993459)) (p_ushr (p_add (p_and (p_sub ei0 (p_and (p_ushr ei0 k_1) k_1431655765)) k_858993459) (p_and (p_ushr (p_sub ei0 (p_and (p_ushr ei0 k_1) k_1431655765)) k_2) k_858993459)) k_4)) k_252645135) k_8)) k_16)) k_63)) hS hM
set_option maxRecDepth 20000 in
theorem qz_X3_keepRow_L54_b (n : Nat) {P : Nat → Nat} {S : zm_S} {M : qm} {i1 : Int32} {qi1 : Int} {i3 : Int32} {qi3 : Int} {i4 : Int32} {qi4 : Int} {i5 : Int32} {qi5 : Int} {i6 : Int32} {qi6 : Int} {i7 : Int32} {qi7 : Int} (hS : Sh L xs P S) (hM : qM P S = M) (ei1 : i1.toInt = qi1) (ei3 : i3.toInt = qi3) (ei4 : i4.toInt = qi4) (ei5 : i5.toInt = qi5) (ei6 : i6.toInt = qi6) (ei7 : i7.toInt = qi7) : qs (zf_X3_keepRow_L54 20000 (n + 1) 1337 i1 i3 i4 i5 i6 i7 S) (qf_X3_keepRow_L54_b 20000 qi1 qi3 qi4 qi5 qi6 qi7 M) (tk (vs (rr L xs P vu) (rr L xs P vu)) (qc_X3_keepRow_L54 L xs P (zf_X3_keepRow_L54 20000 n))) := by
  refine qs_eq (zf_X3_keepRow_L54.eq_2 ..) ?_
  unfold qf_X3_keepRow_L54_b
  refine qs_ite (c_le ei6 ei7) ?_ ?_
  · exact qs_tr2 (show vu _ _ from trivial) hS hM
  · refine qs_ite (c_le k_6 ei7) ?_ ?_
    · exact qs_tr2 (show vu _ _ from trivial) hS hM
    · refine qs_gr hS pl_1337 ts_1337 rfl ?_
      refine qs_gr hS pl_1337 ts_1337 rfl ?_
      refine qs_gd (fun g8355 => ?_)
      refine qs_xi hM (pa_p hS pl_2153 ts_2153) ei7 g8355 (fun v8354 h8354 => ?_)
      refine qs_gd (fun g8357 => ?_)
      refine qs_xi hM (pa_p hS pl_1744 ts_1744) h8354 g8357 (fun v8356 h8356 => ?_)
      refine qs_gr hS pl_1337 ts_1337 rfl ?_
      refine qs_gd (fun g8360 => ?_)
      refine qs_xt hS pl_1343 ts_1343 (Or.inl rfl) h8356 g8360 (fun b8359 r8359 => ?_)
      refine qs_gr hS pl_1337 ts_1337 rfl ?_
      refine qs_gd (fun g8363 => ?_)
      refine qs_xt hS pl_1745 ts_1745 (Or.inl rfl) h8356 g8363 (fun b8362 r8362 => ?_)
      refine qs_ysi hS hM qt_1745 tq_1745 r8362 k_0 (by decide) ei1 (fun S8364 M8364 hS8364 hM8364 => ?_)
      refine qs_yi (j := 0) hS8364 hM8364 qt_1343 tq_1343 r8359 k_0 (by decide) (fun v8365 h8365 => ?_)
      refine qs_ysi hS8364 hM8364 qt_1745 tq_1745 r8362 k_1 (by decide) (p_add ei5 (p_mul (p_abs (p_sub ei4 h8365)) ei3)) (fun S8366 M8366 hS8366 hM8366 => ?_)
      refine qs_yi (j := 1) hS8366 hM8366 qt_1745 tq_1745 r8362 k_1 (by decide) (fun v8367 h8367 => ?_)
      refine qs_yi (j := 1) hS8366 hM8366 qt_1343 tq_1343 r8359 k_1 (by decide) (fun v8368 h8368 => ?_)
      refine qs_yi (j := 0) hS8366 hM8366 qt_1343 tq_1343 r8359 k_0 (by decide) (fun v8369 h8369 => ?_)
      refine qs_ysi hS8366 hM8366 qt_1745 tq_1745 r8362 k_2 (by decide) (p_add (p_add h8367 k_3) (p_mul (p_abs (p_sub h8368 h8369)) ei3)) (fun S8370 M8370 hS8370 hM8370 => ?_)
      refine qs_ysi hS8370 hM8370 qt_1745 tq_1745 r8362 k_3 (by decide) ei7 (fun S8371 M8371 hS8371 hM8371 => ?_)
      refine qs_yi (j := 2) hS8371 hM8371 qt_1745 tq_1745 r8362 k_2 (by decide) (fun v8372 h8372 => ?_)
      refine qs_yi (j := 1) hS8371 hM8371 qt_1343 tq_1343 r8359 k_1 (by decide) (fun v8373 h8373 => ?_)
      exact qs_tk ⟨_, _, _, _, _, _, _, rfl, ei1, ei3, h8373, (p_add h8372 k_3), ei6, (p_add ei7 k_1), hS8371, hM8371⟩
theorem qz_X3_keepRow_L54 (n : Nat) : ∀ {P : Nat → Nat} {S : zm_S} {M : qm} {i1 : Int32} {qi1 : Int} {i3 : Int32} {qi3 : Int} {i4 : Int32} {qi4 : Int} {i5 : Int32} {qi5 : Int} {i6 : Int32} {qi6 : Int} {i7 : Int32} {qi7 : Int} (hS : Sh L xs P S) (hM : qM P S = M) (ei1 : i1.toInt = qi1) (ei3 : i3.toInt = qi3) (ei4 : i4.toInt = qi4) (ei5 : i5.toInt = qi5) (ei6 : i6.toInt = qi6) (ei7 : i7.toInt = qi7), qs (zf_X3_keepRow_L54 20000 n 1337 i1 i3 i4 i5 i6 i7 S) (qf_X3_keepRow_L54 20000 n qi1 qi3 qi4 qi5 qi6 qi7 M) (tO (vs (rr L xs P vu) (rr L xs P vu))) := by
  induction n with
  | zero =>
    intros
    exact qs_none
  | succ n ih =>
    intro P S M i1 qi1 i3 qi3 i4 qi4 i5 qi5 i6 qi6 i7 qi7 hS hM ei1 ei3 ei4 ei5 ei6 ei7
    unfold qf_X3_keepRow_L54
    refine qs_loop (C := (qc_X3_keepRow_L54 L xs P (zf_X3_keepRow_L54 20000 n))) (qz_X3_keepRow_L54_b n hS hM ei1 ei3 ei4 ei5 ei6 ei7) ?_
    rintro x s ⟨_, _, _, _, _, _, _, rfl, u0, u1, u2, u3, u4, u5, hS2, hM2⟩
    exact ih hS2 hM2 u0 u1 u2 u3 u4 u5
set_option maxRecDepth 20000 in
theorem qz_X3_keepRow {P : Nat → Nat} {S : zm_S} {M : qm} {i1 : Int32} {qi1 : Int} {i2 : Int32} {qi2 : Int} (hS : Sh L xs P S) (hM : qM P S = M) (ei1 : i1.toInt = qi1) (ei2 : i2.toInt = qi2) : qs (zf_X3_keepRow 20000 1337 i1 i2 S) (qf_X3_keepRow 20000 qi1 qi2 M) (tO (rr L xs P vu)) := by
  unfold zf_X3_keepRow qf_X3_keepRow
  refine qs_zi hS pl_1337 ts_1337 ?_
  refine qs_b (qz_X3_leastRowCost hS hM ei1 ei2) (fun v8375 S8375 w8375 M8375 h8375 hS8375 hM8375 => ?_)
  refine qs_gr hS8375 pl_1337 ts_1337 rfl ?_
  refine qs_gd (fun g8378 => ?_)
  refine qs_xt hS8375 pl_1338 ts_1338 (Or.inl rfl) ei1 g8378 (fun b8377 r8377 => ?_)
  refine qs_yi (j := 1) hS8375 hM8375 qt_1338 tq_1338 r8377 k_1 (by decide) (fun v8379 h8379 => ?_)
  refine qs_gr hS8375 pl_1337 ts_1337 rfl ?_
  refine qs_gd (fun g8382 => ?_)
  refine qs_xt hS8375 pl_1338 ts_1338 (Or.inl rfl) ei1 g8382 (fun b8381 r8381 => ?_)
  refine qs_yi (j := 0) hS8375 hM8375 qt_1338 tq_1338 r8381 k_0 (by decide) (fun v8383 h8383 => ?_)
  refine qs_gr hS8375 pl_1337 ts_1337 rfl ?_
  refine qs_gd (fun g8386 => ?_)
  refine qs_xt hS8375 pl_1338 ts_1338 (Or.inl rfl) ei1 g8386 (fun b8385 r8385 => ?_)
  refine qs_yi (j := 2) hS8375 hM8375 qt_1338 tq_1338 r8385 k_2 (by decide) (fun v8387 h8387 => ?_)
  refine qs_gi hS8375 hM8375 pl_1337 ts_1337 (z := 7) rfl rfl (fun v8388 h8388 => ?_)
  refine qs_bp (qz_J6_bitCount_0f7a4 hS8375 hM8375 ei2) (fun v8389 S8389 w8389 h8389 hS8389 hM8389 => ?_)
  refine qs_lr (qz_X3_keepRow_L54 20000 hS8389 hM8389 ei1 h8379 h8383 (p_max k_0 (p_sub h8387 h8388)) h8389 k_0) ?_ ?_
  · intro v8391 S8391 w8391 M8391 h8391 hS8391 hM8391
    dsimp only
    exact qs_tr h8391 hS8391 hM8391
  · intro v8391 S8391 w8391 M8391 h8391 hS8391 hM8391
    dsimp only
    exact qs_tr (show vu _ _ from trivial) hS8391 hM8391
set_option maxRecDepth 20000 in
theorem qz_X3_makeGiving_L114_b (n : Nat) {P : Nat → Nat} {S : zm_S} {M : qm} {i3 : Int32} {qi3 : Int} (hS : Sh L xs P S) (hM : qM P S = M) (ei3 : i3.toInt = qi3) : qs (zf_X3_makeGiving_L114 20000 (n + 1) 1337 i3 S) (qf_X3_makeGiving_L114_b 20000 qi3 M) (tk (vs (rr L xs P vl) (rr L xs P vu)) (qc_X3_makeGiving_L114 L xs P (zf_X3_makeGiving_L114 20000 n))) := by
  refine qs_eq (zf_X3_makeGiving_L114.eq_2 ..) ?_
  unfold qf_X3_makeGiving_L114_b
  refine qs_gi hS hM pl_1337 ts_1337 (z := 0) rfl rfl (fun v8392 h8392 => ?_)
  refine qs_ite (c_le h8392 ei3) ?_ ?_
  · exact qs_tr2 (show vu _ _ from trivial) hS hM
  · refine qs_gr hS pl_1337 ts_1337 rfl ?_
    refine qs_gd (fun g8395 => ?_)
    refine qs_xi hM (pa_p hS pl_2155 ts_2155) ei3 g8395 (fun v8394 h8394 => ?_)
    refine qs_zi hS pl_1337 ts_1337 ?_
    refine qs_b (qz_X3_keepRow hS hM ei3 h8394) (fun v8397 S8397 w8397 M8397 h8397 hS8397 hM8397 => ?_)
    exact qs_tk ⟨_, _, rfl, (p_add ei3 k_1), hS8397, hM8397⟩
theorem qz_X3_makeGiving_L114 (n : Nat) : ∀ {P : Nat → Nat} {S : zm_S} {M : qm} {i3 : Int32} {qi3 : Int} (hS : Sh L xs P S) (hM : qM P S = M) (ei3 : i3.toInt = qi3), qs (zf_X3_makeGiving_L114 20000 n 1337 i3 S) (qf_X3_makeGiving_L114 20000 n qi3 M) (tO (vs (rr L xs P vl) (rr L xs P vu))) := by
  induction n with
  | zero =>
    intros
    exact qs_none
  | succ n ih =>
    intro P S M i3 qi3 hS hM ei3
    unfold qf_X3_makeGiving_L114
    refine qs_loop (C := (qc_X3_makeGiving_L114 L xs P (zf_X3_makeGiving_L114 20000 n))) (qz_X3_makeGiving_L114_b n hS hM ei3) ?_
    rintro x s ⟨_, _, rfl, u0, hS2, hM2⟩
    exact ih hS2 hM2 u0
set_option maxRecDepth 20000 in
theorem qz_X3_makeGiving {P : Nat → Nat} {S : zm_S} {M : qm} {i1 : Int32} {qi1 : Int} {i2 : Int32} {qi2 : Int} (hS : Sh L xs P S) (hM : qM P S = M) (ei1 : i1.toInt = qi1) (ei2 : i2.toInt = qi2) : qs (zf_X3_makeGiving 20000 1337 i1 i2 S) (qf_X3_makeGiving 20000 qi1 qi2 M) (tO (rr L xs P vl)) := by
  unfold zf_X3_makeGiving qf_X3_makeGiving
  refine qs_pi hS hM pl_1337 ts_1337 (z := 7) rfl rfl ei1 (fun S8398 M8398 hS8398 hM8398 => ?_)
  refine qs_lr (qz_X3_makeGiving_L7 20000 hS8398 hM8398 ei2 k_0) ?_ ?_
  · intro v8400 S8400 w8400 M8400 h8400 hS8400 hM8400
    dsimp only
    exact qs_tr h8400 hS8400 hM8400
  · intro v8400 S8400 w8400 M8400 h8400 hS8400 hM8400
    dsimp only
    refine qs_lr (qz_X3_makeGiving_L33 20000 hS8400 hM8400 ei2 k_0) ?_ ?_
    · intro v8402 S8402 w8402 M8402 h8402 hS8402 hM8402
      dsimp only
      exact qs_tr h8402 hS8402 hM8402
    · intro v8402 S8402 w8402 M8402 h8402 hS8402 hM8402
      dsimp only
      refine qs_lr (qz_X3_makeGiving_L73 20000 hS8402 hM8402 k_0) ?_ ?_
      · intro v8404 S8404 w8404 M8404 h8404 hS8404 hM8404
        dsimp only
        exact qs_tr h8404 hS8404 hM8404
      · intro v8404 S8404 w8404 M8404 h8404 hS8404 hM8404
        dsimp only
        refine qs_gr hS8404 pl_1337 ts_1337 rfl ?_
        refine qs_fii hS8404 hM8404 (fun _ h => (pa_p h pl_2154 ts_2154)) (by decide) k_0 (fun S8406 M8406 hS8406 hM8406 => ?_)
        refine qs_pl hS8406 hM8406 pl_1337 ts_1337 (z := 15) rfl rfl kl_9223372036854775807 (fun S8407 M8407 hS8407 hM8407 => ?_)
        refine qs_zi hS8407 pl_1337 ts_1337 ?_
        refine qs_b (qz_X3_share hS8407 hM8407 k_0) (fun v8409 S8409 w8409 M8409 h8409 hS8409 hM8409 => ?_)
        refine qs_lr (qz_X3_makeGiving_L114 20000 hS8409 hM8409 k_0) ?_ ?_
        · intro v8411 S8411 w8411 M8411 h8411 hS8411 hM8411
          dsimp only
          exact qs_tr h8411 hS8411 hM8411
        · intro v8411 S8411 w8411 M8411 h8411 hS8411 hM8411
          dsimp only
          refine qs_gl hS8411 hM8411 pl_1337 ts_1337 (z := 15) rfl rfl (fun v8412 h8412 => ?_)
          exact qs_tr (show vl _ _ from h8412) hS8411 hM8411
set_option maxRecDepth 20000 in
theorem qz_X11_give {P : Nat → Nat} {S : zm_S} {M : qm}  (hS : Sh L xs P S) (hM : qM P S = M)  : qs (zf_X11_give 20000 6 S) (qf_X11_give 20000 M) (tO (rr L xs P (vs vl ve))) := by
  unfold zf_X11_give qf_X11_give
  refine qs_gi hS hM pl_6 ts_6 (z := 11) rfl rfl (fun v8413 h8413 => ?_)
  refine qs_xp (qz_X11_needState hS hM h8413) ?_ ?_
  · intro v8415 S8415 w8415 h8415 hS8415 hM8415
    dsimp only
    refine qs_gr hS8415 pl_6 ts_6 rfl ?_
    refine qs_gi hS8415 hM8415 pl_6 ts_6 (z := 12) rfl rfl (fun v8417 h8417 => ?_)
    refine qs_zi hS8415 pl_6 ts_6 ?_
    refine qs_bp (qz_X11_isHome hS8415 hM8415 ) (fun v8419 S8419 w8419 h8419 hS8419 hM8419 => ?_)
    refine qs_zi hS8419 pl_1337 ts_1337 ?_
    refine qs_b (qz_X3_makeGiving hS8419 hM8419 h8417 h8419) (fun v8421 S8421 w8421 M8421 h8421 hS8421 hM8421 => ?_)
    exact qs_tr (show (vs vl ve) _ _ from h8421) hS8421 hM8421
  · intro v8415 S8415 hS8415 hM8415
    dsimp only
    exact qs_tr (show (vs vl ve) _ _ from rfl) hS8415 hM8415
set_option maxRecDepth 20000 in
theorem qz_L_give {P : Nat → Nat} {S : zm_S} {M : qm}  (hS : Sh L xs P S) (hM : qM P S = M)  : qs (zf_L_give 20000 6 2332 S) (qf_L_give 20000 M) (tO (rr L xs P vi)) := by
  unfold zf_L_give qf_L_give
  refine qs_zi hS pl_6 ts_6 ?_
  refine qs_xr (qz_X11_give hS hM ) ?_ ?_
  · intro v8424 S8424 w8424 M8424 h8424 hS8424 hM8424
    dsimp only
    refine qs_sl hS8424 hM8424 (pa_p hS8424 pl_2332 ts_2332) k_0 (by decide) h8424 (fun S8425 M8425 hS8425 hM8425 => ?_)
    exact qs_tr (show vi _ _ from k_0) hS8425 hM8425
  · intro v8424 S8424 M8424 hS8424 hM8424
    dsimp only
    refine qs_ite Iff.rfl ?_ ?_
    · exact qs_tr (show vi _ _ from k_1) hS8424 hM8424
    · exact qs_none
set_option maxRecDepth 20000 in
theorem qz_X13_carsOf_J55 {P : Nat → Nat} {S : zm_S} {M : qm} {i1 : Int32} {qi1 : Int} {i3 : Int32} {qi3 : Int} {t0 : Int32} {qt0 : Int} {t1 : Int32} {qt1 : Int} (hS : Sh L xs P S) (hM : qM P S = M) (ei1 : i1.toInt = qi1) (ei3 : i3.toInt = qi3) (et0 : t0.toInt = qt0) (et1 : t1.toInt = qt1) {k : Nat → Int32 → Int32 → Int32 → zm_S → Option ((Int32 × zm_S) ⊕ ((Int32) × zm_S))} : qs (zf_X13_carsOf_J55 20000 k 2270 i1 i3 t0 t1 S) (qf_X13_carsOf_J55 20000 qi1 qi3 qt0 qt1 M) (tk (vs (rp L xs P M vi) (rp L xs P M vi)) (qc_X13_carsOf_L4 L xs P M k)) := by
  unfold zf_X13_carsOf_J55 qf_X13_carsOf_J55
  exact qs_tk ⟨_, _, _, _, rfl, ei1, (p_or et0 et1), (p_add ei3 k_1), hS, hM⟩
set_option maxRecDepth 20000 in
theorem qz_X13_carsOf_J54 {P : Nat → Nat} {S : zm_S} {M : qm} {i1 : Int32} {qi1 : Int} {i3 : Int32} {qi3 : Int} {t0 : Int32} {qt0 : Int} (hS : Sh L xs P S) (hM : qM P S = M) (ei1 : i1.toInt = qi1) (ei3 : i3.toInt = qi3) (et0 : t0.toInt = qt0) {k : Nat → Int32 → Int32 → Int32 → zm_S → Option ((Int32 × zm_S) ⊕ ((Int32) × zm_S))} : qs (zf_X13_carsOf_J54 20000 k 2270 i1 i3 t0 S) (qf_X13_carsOf_J54 20000 qi1 qi3 qt0 M) (tk (vs (rp L xs P M vi) (rp L xs P M vi)) (qc_X13_carsOf_L4 L xs P M k)) := by
  unfold zf_X13_carsOf_J54 qf_X13_carsOf_J54
  exact (qz_X13_carsOf_J55 hS hM ei1 ei3 et0 k_0)
set_option maxRecDepth 20000 in
theorem qz_X13_carsOf_J48 {P : Nat → Nat} {S : zm_S} {M : qm} {i1 : Int32} {qi1 : Int} {i3 : Int32} {qi3 : Int} {t0 : Int32} {qt0 : Int} (hS : Sh L xs P S) (hM : qM P S = M) (ei1 : i1.toInt = qi1) (ei3 : i3.toInt = qi3) (et0 : t0.toInt = qt0) {k : Nat → Int32 → Int32 → Int32 → zm_S → Option ((Int32 × zm_S) ⊕ ((Int32) × zm_S))} : qs (zf_X13_carsOf_J48 20000 k 2270 i1 i3 t0 S) (qf_X13_carsOf_J48 20000 qi1 qi3 qt0 M) (tk (vs (rp L xs P M vi) (rp L xs P M vi)) (qc_X13_carsOf_L4 L xs P M k)) := by
  unfold zf_X13_carsOf_J48 qf_X13_carsOf_J48
  exact (qz_X13_carsOf_J55 hS hM ei1 ei3 et0 (p_shl k_1 ei3))
set_option maxRecDepth 20000 in
theorem qz_X13_carsOf_L4_b (n : Nat) {P : Nat → Nat} {S : zm_S} {M : qm} {i1 : Int32} {qi1 : Int} {i2 : Int32} {qi2 : Int} {i3 : Int32} {qi3 : Int} (hS : Sh L xs P S) (hM : qM P S = M) (ei1 : i1.toInt = qi1) (ei2 : i2.toInt = qi2) (ei3 : i3.toInt = qi3) : qs (zf_X13_carsOf_L4 20000 (n + 1) 2270 i1 i2 i3 S) (qf_X13_carsOf_L4_b 20000 qi1 qi2 qi3 M) (tk (vs (rp L xs P M vi) (rp L xs P M vi)) (qc_X13_carsOf_L4 L xs P M (zf_X13_carsOf_L4 20000 n))) := by
  refine qs_eq (zf_X13_carsOf_L4.eq_2 ..) ?_
  unfold qf_X13_carsOf_L4_b
  refine qs_gi hS hM pl_2270 ts_2270 (z := 0) rfl rfl (fun v8426 h8426 => ?_)
  refine qs_ite (c_le h8426 ei3) ?_ ?_
  · exact qs_tp2 (show vi _ _ from ei2) hS hM
  · refine qs_gi hS hM pl_2270 ts_2270 (z := 13) rfl rfl (fun v8427 h8427 => ?_)
    refine qs_ite (c_eq h8427 k_0) ?_ ?_
    · refine qs_zi hS pl_2270 ts_2270 ?_
      refine qs_bp (qz_X13_reaches hS hM ei3 ei1) (fun v8429 S8429 w8429 h8429 hS8429 hM8429 => ?_)
      refine qs_ite (c_eq h8429 k_0) ?_ ?_
      · exact (qz_X13_carsOf_J54 hS8429 hM8429 ei1 ei3 ei2)
      · refine qs_gr hS8429 pl_2270 ts_2270 rfl ?_
        refine qs_gd (fun g8432 => ?_)
        refine qs_xi hM8429 (pa_p hS8429 pl_2280 ts_2280) ei1 g8432 (fun v8431 h8431 => ?_)
        refine qs_ite (c_lt h8431 k_0) ?_ ?_
        · exact (qz_X13_carsOf_J48 hS8429 hM8429 ei1 ei3 ei2)
        · refine qs_gr hS8429 pl_2270 ts_2270 rfl ?_
          refine qs_gd (fun g8435 => ?_)
          refine qs_xi hM8429 (pa_p hS8429 pl_2280 ts_2280) ei1 g8435 (fun v8434 h8434 => ?_)
          refine qs_ite (c_eq h8434 ei3) ?_ ?_
          · exact (qz_X13_carsOf_J48 hS8429 hM8429 ei1 ei3 ei2)
          · exact (qz_X13_carsOf_J54 hS8429 hM8429 ei1 ei3 ei2)
    · exact qs_tp2 (show vi _ _ from ei2) hS hM
theorem qz_X13_carsOf_L4 (n : Nat) : ∀ {P : Nat → Nat} {S : zm_S} {M : qm} {i1 : Int32} {qi1 : Int} {i2 : Int32} {qi2 : Int} {i3 : Int32} {qi3 : Int} (hS : Sh L xs P S) (hM : qM P S = M) (ei1 : i1.toInt = qi1) (ei2 : i2.toInt = qi2) (ei3 : i3.toInt = qi3), qs (zf_X13_carsOf_L4 20000 n 2270 i1 i2 i3 S) (qf_X13_carsOf_L4 20000 n qi1 qi2 qi3 M) (tO (vs (rp L xs P M vi) (rp L xs P M vi))) := by
  induction n with
  | zero =>
    intros
    exact qs_none
  | succ n ih =>
    intro P S M i1 qi1 i2 qi2 i3 qi3 hS hM ei1 ei2 ei3
    unfold qf_X13_carsOf_L4
    refine qs_loop (C := (qc_X13_carsOf_L4 L xs P M (zf_X13_carsOf_L4 20000 n))) (qz_X13_carsOf_L4_b n hS hM ei1 ei2 ei3) ?_
    rintro x s ⟨_, _, _, _, rfl, u0, u1, u2, hS2, hM2⟩
    exact ih hS2 hM2 u0 u1 u2
set_option maxRecDepth 20000 in
theorem qz_X13_carsOf {P : Nat → Nat} {S : zm_S} {M : qm} {i1 : Int32} {qi1 : Int} (hS : Sh L xs P S) (hM : qM P S = M) (ei1 : i1.toInt = qi1) : qs (zf_X13_carsOf 20000 2270 i1 S) (qf_X13_carsOf 20000 qi1 M) (tO (rp L xs P M vi)) := by
  unfold zf_X13_carsOf qf_X13_carsOf
  refine qs_lp (qz_X13_carsOf_L4 20000 hS hM ei1 k_0 k_0) ?_ ?_
  · intro v8437 S8437 w8437 h8437 hS8437 hM8437
    dsimp only
    exact qs_tp h8437 hS8437 hM8437
  · intro v8437 S8437 w8437 h8437 hS8437 hM8437
    dsimp only
    exact qs_tp (show vi _ _ from h8437) hS8437 hM8437
set_option maxRecDepth 20000 in
theorem qz_X13_choose_L7_b (n : Nat) {P : Nat → Nat} {S : zm_S} {M : qm} {i1 : Int32} {qi1 : Int} (hS : Sh L xs P S) (hM : qM P S = M) (ei1 : i1.toInt = qi1) : qs (zf_X13_choose_L7 20000 (n + 1) 2270 i1 S) (qf_X13_choose_L7_b 20000 qi1 M) (tk (vs (rr L xs P vu) (rr L xs P vu)) (qc_X13_choose_L7 L xs P (zf_X13_choose_L7 20000 n))) := by
  refine qs_eq (zf_X13_choose_L7.eq_2 ..) ?_
  unfold qf_X13_choose_L7_b
  refine qs_gi hS hM pl_2270 ts_2270 (z := 6) rfl rfl (fun v8438 h8438 => ?_)
  refine qs_ite (c_le h8438 ei1) ?_ ?_
  · exact qs_tr2 (show vu _ _ from trivial) hS hM
  · refine qs_gr hS pl_2270 ts_2270 rfl ?_
    refine qs_gd (fun g8441 => ?_)
    refine qs_xi hM (pa_p hS pl_2279 ts_2279) ei1 g8441 (fun v8440 h8440 => ?_)
    refine qs_ite (c_eq h8440 k_0) ?_ ?_
    · exact qs_tk ⟨_, _, rfl, (p_add ei1 k_1), hS, hM⟩
    · refine qs_zi hS pl_2270 ts_2270 ?_
      refine qs_bp (qz_X13_carsOf hS hM ei1) (fun v8443 S8443 w8443 h8443 hS8443 hM8443 => ?_)
      refine qs_ite (c_le h8443 k_0) ?_ ?_
      · exact qs_tk ⟨_, _, rfl, (p_add ei1 k_1), hS8443, hM8443⟩
      · refine qs_gr hS8443 pl_2270 ts_2270 rfl ?_
        refine qs_gi hS8443 hM8443 pl_2270 ts_2270 (z := 14) rfl rfl (fun v8445 h8445 => ?_)
        refine qs_gd (fun g8447 => ?_)
        refine qs_si hS8443 hM8443 (pa_p hS8443 pl_2281 ts_2281) h8445 g8447 ei1 (fun S8446 M8446 hS8446 hM8446 => ?_)
        refine qs_gi hS8446 hM8446 pl_2270 ts_2270 (z := 14) rfl rfl (fun v8448 h8448 => ?_)
        refine qs_pi hS8446 hM8446 pl_2270 ts_2270 (z := 14) rfl rfl (p_add h8448 k_1) (fun S8449 M8449 hS8449 hM8449 => ?_)
        exact qs_tk ⟨_, _, rfl, (p_add ei1 k_1), hS8449, hM8449⟩
theorem qz_X13_choose_L7 (n : Nat) : ∀ {P : Nat → Nat} {S : zm_S} {M : qm} {i1 : Int32} {qi1 : Int} (hS : Sh L xs P S) (hM : qM P S = M) (ei1 : i1.toInt = qi1), qs (zf_X13_choose_L7 20000 n 2270 i1 S) (qf_X13_choose_L7 20000 n qi1 M) (tO (vs (rr L xs P vu) (rr L xs P vu))) := by
  induction n with
  | zero =>
    intros
    exact qs_none
  | succ n ih =>
    intro P S M i1 qi1 hS hM ei1
    unfold qf_X13_choose_L7
    refine qs_loop (C := (qc_X13_choose_L7 L xs P (zf_X13_choose_L7 20000 n))) (qz_X13_choose_L7_b n hS hM ei1) ?_
    rintro x s ⟨_, _, rfl, u0, hS2, hM2⟩
    exact ih hS2 hM2 u0
set_option maxRecDepth 20000 in
theorem qz_X13_choose {P : Nat → Nat} {S : zm_S} {M : qm}  (hS : Sh L xs P S) (hM : qM P S = M)  : qs (zf_X13_choose 20000 2270 S) (qf_X13_choose 20000 M) (tO (rr L xs P vu)) := by
  unfold zf_X13_choose qf_X13_choose
  refine qs_pi hS hM pl_2270 ts_2270 (z := 14) rfl rfl k_0 (fun S8450 M8450 hS8450 hM8450 => ?_)
  refine qs_lr (qz_X13_choose_L7 20000 hS8450 hM8450 k_0) ?_ ?_
  · intro v8452 S8452 w8452 M8452 h8452 hS8452 hM8452
    dsimp only
    exact qs_tr h8452 hS8452 hM8452
  · intro v8452 S8452 w8452 M8452 h8452 hS8452 hM8452
    dsimp only
    exact qs_tr (show vu _ _ from trivial) hS8452 hM8452
set_option maxRecDepth 20000 in
theorem qz_X13_give_L8_b (n : Nat) {P : Nat → Nat} {S : zm_S} {M : qm} {i1 : Int32} {qi1 : Int} {i2 : Int32} {qi2 : Int} (hS : Sh L xs P S) (hM : qM P S = M) (ei1 : i1.toInt = qi1) (ei2 : i2.toInt = qi2) : qs (zf_X13_give_L8 20000 (n + 1) 2270 i1 i2 S) (qf_X13_give_L8_b 20000 qi1 qi2 M) (tk (vs (rp L xs P M vl) (rp L xs P M vi)) (qc_X13_give_L8 L xs P M (zf_X13_give_L8 20000 n))) := by
  refine qs_eq (zf_X13_give_L8.eq_2 ..) ?_
  unfold qf_X13_give_L8_b
  refine qs_gi hS hM pl_2270 ts_2270 (z := 14) rfl rfl (fun v8453 h8453 => ?_)
  refine qs_ite (c_le h8453 ei2) ?_ ?_
  · exact qs_tp2 (show vi _ _ from ei1) hS hM
  · refine qs_gi hS hM pl_2270 ts_2270 (z := 0) rfl rfl (fun v8454 h8454 => ?_)
    exact qs_tk ⟨_, _, _, rfl, (p_mul ei1 h8454), (p_add ei2 k_1), hS, hM⟩
theorem qz_X13_give_L8 (n : Nat) : ∀ {P : Nat → Nat} {S : zm_S} {M : qm} {i1 : Int32} {qi1 : Int} {i2 : Int32} {qi2 : Int} (hS : Sh L xs P S) (hM : qM P S = M) (ei1 : i1.toInt = qi1) (ei2 : i2.toInt = qi2), qs (zf_X13_give_L8 20000 n 2270 i1 i2 S) (qf_X13_give_L8 20000 n qi1 qi2 M) (tO (vs (rp L xs P M vl) (rp L xs P M vi))) := by
  induction n with
  | zero =>
    intros
    exact qs_none
  | succ n ih =>
    intro P S M i1 qi1 i2 qi2 hS hM ei1 ei2
    unfold qf_X13_give_L8
    refine qs_loop (C := (qc_X13_give_L8 L xs P M (zf_X13_give_L8 20000 n))) (qz_X13_give_L8_b n hS hM ei1 ei2) ?_
    rintro x s ⟨_, _, _, rfl, u0, u1, hS2, hM2⟩
    exact ih hS2 hM2 u0 u1
set_option maxRecDepth 20000 in
theorem qz_X13_findRow_L24_b (n : Nat) {P : Nat → Nat} {S : zm_S} {M : qm} {i1 : Int32} {qi1 : Int} {i2 : Int32} {qi2 : Int} {i3 : Int32} {qi3 : Int} {i4 : Int32} {qi4 : Int} (hS : Sh L xs P S) (hM : qM P S = M) (ei1 : i1.toInt = qi1) (ei2 : i2.toInt = qi2) (ei3 : i3.toInt = qi3) (ei4 : i4.toInt = qi4) : qs (zf_X13_findRow_L24 20000 (n + 1) 2270 i1 i2 i3 i4 S) (qf_X13_findRow_L24_b 20000 qi1 qi2 qi3 qi4 M) (tk (vs (rr L xs P vu) (rr L xs P vu)) (qc_X13_findRow_L24 L xs P (zf_X13_findRow_L24 20000 n))) := by
  refine qs_eq (zf_X13_findRow_L24.eq_2 ..) ?_
  unfold qf_X13_findRow_L24_b
  refine qs_gi hS hM pl_2270 ts_2270 (z := 14) rfl rfl (fun v8455 h8455 => ?_)
  refine qs_ite (c_le h8455 ei4) ?_ ?_
  · exact qs_tr2 (show vu _ _ from trivial) hS hM
  · refine qs_ite (c_eq (p_and (p_shr ei2 ei4) k_1) k_1) ?_ ?_
    · refine qs_gr hS pl_2270 ts_2270 rfl ?_
      refine qs_gi hS hM pl_2270 ts_2270 (z := 16) rfl rfl (fun v8457 h8457 => ?_)
      refine qs_gr hS pl_2270 ts_2270 rfl ?_
      refine qs_gd (fun g8460 => ?_)
      refine qs_xi hM (pa_p hS pl_2281 ts_2281) ei4 g8460 (fun v8459 h8459 => ?_)
      refine qs_gd (fun g8462 => ?_)
      refine qs_si hS hM (pa_p hS pl_2282 ts_2282) h8457 g8462 h8459 (fun S8461 M8461 hS8461 hM8461 => ?_)
      refine qs_gi hS8461 hM8461 pl_2270 ts_2270 (z := 16) rfl rfl (fun v8463 h8463 => ?_)
      refine qs_pi hS8461 hM8461 pl_2270 ts_2270 (z := 16) rfl rfl (p_add h8463 k_1) (fun S8464 M8464 hS8464 hM8464 => ?_)
      refine qs_gr hS8464 pl_2270 ts_2270 rfl ?_
      refine qs_gd (fun g8467 => ?_)
      refine qs_xi hM8464 (pa_p hS8464 pl_2281 ts_2281) ei4 g8467 (fun v8466 h8466 => ?_)
      refine qs_zi hS8464 pl_2270 ts_2270 ?_
      refine qs_bp (qz_X13_carsOf hS8464 hM8464 h8466) (fun v8469 S8469 w8469 h8469 hS8469 hM8469 => ?_)
      refine qs_ite (c_eq (p_and (p_shr h8469 ei1) k_1) k_0) ?_ ?_
      · exact qs_tr1 (show vu _ _ from trivial) hS8469 hM8469
      · exact qs_tk ⟨_, _, _, _, _, rfl, ei1, ei2, ei3, (p_add ei4 k_1), hS8469, hM8469⟩
    · exact qs_tk ⟨_, _, _, _, _, rfl, ei1, ei2, ei3, (p_add ei4 k_1), hS, hM⟩
theorem qz_X13_findRow_L24 (n : Nat) : ∀ {P : Nat → Nat} {S : zm_S} {M : qm} {i1 : Int32} {qi1 : Int} {i2 : Int32} {qi2 : Int} {i3 : Int32} {qi3 : Int} {i4 : Int32} {qi4 : Int} (hS : Sh L xs P S) (hM : qM P S = M) (ei1 : i1.toInt = qi1) (ei2 : i2.toInt = qi2) (ei3 : i3.toInt = qi3) (ei4 : i4.toInt = qi4), qs (zf_X13_findRow_L24 20000 n 2270 i1 i2 i3 i4 S) (qf_X13_findRow_L24 20000 n qi1 qi2 qi3 qi4 M) (tO (vs (rr L xs P vu) (rr L xs P vu))) := by
  induction n with
  | zero =>
    intros
    exact qs_none
  | succ n ih =>
    intro P S M i1 qi1 i2 qi2 i3 qi3 i4 qi4 hS hM ei1 ei2 ei3 ei4
    unfold qf_X13_findRow_L24
    refine qs_loop (C := (qc_X13_findRow_L24 L xs P (zf_X13_findRow_L24 20000 n))) (qz_X13_findRow_L24_b n hS hM ei1 ei2 ei3 ei4) ?_
    rintro x s ⟨_, _, _, _, _, rfl, u0, u1, u2, u3, hS2, hM2⟩
    exact ih hS2 hM2 u0 u1 u2 u3
set_option maxRecDepth 20000 in
theorem qz_X13_begins {P : Nat → Nat} {S : zm_S} {M : qm} {i1 : Int32} {qi1 : Int} (hS : Sh L xs P S) (hM : qM P S = M) (ei1 : i1.toInt = qi1) : qs (zf_X13_begins 20000 2270 i1 S) (qf_X13_begins 20000 qi1 M) (tO (rp L xs P M vi)) := by
  unfold zf_X13_begins qf_X13_begins
  refine qs_gr hS pl_2270 ts_2270 rfl ?_
  refine qs_gd (fun g8472 => ?_)
  refine qs_xi hM (pa_p hS pl_2273 ts_2273) ei1 g8472 (fun v8471 h8471 => ?_)
  refine qs_gi hS hM pl_2270 ts_2270 (z := 12) rfl rfl (fun v8473 h8473 => ?_)
  refine qs_ite (c_le h8471 h8473) ?_ ?_
  · exact qs_tp (show vi _ _ from k_0) hS hM
  · refine qs_gr hS pl_2270 ts_2270 rfl ?_
    refine qs_gd (fun g8476 => ?_)
    refine qs_xi hM (pa_p hS pl_2273 ts_2273) ei1 g8476 (fun v8475 h8475 => ?_)
    refine qs_gi hS hM pl_2270 ts_2270 (z := 12) rfl rfl (fun v8477 h8477 => ?_)
    exact qs_tp (show vi _ _ from (p_sub h8475 h8477)) hS hM
set_option maxRecDepth 20000 in
theorem qz_X13_way {P : Nat → Nat} {S : zm_S} {M : qm} {i1 : Int32} {qi1 : Int} {i2 : Int32} {qi2 : Int} {i3 : Int32} {qi3 : Int} (hS : Sh L xs P S) (hM : qM P S = M) (ei1 : i1.toInt = qi1) (ei2 : i2.toInt = qi2) (ei3 : i3.toInt = qi3) : qs (zf_X13_way 20000 2270 i1 i2 i3 S) (qf_X13_way 20000 qi1 qi2 qi3 M) (tO (rp L xs P M vi)) := by
  unfold zf_X13_way qf_X13_way
  refine qs_gr hS pl_2270 ts_2270 rfl ?_
  refine qs_gd (fun g8480 => ?_)
  refine qs_xi hM (pa_p hS pl_2271 ts_2271) ei1 g8480 (fun v8479 h8479 => ?_)
  refine qs_ite (c_le ei3 ei2) ?_ ?_
  · exact qs_tp (show vi _ _ from (p_mul h8479 (p_sub ei2 ei3))) hS hM
  · exact qs_tp (show vi _ _ from (p_mul h8479 (p_sub ei3 ei2))) hS hM
set_option maxRecDepth 20000 in
theorem qz_X13_weightOf {P : Nat → Nat} {S : zm_S} {M : qm} {i1 : Int32} {qi1 : Int} (hS : Sh L xs P S) (hM : qM P S = M) (ei1 : i1.toInt = qi1) : qs (zf_X13_weightOf 20000 2270 i1 S) (qf_X13_weightOf 20000 qi1 M) (tO (rp L xs P M vi)) := by
  unfold zf_X13_weightOf qf_X13_weightOf
  refine qs_gi hS hM pl_2270 ts_2270 (z := 12) rfl rfl (fun v8481 h8481 => ?_)
  refine qs_gr hS pl_2270 ts_2270 rfl ?_
  refine qs_gd (fun g8484 => ?_)
  refine qs_xi hM (pa_p hS pl_2278 ts_2278) ei1 g8484 (fun v8483 h8483 => ?_)
  exact qs_tp (show vi _ _ from (p_add k_1 (p_div (p_sub h8481 h8483) k_30 (by decide)))) hS hM
set_option maxRecDepth 20000 in
theorem qz_X13_costOf_L20_b (n : Nat) {P : Nat → Nat} {S : zm_S} {M : qm} {i1 : Int32} {qi1 : Int} {j2 : Int64} {qj2 : Int} {i4 : Int32} {qi4 : Int} {i5 : Int32} {qi5 : Int} {i6 : Int32} {qi6 : Int} (hS : Sh L xs P S) (hM : qM P S = M) (ei1 : i1.toInt = qi1) (ej2 : j2.toInt = qj2) (ei4 : i4.toInt = qi4) (ei5 : i5.toInt = qi5) (ei6 : i6.toInt = qi6) : qs (zf_X13_costOf_L20 20000 (n + 1) 2270 i1 j2 i4 i5 i6 S) (qf_X13_costOf_L20_b 20000 qi1 qj2 qi4 qi5 qi6 M) (tk (vs (rp L xs P M vl) (rp L xs P M vl)) (qc_X13_costOf_L20 L xs P M (zf_X13_costOf_L20 20000 n))) := by
  refine qs_eq (zf_X13_costOf_L20.eq_2 ..) ?_
  unfold qf_X13_costOf_L20_b
  refine qs_gi hS hM pl_2270 ts_2270 (z := 16) rfl rfl (fun v8485 h8485 => ?_)
  refine qs_ite (c_le h8485 ei6) ?_ ?_
  · exact qs_tp2 (show vl _ _ from ej2) hS hM
  · refine qs_gr hS pl_2270 ts_2270 rfl ?_
    refine qs_gd (fun g8488 => ?_)
    refine qs_xi hM (pa_p hS pl_2282 ts_2282) ei6 g8488 (fun v8487 h8487 => ?_)
    refine qs_gr hS pl_2270 ts_2270 rfl ?_
    refine qs_gd (fun g8491 => ?_)
    refine qs_xi hM (pa_p hS pl_2276 ts_2276) h8487 g8491 (fun v8490 h8490 => ?_)
    refine qs_zi hS pl_2270 ts_2270 ?_
    refine qs_bp (qz_X13_way hS hM ei1 ei5 h8490) (fun v8493 S8493 w8493 h8493 hS8493 hM8493 => ?_)
    refine qs_zi hS8493 pl_2270 ts_2270 ?_
    refine qs_bp (qz_X13_weightOf hS8493 hM8493 h8487) (fun v8495 S8495 w8495 h8495 hS8495 hM8495 => ?_)
    refine qs_gr hS8495 pl_2270 ts_2270 rfl ?_
    refine qs_gd (fun g8498 => ?_)
    refine qs_xi hM8495 (pa_p hS8495 pl_2276 ts_2276) h8487 g8498 (fun v8497 h8497 => ?_)
    refine qs_gr hS8495 pl_2270 ts_2270 rfl ?_
    refine qs_gd (fun g8501 => ?_)
    refine qs_xi hM8495 (pa_p hS8495 pl_2277 ts_2277) h8487 g8501 (fun v8500 h8500 => ?_)
    refine qs_zi hS8495 pl_2270 ts_2270 ?_
    refine qs_bp (qz_X13_way hS8495 hM8495 ei1 h8497 h8500) (fun v8503 S8503 w8503 h8503 hS8503 hM8503 => ?_)
    refine qs_gr hS8503 pl_2270 ts_2270 rfl ?_
    refine qs_gd (fun g8506 => ?_)
    refine qs_xi hM8503 (pa_p hS8503 pl_2277 ts_2277) h8487 g8506 (fun v8505 h8505 => ?_)
    exact qs_tk ⟨_, _, _, _, _, _, rfl, ei1, (pl_add (pl_add ej2 (pl_mul (p_64 h8495) (p_64 (p_add ei4 h8493)))) (p_64 (p_add (p_add ei4 h8493) (p_add k_3 h8503)))), (p_add (p_add (p_add ei4 h8493) (p_add k_3 h8503)) k_3), h8505, (p_add ei6 k_1), hS8503, hM8503⟩
theorem qz_X13_costOf_L20 (n : Nat) : ∀ {P : Nat → Nat} {S : zm_S} {M : qm} {i1 : Int32} {qi1 : Int} {j2 : Int64} {qj2 : Int} {i4 : Int32} {qi4 : Int} {i5 : Int32} {qi5 : Int} {i6 : Int32} {qi6 : Int} (hS : Sh L xs P S) (hM : qM P S = M) (ei1 : i1.toInt = qi1) (ej2 : j2.toInt = qj2) (ei4 : i4.toInt = qi4) (ei5 : i5.toInt = qi5) (ei6 : i6.toInt = qi6), qs (zf_X13_costOf_L20 20000 n 2270 i1 j2 i4 i5 i6 S) (qf_X13_costOf_L20 20000 n qi1 qj2 qi4 qi5 qi6 M) (tO (vs (rp L xs P M vl) (rp L xs P M vl))) := by
  induction n with
  | zero =>
    intros
    exact qs_none
  | succ n ih =>
    intro P S M i1 qi1 j2 qj2 i4 qi4 i5 qi5 i6 qi6 hS hM ei1 ej2 ei4 ei5 ei6
    unfold qf_X13_costOf_L20
    refine qs_loop (C := (qc_X13_costOf_L20 L xs P M (zf_X13_costOf_L20 20000 n))) (qz_X13_costOf_L20_b n hS hM ei1 ej2 ei4 ei5 ei6) ?_
    rintro x s ⟨_, _, _, _, _, _, rfl, u0, u1, u2, u3, u4, hS2, hM2⟩
    exact ih hS2 hM2 u0 u1 u2 u3 u4
set_option maxRecDepth 20000 in
theorem qz_X13_costOf {P : Nat → Nat} {S : zm_S} {M : qm} {i1 : Int32} {qi1 : Int} (hS : Sh L xs P S) (hM : qM P S = M) (ei1 : i1.toInt = qi1) : qs (zf_X13_costOf 20000 2270 i1 S) (qf_X13_costOf 20000 qi1 M) (tO (rp L xs P M vl)) := by
  unfold zf_X13_costOf qf_X13_costOf
  refine qs_zi hS pl_2270 ts_2270 ?_
  refine qs_bp (qz_X13_begins hS hM ei1) (fun v8508 S8508 w8508 h8508 hS8508 hM8508 => ?_)
  refine qs_gr hS8508 pl_2270 ts_2270 rfl ?_
  refine qs_gd (fun g8511 => ?_)
  refine qs_xi hM8508 (pa_p hS8508 pl_2272 ts_2272) ei1 g8511 (fun v8510 h8510 => ?_)
  refine qs_lp (qz_X13_costOf_L20 20000 hS8508 hM8508 ei1 kl_0 h8508 h8510 k_0) ?_ ?_
  · intro v8513 S8513 w8513 h8513 hS8513 hM8513
    dsimp only
    exact qs_tp h8513 hS8513 hM8513
  · intro v8513 S8513 w8513 h8513 hS8513 hM8513
    dsimp only
    exact qs_tp (show vl _ _ from h8513) hS8513 hM8513
set_option maxRecDepth 20000 in
theorem qz_X13_isRight_J35 {P : Nat → Nat} {S : zm_S} {M : qm} {i1 : Int32} {qi1 : Int} {i3 : Int32} {qi3 : Int} (hS : Sh L xs P S) (hM : qM P S = M) (ei1 : i1.toInt = qi1) (ei3 : i3.toInt = qi3) {k : Nat → Int32 → Int32 → Int32 → zm_S → Option ((Int32 × zm_S) ⊕ ((Int32) × zm_S))} : qs (zf_X13_isRight_J35 20000 k 2270 i1 i3 S) (qf_X13_isRight_J35 20000 qi1 qi3 M) (tk (vs (rp L xs P M vi) (rp L xs P M vi)) (qc_X13_isRight_L4 L xs P M k)) := by
  unfold zf_X13_isRight_J35 qf_X13_isRight_J35
  exact qs_tk ⟨_, _, _, _, rfl, ei1, k_0, (p_add ei3 k_1), hS, hM⟩
set_option maxRecDepth 20000 in
theorem qz_X13_isRight_L4_b (n : Nat) {P : Nat → Nat} {S : zm_S} {M : qm} {i1 : Int32} {qi1 : Int} {i2 : Int32} {qi2 : Int} {i3 : Int32} {qi3 : Int} (hS : Sh L xs P S) (hM : qM P S = M) (ei1 : i1.toInt = qi1) (ei2 : i2.toInt = qi2) (ei3 : i3.toInt = qi3) : qs (zf_X13_isRight_L4 20000 (n + 1) 2270 i1 i2 i3 S) (qf_X13_isRight_L4_b 20000 qi1 qi2 qi3 M) (tk (vs (rp L xs P M vi) (rp L xs P M vi)) (qc_X13_isRight_L4 L xs P M (zf_X13_isRight_L4 20000 n))) := by
  refine qs_eq (zf_X13_isRight_L4.eq_2 ..) ?_
  unfold qf_X13_isRight_L4_b
  refine qs_gi hS hM pl_2270 ts_2270 (z := 16) rfl rfl (fun v8514 h8514 => ?_)
  refine qs_ite (c_le h8514 ei3) ?_ ?_
  · exact qs_tp2 (show vi _ _ from ei2) hS hM
  · refine qs_ite (c_eq ei2 k_0) ?_ ?_
    · exact (qz_X13_isRight_J35 hS hM ei1 ei3)
    · refine qs_gr hS pl_2270 ts_2270 rfl ?_
      refine qs_gr hS pl_2270 ts_2270 rfl ?_
      refine qs_gd (fun g8518 => ?_)
      refine qs_xi hM (pa_p hS pl_2282 ts_2282) ei3 g8518 (fun v8517 h8517 => ?_)
      refine qs_gd (fun g8520 => ?_)
      refine qs_xi hM (pa_p hS pl_2280 ts_2280) h8517 g8520 (fun v8519 h8519 => ?_)
      refine qs_ite (c_eq h8519 ei1) ?_ ?_
      · exact (qz_X13_isRight_J35 hS hM ei1 ei3)
      · exact qs_tk ⟨_, _, _, _, rfl, ei1, k_1, (p_add ei3 k_1), hS, hM⟩
theorem qz_X13_isRight_L4 (n : Nat) : ∀ {P : Nat → Nat} {S : zm_S} {M : qm} {i1 : Int32} {qi1 : Int} {i2 : Int32} {qi2 : Int} {i3 : Int32} {qi3 : Int} (hS : Sh L xs P S) (hM : qM P S = M) (ei1 : i1.toInt = qi1) (ei2 : i2.toInt = qi2) (ei3 : i3.toInt = qi3), qs (zf_X13_isRight_L4 20000 n 2270 i1 i2 i3 S) (qf_X13_isRight_L4 20000 n qi1 qi2 qi3 M) (tO (vs (rp L xs P M vi) (rp L xs P M vi))) := by
  induction n with
  | zero =>
    intros
    exact qs_none
  | succ n ih =>
    intro P S M i1 qi1 i2 qi2 i3 qi3 hS hM ei1 ei2 ei3
    unfold qf_X13_isRight_L4
    refine qs_loop (C := (qc_X13_isRight_L4 L xs P M (zf_X13_isRight_L4 20000 n))) (qz_X13_isRight_L4_b n hS hM ei1 ei2 ei3) ?_
    rintro x s ⟨_, _, _, _, rfl, u0, u1, u2, hS2, hM2⟩
    exact ih hS2 hM2 u0 u1 u2
set_option maxRecDepth 20000 in
theorem qz_X13_isRight {P : Nat → Nat} {S : zm_S} {M : qm} {i1 : Int32} {qi1 : Int} (hS : Sh L xs P S) (hM : qM P S = M) (ei1 : i1.toInt = qi1) : qs (zf_X13_isRight 20000 2270 i1 S) (qf_X13_isRight 20000 qi1 M) (tO (rp L xs P M vi)) := by
  unfold zf_X13_isRight qf_X13_isRight
  refine qs_lp (qz_X13_isRight_L4 20000 hS hM ei1 k_1 k_1) ?_ ?_
  · intro v8522 S8522 w8522 h8522 hS8522 hM8522
    dsimp only
    exact qs_tp h8522 hS8522 hM8522
  · intro v8522 S8522 w8522 h8522 hS8522 hM8522
    dsimp only
    refine qs_ite (or_congr (c_eq h8522 k_0) (c_eq h8522 k_1)) ?_ ?_
    · exact qs_tp (show vi _ _ from h8522) hS8522 hM8522
    · exact qs_none
set_option maxRecDepth 20000 in
theorem qz_X13_nextRow_L7_b (n : Nat) {P : Nat → Nat} {S : zm_S} {M : qm} {i1 : Int32} {qi1 : Int} (hS : Sh L xs P S) (hM : qM P S = M) (ei1 : i1.toInt = qi1) : qs (zf_X13_nextRow_L7 20000 (n + 1) 2270 i1 S) (qf_X13_nextRow_L7_b 20000 qi1 M) (tk (vs (rp L xs P M vi) (rp L xs P M vi)) (qc_X13_nextRow_L7 L xs P M (zf_X13_nextRow_L7 20000 n))) := by
  refine qs_eq (zf_X13_nextRow_L7.eq_2 ..) ?_
  unfold qf_X13_nextRow_L7_b
  refine qs_ite (c_lt ei1 k_0) ?_ ?_
  · exact qs_tp2 (show vi _ _ from ei1) hS hM
  · refine qs_gr hS pl_2270 ts_2270 rfl ?_
    refine qs_gd (fun g8525 => ?_)
    refine qs_xi hM (pa_p hS pl_2282 ts_2282) ei1 g8525 (fun v8524 h8524 => ?_)
    refine qs_gr hS pl_2270 ts_2270 rfl ?_
    refine qs_gd (fun g8528 => ?_)
    refine qs_xi hM (pa_p hS pl_2282 ts_2282) (p_add ei1 k_1) g8528 (fun v8527 h8527 => ?_)
    refine qs_ite (c_le h8524 h8527) ?_ ?_
    · exact qs_tp2 (show vi _ _ from ei1) hS hM
    · exact qs_tk ⟨_, _, rfl, (p_addm ei1 k_m1), hS, hM⟩
theorem qz_X13_nextRow_L7 (n : Nat) : ∀ {P : Nat → Nat} {S : zm_S} {M : qm} {i1 : Int32} {qi1 : Int} (hS : Sh L xs P S) (hM : qM P S = M) (ei1 : i1.toInt = qi1), qs (zf_X13_nextRow_L7 20000 n 2270 i1 S) (qf_X13_nextRow_L7 20000 n qi1 M) (tO (vs (rp L xs P M vi) (rp L xs P M vi))) := by
  induction n with
  | zero =>
    intros
    exact qs_none
  | succ n ih =>
    intro P S M i1 qi1 hS hM ei1
    unfold qf_X13_nextRow_L7
    refine qs_loop (C := (qc_X13_nextRow_L7 L xs P M (zf_X13_nextRow_L7 20000 n))) (qz_X13_nextRow_L7_b n hS hM ei1) ?_
    rintro x s ⟨_, _, rfl, u0, hS2, hM2⟩
    exact ih hS2 hM2 u0
set_option maxRecDepth 20000 in
theorem qz_X13_nextRow_L47_b (n : Nat) {P : Nat → Nat} {S : zm_S} {M : qm} {i1 : Int32} {qi1 : Int} {i2 : Int32} {qi2 : Int} (hS : Sh L xs P S) (hM : qM P S = M) (ei1 : i1.toInt = qi1) (ei2 : i2.toInt = qi2) : qs (zf_X13_nextRow_L47 20000 (n + 1) 2270 i1 i2 S) (qf_X13_nextRow_L47_b 20000 qi1 qi2 M) (tk (vs (rp L xs P M vi) (rp L xs P M vi)) (qc_X13_nextRow_L47 L xs P M (zf_X13_nextRow_L47 20000 n))) := by
  refine qs_eq (zf_X13_nextRow_L47.eq_2 ..) ?_
  unfold qf_X13_nextRow_L47_b
  refine qs_gr hS pl_2270 ts_2270 rfl ?_
  refine qs_gd (fun g8531 => ?_)
  refine qs_xi hM (pa_p hS pl_2282 ts_2282) ei2 g8531 (fun v8530 h8530 => ?_)
  refine qs_gr hS pl_2270 ts_2270 rfl ?_
  refine qs_gd (fun g8534 => ?_)
  refine qs_xi hM (pa_p hS pl_2282 ts_2282) ei1 g8534 (fun v8533 h8533 => ?_)
  refine qs_ite (c_le h8533 h8530) ?_ ?_
  · exact qs_tp2 (show vi _ _ from ei2) hS hM
  · exact qs_tk ⟨_, _, _, rfl, ei1, (p_addm ei2 k_m1), hS, hM⟩
theorem qz_X13_nextRow_L47 (n : Nat) : ∀ {P : Nat → Nat} {S : zm_S} {M : qm} {i1 : Int32} {qi1 : Int} {i2 : Int32} {qi2 : Int} (hS : Sh L xs P S) (hM : qM P S = M) (ei1 : i1.toInt = qi1) (ei2 : i2.toInt = qi2), qs (zf_X13_nextRow_L47 20000 n 2270 i1 i2 S) (qf_X13_nextRow_L47 20000 n qi1 qi2 M) (tO (vs (rp L xs P M vi) (rp L xs P M vi))) := by
  induction n with
  | zero =>
    intros
    exact qs_none
  | succ n ih =>
    intro P S M i1 qi1 i2 qi2 hS hM ei1 ei2
    unfold qf_X13_nextRow_L47
    refine qs_loop (C := (qc_X13_nextRow_L47 L xs P M (zf_X13_nextRow_L47 20000 n))) (qz_X13_nextRow_L47_b n hS hM ei1 ei2) ?_
    rintro x s ⟨_, _, _, rfl, u0, u1, hS2, hM2⟩
    exact ih hS2 hM2 u0 u1
set_option maxRecDepth 20000 in
theorem qz_X13_nextRow_L107_b (n : Nat) {P : Nat → Nat} {S : zm_S} {M : qm} {i4 : Int32} {qi4 : Int} {i5 : Int32} {qi5 : Int} (hS : Sh L xs P S) (hM : qM P S = M) (ei4 : i4.toInt = qi4) (ei5 : i5.toInt = qi5) : qs (zf_X13_nextRow_L107 20000 (n + 1) 2270 i4 i5 S) (qf_X13_nextRow_L107_b 20000 qi4 qi5 M) (tk (vs (rr L xs P vi) (rr L xs P vu)) (qc_X13_nextRow_L107 L xs P (zf_X13_nextRow_L107 20000 n))) := by
  refine qs_eq (zf_X13_nextRow_L107.eq_2 ..) ?_
  unfold qf_X13_nextRow_L107_b
  refine qs_ite (c_le ei5 ei4) ?_ ?_
  · exact qs_tr2 (show vu _ _ from trivial) hS hM
  · refine qs_gr hS pl_2270 ts_2270 rfl ?_
    refine qs_gd (fun g8537 => ?_)
    refine qs_xi hM (pa_p hS pl_2282 ts_2282) ei4 g8537 (fun v8536 h8536 => ?_)
    refine qs_gr hS pl_2270 ts_2270 rfl ?_
    refine qs_gr hS pl_2270 ts_2270 rfl ?_
    refine qs_gd (fun g8541 => ?_)
    refine qs_xi hM (pa_p hS pl_2282 ts_2282) ei5 g8541 (fun v8540 h8540 => ?_)
    refine qs_gd (fun g8543 => ?_)
    refine qs_si hS hM (pa_p hS pl_2282 ts_2282) ei4 g8543 h8540 (fun S8542 M8542 hS8542 hM8542 => ?_)
    refine qs_gr hS8542 pl_2270 ts_2270 rfl ?_
    refine qs_gd (fun g8546 => ?_)
    refine qs_si hS8542 hM8542 (pa_p hS8542 pl_2282 ts_2282) ei5 g8546 h8536 (fun S8545 M8545 hS8545 hM8545 => ?_)
    exact qs_tk ⟨_, _, _, rfl, (p_add ei4 k_1), (p_addm ei5 k_m1), hS8545, hM8545⟩
theorem qz_X13_nextRow_L107 (n : Nat) : ∀ {P : Nat → Nat} {S : zm_S} {M : qm} {i4 : Int32} {qi4 : Int} {i5 : Int32} {qi5 : Int} (hS : Sh L xs P S) (hM : qM P S = M) (ei4 : i4.toInt = qi4) (ei5 : i5.toInt = qi5), qs (zf_X13_nextRow_L107 20000 n 2270 i4 i5 S) (qf_X13_nextRow_L107 20000 n qi4 qi5 M) (tO (vs (rr L xs P vi) (rr L xs P vu))) := by
  induction n with
  | zero =>
    intros
    exact qs_none
  | succ n ih =>
    intro P S M i4 qi4 i5 qi5 hS hM ei4 ei5
    unfold qf_X13_nextRow_L107
    refine qs_loop (C := (qc_X13_nextRow_L107 L xs P (zf_X13_nextRow_L107 20000 n))) (qz_X13_nextRow_L107_b n hS hM ei4 ei5) ?_
    rintro x s ⟨_, _, _, rfl, u0, u1, hS2, hM2⟩
    exact ih hS2 hM2 u0 u1
set_option maxRecDepth 20000 in
theorem qz_X13_nextRow_J34 {P : Nat → Nat} {S : zm_S} {M : qm} {i1 : Int32} {qi1 : Int} (hS : Sh L xs P S) (hM : qM P S = M) (ei1 : i1.toInt = qi1) : qs (zf_X13_nextRow_J34 20000 2270 i1 S) (qf_X13_nextRow_J34 20000 qi1 M) (tO (rr L xs P vi)) := by
  unfold zf_X13_nextRow_J34 qf_X13_nextRow_J34
  refine qs_ite (c_le k_0 ei1) ?_ ?_
  · refine qs_gi hS hM pl_2270 ts_2270 (z := 16) rfl rfl (fun v8547 h8547 => ?_)
    refine qs_lp (qz_X13_nextRow_L47 20000 hS hM ei1 (p_sub h8547 k_1)) ?_ ?_
    · intro v8549 S8549 w8549 h8549 hS8549 hM8549
      dsimp only
      exact qs_tr h8549 hS8549 hM8549
    · intro v8549 S8549 w8549 h8549 hS8549 hM8549
      dsimp only
      refine qs_gr hS8549 pl_2270 ts_2270 rfl ?_
      refine qs_gd (fun g8552 => ?_)
      refine qs_xi hM8549 (pa_p hS8549 pl_2282 ts_2282) ei1 g8552 (fun v8551 h8551 => ?_)
      refine qs_gr hS8549 pl_2270 ts_2270 rfl ?_
      refine qs_gr hS8549 pl_2270 ts_2270 rfl ?_
      refine qs_gd (fun g8556 => ?_)
      refine qs_xi hM8549 (pa_p hS8549 pl_2282 ts_2282) h8549 g8556 (fun v8555 h8555 => ?_)
      refine qs_gd (fun g8558 => ?_)
      refine qs_si hS8549 hM8549 (pa_p hS8549 pl_2282 ts_2282) ei1 g8558 h8555 (fun S8557 M8557 hS8557 hM8557 => ?_)
      refine qs_gr hS8557 pl_2270 ts_2270 rfl ?_
      refine qs_gd (fun g8561 => ?_)
      refine qs_si hS8557 hM8557 (pa_p hS8557 pl_2282 ts_2282) h8549 g8561 h8551 (fun S8560 M8560 hS8560 hM8560 => ?_)
      refine qs_gi hS8560 hM8560 pl_2270 ts_2270 (z := 16) rfl rfl (fun v8562 h8562 => ?_)
      refine qs_lr (qz_X13_nextRow_L107 20000 hS8560 hM8560 (p_add ei1 k_1) (p_sub h8562 k_1)) ?_ ?_
      · intro v8564 S8564 w8564 M8564 h8564 hS8564 hM8564
        dsimp only
        exact qs_tr h8564 hS8564 hM8564
      · intro v8564 S8564 w8564 M8564 h8564 hS8564 hM8564
        dsimp only
        exact qs_tr (show vi _ _ from k_1) hS8564 hM8564
  · exact qs_tr (show vi _ _ from k_0) hS hM
set_option maxRecDepth 20000 in
theorem qz_X13_nextRow {P : Nat → Nat} {S : zm_S} {M : qm}  (hS : Sh L xs P S) (hM : qM P S = M)  : qs (zf_X13_nextRow 20000 2270 S) (qf_X13_nextRow 20000 M) (tO (rr L xs P vi)) := by
  unfold zf_X13_nextRow qf_X13_nextRow
  refine qs_gi hS hM pl_2270 ts_2270 (z := 16) rfl rfl (fun v8565 h8565 => ?_)
  refine qs_lp (qz_X13_nextRow_L7 20000 hS hM (p_sub h8565 k_2)) ?_ ?_
  · intro v8567 S8567 w8567 h8567 hS8567 hM8567
    dsimp only
    exact qs_tr h8567 hS8567 hM8567
  · intro v8567 S8567 w8567 h8567 hS8567 hM8567
    dsimp only
    exact (qz_X13_nextRow_J34 hS8567 hM8567 h8567)
set_option maxRecDepth 20000 in
theorem qz_X13_findRow_J174 {P : Nat → Nat} {S : zm_S} {M : qm} {i1 : Int32} {qi1 : Int} {i3 : Int32} {qi3 : Int} (hS : Sh L xs P S) (hM : qM P S = M) (ei1 : i1.toInt = qi1) (ei3 : i3.toInt = qi3) {k : Nat → Int32 → Int32 → Int32 → zm_S → Option ((Unit × zm_S) ⊕ ((Unit) × zm_S))} : qs (zf_X13_findRow_J174 20000 k 2270 i1 i3 S) (qf_X13_findRow_J174 20000 qi1 qi3 M) (tk (vs (rr L xs P vu) (rr L xs P vu)) (qc_X13_findRow_L97 L xs P k)) := by
  unfold zf_X13_findRow_J174 qf_X13_findRow_J174
  refine qs_zi hS pl_2270 ts_2270 ?_
  refine qs_b (qz_X13_nextRow hS hM ) (fun v8569 S8569 w8569 M8569 h8569 hS8569 hM8569 => ?_)
  exact qs_tk ⟨_, _, _, _, rfl, ei1, ei3, h8569, hS8569, hM8569⟩
set_option maxRecDepth 20000 in
theorem qz_X13_findRow_L140_b (n : Nat) {P : Nat → Nat} {S : zm_S} {M : qm} {i1 : Int32} {qi1 : Int} {i3 : Int32} {qi3 : Int} {i7 : Int32} {qi7 : Int} (hS : Sh L xs P S) (hM : qM P S = M) (ei1 : i1.toInt = qi1) (ei3 : i3.toInt = qi3) (ei7 : i7.toInt = qi7) : qs (zf_X13_findRow_L140 20000 (n + 1) 2270 i1 i3 i7 S) (qf_X13_findRow_L140_b 20000 qi1 qi3 qi7 M) (tk (vs (rr L xs P vu) (rr L xs P vu)) (qc_X13_findRow_L140 L xs P (zf_X13_findRow_L140 20000 n))) := by
  refine qs_eq (zf_X13_findRow_L140.eq_2 ..) ?_
  unfold qf_X13_findRow_L140_b
  refine qs_gi hS hM pl_2270 ts_2270 (z := 16) rfl rfl (fun v8570 h8570 => ?_)
  refine qs_ite (c_le h8570 ei7) ?_ ?_
  · exact qs_tr2 (show vu _ _ from trivial) hS hM
  · refine qs_gr hS pl_2270 ts_2270 rfl ?_
    refine qs_gr hS pl_2270 ts_2270 rfl ?_
    refine qs_gd (fun g8574 => ?_)
    refine qs_xi hM (pa_p hS pl_2282 ts_2282) ei7 g8574 (fun v8573 h8573 => ?_)
    refine qs_gd (fun g8576 => ?_)
    refine qs_si hS hM (pa_p hS pl_2284 ts_2284) (p_add (p_mul k_6 ei3) ei7) g8576 h8573 (fun S8575 M8575 hS8575 hM8575 => ?_)
    exact qs_tk ⟨_, _, _, _, rfl, ei1, ei3, (p_add ei7 k_1), hS8575, hM8575⟩
theorem qz_X13_findRow_L140 (n : Nat) : ∀ {P : Nat → Nat} {S : zm_S} {M : qm} {i1 : Int32} {qi1 : Int} {i3 : Int32} {qi3 : Int} {i7 : Int32} {qi7 : Int} (hS : Sh L xs P S) (hM : qM P S = M) (ei1 : i1.toInt = qi1) (ei3 : i3.toInt = qi3) (ei7 : i7.toInt = qi7), qs (zf_X13_findRow_L140 20000 n 2270 i1 i3 i7 S) (qf_X13_findRow_L140 20000 n qi1 qi3 qi7 M) (tO (vs (rr L xs P vu) (rr L xs P vu))) := by
  induction n with
  | zero =>
    intros
    exact qs_none
  | succ n ih =>
    intro P S M i1 qi1 i3 qi3 i7 qi7 hS hM ei1 ei3 ei7
    unfold qf_X13_findRow_L140
    refine qs_loop (C := (qc_X13_findRow_L140 L xs P (zf_X13_findRow_L140 20000 n))) (qz_X13_findRow_L140_b n hS hM ei1 ei3 ei7) ?_
    rintro x s ⟨_, _, _, _, rfl, u0, u1, u2, hS2, hM2⟩
    exact ih hS2 hM2 u0 u1 u2
set_option maxRecDepth 20000 in
theorem qz_X13_findRow_L97_b (n : Nat) {P : Nat → Nat} {S : zm_S} {M : qm} {i1 : Int32} {qi1 : Int} {i3 : Int32} {qi3 : Int} {i4 : Int32} {qi4 : Int} (hS : Sh L xs P S) (hM : qM P S = M) (ei1 : i1.toInt = qi1) (ei3 : i3.toInt = qi3) (ei4 : i4.toInt = qi4) : qs (zf_X13_findRow_L97 20000 (n + 1) 2270 i1 i3 i4 S) (qf_X13_findRow_L97_b 20000 qi1 qi3 qi4 M) (tk (vs (rr L xs P vu) (rr L xs P vu)) (qc_X13_findRow_L97 L xs P (zf_X13_findRow_L97 20000 n))) := by
  refine qs_eq (zf_X13_findRow_L97.eq_2 ..) ?_
  unfold qf_X13_findRow_L97_b
  refine qs_ite (c_eq ei4 k_0) ?_ ?_
  · exact qs_tr2 (show vu _ _ from trivial) hS hM
  · refine qs_zi hS pl_2270 ts_2270 ?_
    refine qs_bp (qz_X13_costOf hS hM ei1) (fun v8578 S8578 w8578 h8578 hS8578 hM8578 => ?_)
    refine qs_zi hS8578 pl_2270 ts_2270 ?_
    refine qs_bp (qz_X13_isRight hS8578 hM8578 ei1) (fun v8580 S8580 w8580 h8580 hS8580 hM8580 => ?_)
    refine qs_ite (c_eq h8580 k_0) ?_ ?_
    · exact (qz_X13_findRow_J174 hS8580 hM8580 ei1 ei3)
    · refine qs_gr hS8580 pl_2270 ts_2270 rfl ?_
      refine qs_gd (fun g8583 => ?_)
      refine qs_xl hM8580 (pa_p hS8580 pl_2283 ts_2283) ei3 g8583 (fun v8582 h8582 => ?_)
      refine qs_ite (g0_le h8578 h8582) ?_ ?_
      · exact (qz_X13_findRow_J174 hS8580 hM8580 ei1 ei3)
      · refine qs_gr hS8580 pl_2270 ts_2270 rfl ?_
        refine qs_gd (fun g8586 => ?_)
        refine qs_sl hS8580 hM8580 (pa_p hS8580 pl_2283 ts_2283) ei3 g8586 h8578 (fun S8585 M8585 hS8585 hM8585 => ?_)
        refine qs_lr (qz_X13_findRow_L140 20000 hS8585 hM8585 ei1 ei3 k_0) ?_ ?_
        · intro v8588 S8588 w8588 M8588 h8588 hS8588 hM8588
          dsimp only
          exact qs_tr1 h8588 hS8588 hM8588
        · intro v8588 S8588 w8588 M8588 h8588 hS8588 hM8588
          dsimp only
          exact (qz_X13_findRow_J174 hS8588 hM8588 ei1 ei3)
theorem qz_X13_findRow_L97 (n : Nat) : ∀ {P : Nat → Nat} {S : zm_S} {M : qm} {i1 : Int32} {qi1 : Int} {i3 : Int32} {qi3 : Int} {i4 : Int32} {qi4 : Int} (hS : Sh L xs P S) (hM : qM P S = M) (ei1 : i1.toInt = qi1) (ei3 : i3.toInt = qi3) (ei4 : i4.toInt = qi4), qs (zf_X13_findRow_L97 20000 n 2270 i1 i3 i4 S) (qf_X13_findRow_L97 20000 n qi1 qi3 qi4 M) (tO (vs (rr L xs P vu) (rr L xs P vu))) := by
  induction n with
  | zero =>
    intros
    exact qs_none
  | succ n ih =>
    intro P S M i1 qi1 i3 qi3 i4 qi4 hS hM ei1 ei3 ei4
    unfold qf_X13_findRow_L97
    refine qs_loop (C := (qc_X13_findRow_L97 L xs P (zf_X13_findRow_L97 20000 n))) (qz_X13_findRow_L97_b n hS hM ei1 ei3 ei4) ?_
    rintro x s ⟨_, _, _, _, rfl, u0, u1, u2, hS2, hM2⟩
    exact ih hS2 hM2 u0 u1 u2
set_option maxRecDepth 20000 in
theorem qz_X13_findRow {P : Nat → Nat} {S : zm_S} {M : qm} {i1 : Int32} {qi1 : Int} {i2 : Int32} {qi2 : Int} (hS : Sh L xs P S) (hM : qM P S = M) (ei1 : i1.toInt = qi1) (ei2 : i2.toInt = qi2) : qs (zf_X13_findRow 20000 2270 i1 i2 S) (qf_X13_findRow 20000 qi1 qi2 M) (tO (rr L xs P vu)) := by
  unfold zf_X13_findRow qf_X13_findRow
  refine qs_gr hS pl_2270 ts_2270 rfl ?_
  refine qs_gd (fun g8591 => ?_)
  refine qs_sl hS hM (pa_p hS pl_2283 ts_2283) (p_add (p_mul k_64 ei1) ei2) g8591 kl_1152921504606846976 (fun S8590 M8590 hS8590 hM8590 => ?_)
  refine qs_pi hS8590 hM8590 pl_2270 ts_2270 (z := 16) rfl rfl k_0 (fun S8592 M8592 hS8592 hM8592 => ?_)
  refine qs_lr (qz_X13_findRow_L24 20000 hS8592 hM8592 ei1 ei2 (p_add (p_mul k_64 ei1) ei2) k_0) ?_ ?_
  · intro v8594 S8594 w8594 M8594 h8594 hS8594 hM8594
    dsimp only
    exact qs_tr h8594 hS8594 hM8594
  · intro v8594 S8594 w8594 M8594 h8594 hS8594 hM8594
    dsimp only
    refine qs_lr (qz_X13_findRow_L97 20000 hS8594 hM8594 ei1 (p_add (p_mul k_64 ei1) ei2) k_1) ?_ ?_
    · intro v8596 S8596 w8596 M8596 h8596 hS8596 hM8596
      dsimp only
      exact qs_tr h8596 hS8596 hM8596
    · intro v8596 S8596 w8596 M8596 h8596 hS8596 hM8596
      dsimp only
      exact qs_tr (show vu _ _ from trivial) hS8596 hM8596
set_option maxRecDepth 20000 in
theorem qz_X13_give_L41_b (n : Nat) {P : Nat → Nat} {S : zm_S} {M : qm} {i1 : Int32} {qi1 : Int} {i2 : Int32} {qi2 : Int} {i3 : Int32} {qi3 : Int} (hS : Sh L xs P S) (hM : qM P S = M) (ei1 : i1.toInt = qi1) (ei2 : i2.toInt = qi2) (ei3 : i3.toInt = qi3) : qs (zf_X13_give_L41 20000 (n + 1) 2270 i1 i2 i3 S) (qf_X13_give_L41_b 20000 qi1 qi2 qi3 M) (tk (vs (rr L xs P vl) (rr L xs P vu)) (qc_X13_give_L41 L xs P (zf_X13_give_L41 20000 n))) := by
  refine qs_eq (zf_X13_give_L41.eq_2 ..) ?_
  unfold qf_X13_give_L41_b
  refine qs_gi hS hM pl_2270 ts_2270 (z := 14) rfl rfl (fun v8597 h8597 => ?_)
  refine qs_ite (c_le (p_shl k_1 h8597) ei3) ?_ ?_
  · exact qs_tr2 (show vu _ _ from trivial) hS hM
  · refine qs_zi hS pl_2270 ts_2270 ?_
    refine qs_b (qz_X13_findRow hS hM ei2 ei3) (fun v8599 S8599 w8599 M8599 h8599 hS8599 hM8599 => ?_)
    exact qs_tk ⟨_, _, _, _, rfl, ei1, ei2, (p_add ei3 k_1), hS8599, hM8599⟩
theorem qz_X13_give_L41 (n : Nat) : ∀ {P : Nat → Nat} {S : zm_S} {M : qm} {i1 : Int32} {qi1 : Int} {i2 : Int32} {qi2 : Int} {i3 : Int32} {qi3 : Int} (hS : Sh L xs P S) (hM : qM P S = M) (ei1 : i1.toInt = qi1) (ei2 : i2.toInt = qi2) (ei3 : i3.toInt = qi3), qs (zf_X13_give_L41 20000 n 2270 i1 i2 i3 S) (qf_X13_give_L41 20000 n qi1 qi2 qi3 M) (tO (vs (rr L xs P vl) (rr L xs P vu))) := by
  induction n with
  | zero =>
    intros
    exact qs_none
  | succ n ih =>
    intro P S M i1 qi1 i2 qi2 i3 qi3 hS hM ei1 ei2 ei3
    unfold qf_X13_give_L41
    refine qs_loop (C := (qc_X13_give_L41 L xs P (zf_X13_give_L41 20000 n))) (qz_X13_give_L41_b n hS hM ei1 ei2 ei3) ?_
    rintro x s ⟨_, _, _, _, rfl, u0, u1, u2, hS2, hM2⟩
    exact ih hS2 hM2 u0 u1 u2
set_option maxRecDepth 20000 in
theorem qz_X13_give_L31_b (n : Nat) {P : Nat → Nat} {S : zm_S} {M : qm} {i1 : Int32} {qi1 : Int} {i2 : Int32} {qi2 : Int} (hS : Sh L xs P S) (hM : qM P S = M) (ei1 : i1.toInt = qi1) (ei2 : i2.toInt = qi2) : qs (zf_X13_give_L31 20000 (n + 1) 2270 i1 i2 S) (qf_X13_give_L31_b 20000 qi1 qi2 M) (tk (vs (rr L xs P vl) (rr L xs P vu)) (qc_X13_give_L31 L xs P (zf_X13_give_L31 20000 n))) := by
  refine qs_eq (zf_X13_give_L31.eq_2 ..) ?_
  unfold qf_X13_give_L31_b
  refine qs_gi hS hM pl_2270 ts_2270 (z := 0) rfl rfl (fun v8600 h8600 => ?_)
  refine qs_ite (c_le h8600 ei2) ?_ ?_
  · exact qs_tr2 (show vu _ _ from trivial) hS hM
  · refine qs_lr (qz_X13_give_L41 20000 hS hM ei1 ei2 k_0) ?_ ?_
    · intro v8602 S8602 w8602 M8602 h8602 hS8602 hM8602
      dsimp only
      exact qs_tr1 h8602 hS8602 hM8602
    · intro v8602 S8602 w8602 M8602 h8602 hS8602 hM8602
      dsimp only
      exact qs_tk ⟨_, _, _, rfl, ei1, (p_add ei2 k_1), hS8602, hM8602⟩
theorem qz_X13_give_L31 (n : Nat) : ∀ {P : Nat → Nat} {S : zm_S} {M : qm} {i1 : Int32} {qi1 : Int} {i2 : Int32} {qi2 : Int} (hS : Sh L xs P S) (hM : qM P S = M) (ei1 : i1.toInt = qi1) (ei2 : i2.toInt = qi2), qs (zf_X13_give_L31 20000 n 2270 i1 i2 S) (qf_X13_give_L31 20000 n qi1 qi2 M) (tO (vs (rr L xs P vl) (rr L xs P vu))) := by
  induction n with
  | zero =>
    intros
    exact qs_none
  | succ n ih =>
    intro P S M i1 qi1 i2 qi2 hS hM ei1 ei2
    unfold qf_X13_give_L31
    refine qs_loop (C := (qc_X13_give_L31 L xs P (zf_X13_give_L31 20000 n))) (qz_X13_give_L31_b n hS hM ei1 ei2) ?_
    rintro x s ⟨_, _, _, rfl, u0, u1, hS2, hM2⟩
    exact ih hS2 hM2 u0 u1
set_option maxRecDepth 20000 in
theorem qz_X13_bitsOf_J38 {P : Nat → Nat} {S : zm_S} {M : qm} {i2 : Int32} {qi2 : Int} {i4 : Int32} {qi4 : Int} {i5 : Int32} {qi5 : Int} {t0 : Int32} {qt0 : Int} {t1 : Int32} {qt1 : Int} (hS : Sh L xs P S) (hM : qM P S = M) (ei2 : i2.toInt = qi2) (ei4 : i4.toInt = qi4) (ei5 : i5.toInt = qi5) (et0 : t0.toInt = qt0) (et1 : t1.toInt = qt1) {k : Nat → Int32 → Int32 → Int32 → Int32 → zm_S → Option ((Int32 × zm_S) ⊕ ((Int32) × zm_S))} : qs (zf_X13_bitsOf_J38 20000 k 2270 i2 i4 i5 t0 t1 S) (qf_X13_bitsOf_J38 20000 qi2 qi4 qi5 qt0 qt1 M) (tk (vs (rp L xs P M vi) (rp L xs P M vi)) (qc_X13_bitsOf_L13 L xs P M k)) := by
  unfold zf_X13_bitsOf_J38 qf_X13_bitsOf_J38
  refine qs_gi hS hM pl_2270 ts_2270 (z := 0) rfl rfl (fun v8603 h8603 => ?_)
  refine qs_ite (c_eq h8603 k_0) ?_ ?_
  · exact qs_none
  · exact qs_tk ⟨_, _, _, _, _, rfl, ei2, (p_or et0 et1), (p_divw ei4 h8603), (p_addm ei5 k_m1), hS, hM⟩
set_option maxRecDepth 20000 in
theorem qz_X13_bitsOf_L13_b (n : Nat) {P : Nat → Nat} {S : zm_S} {M : qm} {i2 : Int32} {qi2 : Int} {i3 : Int32} {qi3 : Int} {i4 : Int32} {qi4 : Int} {i5 : Int32} {qi5 : Int} (hS : Sh L xs P S) (hM : qM P S = M) (ei2 : i2.toInt = qi2) (ei3 : i3.toInt = qi3) (ei4 : i4.toInt = qi4) (ei5 : i5.toInt = qi5) : qs (zf_X13_bitsOf_L13 20000 (n + 1) 2270 i2 i3 i4 i5 S) (qf_X13_bitsOf_L13_b 20000 qi2 qi3 qi4 qi5 M) (tk (vs (rp L xs P M vi) (rp L xs P M vi)) (qc_X13_bitsOf_L13 L xs P M (zf_X13_bitsOf_L13 20000 n))) := by
  refine qs_eq (zf_X13_bitsOf_L13.eq_2 ..) ?_
  unfold qf_X13_bitsOf_L13_b
  refine qs_ite (c_lt ei5 k_0) ?_ ?_
  · exact qs_tp2 (show vi _ _ from ei3) hS hM
  · refine qs_gi hS hM pl_2270 ts_2270 (z := 0) rfl rfl (fun v8604 h8604 => ?_)
    refine qs_ite (c_eq h8604 k_0) ?_ ?_
    · exact qs_none
    · refine qs_ite (c_eq (p_mod ei4 h8604) ei2) ?_ ?_
      · exact (qz_X13_bitsOf_J38 hS hM ei2 ei4 ei5 ei3 (p_shl k_1 ei5))
      · exact (qz_X13_bitsOf_J38 hS hM ei2 ei4 ei5 ei3 k_0)
theorem qz_X13_bitsOf_L13 (n : Nat) : ∀ {P : Nat → Nat} {S : zm_S} {M : qm} {i2 : Int32} {qi2 : Int} {i3 : Int32} {qi3 : Int} {i4 : Int32} {qi4 : Int} {i5 : Int32} {qi5 : Int} (hS : Sh L xs P S) (hM : qM P S = M) (ei2 : i2.toInt = qi2) (ei3 : i3.toInt = qi3) (ei4 : i4.toInt = qi4) (ei5 : i5.toInt = qi5), qs (zf_X13_bitsOf_L13 20000 n 2270 i2 i3 i4 i5 S) (qf_X13_bitsOf_L13 20000 n qi2 qi3 qi4 qi5 M) (tO (vs (rp L xs P M vi) (rp L xs P M vi))) := by
  induction n with
  | zero =>
    intros
    exact qs_none
  | succ n ih =>
    intro P S M i2 qi2 i3 qi3 i4 qi4 i5 qi5 hS hM ei2 ei3 ei4 ei5
    unfold qf_X13_bitsOf_L13
    refine qs_loop (C := (qc_X13_bitsOf_L13 L xs P M (zf_X13_bitsOf_L13 20000 n))) (qz_X13_bitsOf_L13_b n hS hM ei2 ei3 ei4 ei5) ?_
    rintro x s ⟨_, _, _, _, _, rfl, u0, u1, u2, u3, hS2, hM2⟩
    exact ih hS2 hM2 u0 u1 u2 u3
set_option maxRecDepth 20000 in
theorem qz_X13_bitsOf {P : Nat → Nat} {S : zm_S} {M : qm} {i1 : Int32} {qi1 : Int} {i2 : Int32} {qi2 : Int} (hS : Sh L xs P S) (hM : qM P S = M) (ei1 : i1.toInt = qi1) (ei2 : i2.toInt = qi2) : qs (zf_X13_bitsOf 20000 2270 i1 i2 S) (qf_X13_bitsOf 20000 qi1 qi2 M) (tO (rp L xs P M vi)) := by
  unfold zf_X13_bitsOf qf_X13_bitsOf
  refine qs_gi hS hM pl_2270 ts_2270 (z := 14) rfl rfl (fun v8605 h8605 => ?_)
  refine qs_lp (qz_X13_bitsOf_L13 20000 hS hM ei2 k_0 ei1 (p_sub h8605 k_1)) ?_ ?_
  · intro v8607 S8607 w8607 h8607 hS8607 hM8607
    dsimp only
    exact qs_tp h8607 hS8607 hM8607
  · intro v8607 S8607 w8607 h8607 hS8607 hM8607
    dsimp only
    exact qs_tp (show vi _ _ from h8607) hS8607 hM8607
set_option maxRecDepth 20000 in
theorem qz_X13_sumOf_L5_b (n : Nat) {P : Nat → Nat} {S : zm_S} {M : qm} {i1 : Int32} {qi1 : Int} {j2 : Int64} {qj2 : Int} {i4 : Int32} {qi4 : Int} (hS : Sh L xs P S) (hM : qM P S = M) (ei1 : i1.toInt = qi1) (ej2 : j2.toInt = qj2) (ei4 : i4.toInt = qi4) : qs (zf_X13_sumOf_L5 20000 (n + 1) 2270 i1 j2 i4 S) (qf_X13_sumOf_L5_b 20000 qi1 qj2 qi4 M) (tk (vs (rp L xs P M vl) (rp L xs P M vl)) (qc_X13_sumOf_L5 L xs P M (zf_X13_sumOf_L5 20000 n))) := by
  refine qs_eq (zf_X13_sumOf_L5.eq_2 ..) ?_
  unfold qf_X13_sumOf_L5_b
  refine qs_gi hS hM pl_2270 ts_2270 (z := 0) rfl rfl (fun v8608 h8608 => ?_)
  refine qs_ite (c_le h8608 ei4) ?_ ?_
  · exact qs_tp2 (show vl _ _ from ej2) hS hM
  · refine qs_gr hS pl_2270 ts_2270 rfl ?_
    refine qs_zi hS pl_2270 ts_2270 ?_
    refine qs_bp (qz_X13_bitsOf hS hM ei1 ei4) (fun v8611 S8611 w8611 h8611 hS8611 hM8611 => ?_)
    refine qs_gd (fun g8613 => ?_)
    refine qs_xl hM8611 (pa_p hS8611 pl_2283 ts_2283) (p_add (p_mul k_64 ei4) h8611) g8613 (fun v8612 h8612 => ?_)
    exact qs_tk ⟨_, _, _, _, rfl, ei1, (pl_add ej2 h8612), (p_add ei4 k_1), hS8611, hM8611⟩
theorem qz_X13_sumOf_L5 (n : Nat) : ∀ {P : Nat → Nat} {S : zm_S} {M : qm} {i1 : Int32} {qi1 : Int} {j2 : Int64} {qj2 : Int} {i4 : Int32} {qi4 : Int} (hS : Sh L xs P S) (hM : qM P S = M) (ei1 : i1.toInt = qi1) (ej2 : j2.toInt = qj2) (ei4 : i4.toInt = qi4), qs (zf_X13_sumOf_L5 20000 n 2270 i1 j2 i4 S) (qf_X13_sumOf_L5 20000 n qi1 qj2 qi4 M) (tO (vs (rp L xs P M vl) (rp L xs P M vl))) := by
  induction n with
  | zero =>
    intros
    exact qs_none
  | succ n ih =>
    intro P S M i1 qi1 j2 qj2 i4 qi4 hS hM ei1 ej2 ei4
    unfold qf_X13_sumOf_L5
    refine qs_loop (C := (qc_X13_sumOf_L5 L xs P M (zf_X13_sumOf_L5 20000 n))) (qz_X13_sumOf_L5_b n hS hM ei1 ej2 ei4) ?_
    rintro x s ⟨_, _, _, _, rfl, u0, u1, u2, hS2, hM2⟩
    exact ih hS2 hM2 u0 u1 u2
set_option maxRecDepth 20000 in
theorem qz_X13_sumOf {P : Nat → Nat} {S : zm_S} {M : qm} {i1 : Int32} {qi1 : Int} (hS : Sh L xs P S) (hM : qM P S = M) (ei1 : i1.toInt = qi1) : qs (zf_X13_sumOf 20000 2270 i1 S) (qf_X13_sumOf 20000 qi1 M) (tO (rp L xs P M vl)) := by
  unfold zf_X13_sumOf qf_X13_sumOf
  refine qs_lp (qz_X13_sumOf_L5 20000 hS hM ei1 kl_0 k_0) ?_ ?_
  · intro v8615 S8615 w8615 h8615 hS8615 hM8615
    dsimp only
    exact qs_tp h8615 hS8615 hM8615
  · intro v8615 S8615 w8615 h8615 hS8615 hM8615
    dsimp only
    exact qs_tp (show vl _ _ from h8615) hS8615 hM8615
set_option maxRecDepth 20000 in
theorem qz_X13_give_J107 {P : Nat → Nat} {S : zm_S} {M : qm} {i1 : Int32} {qi1 : Int} {j2 : Int64} {qj2 : Int} {i5 : Int32} {qi5 : Int} {j6 : Int64} {qj6 : Int} {t0 : Int32} {qt0 : Int} (hS : Sh L xs P S) (hM : qM P S = M) (ei1 : i1.toInt = qi1) (ej2 : j2.toInt = qj2) (ei5 : i5.toInt = qi5) (ej6 : j6.toInt = qj6) (et0 : t0.toInt = qt0) {k : Nat → Int32 → Int64 → Int32 → Int32 → zm_S → Option ((Int64 × zm_S) ⊕ ((Int64 × Int32) × zm_S))} : qs (zf_X13_give_J107 20000 k 2270 i1 j2 i5 j6 t0 S) (qf_X13_give_J107 20000 qi1 qj2 qi5 qj6 qt0 M) (tk (vs (rp L xs P M vl) (rp L xs P M (vp vl vi))) (qc_X13_give_L79 L xs P M k)) := by
  unfold zf_X13_give_J107 qf_X13_give_J107
  refine qs_ite (g0_le ej6 ej2) ?_ ?_
  · exact qs_tk ⟨_, _, _, _, _, rfl, ei1, ej2, et0, (p_add ei5 k_1), hS, hM⟩
  · exact qs_tk ⟨_, _, _, _, _, rfl, ei1, ej6, et0, (p_add ei5 k_1), hS, hM⟩
set_option maxRecDepth 20000 in
theorem qz_X13_give_L79_b (n : Nat) {P : Nat → Nat} {S : zm_S} {M : qm} {i1 : Int32} {qi1 : Int} {j2 : Int64} {qj2 : Int} {i4 : Int32} {qi4 : Int} {i5 : Int32} {qi5 : Int} (hS : Sh L xs P S) (hM : qM P S = M) (ei1 : i1.toInt = qi1) (ej2 : j2.toInt = qj2) (ei4 : i4.toInt = qi4) (ei5 : i5.toInt = qi5) : qs (zf_X13_give_L79 20000 (n + 1) 2270 i1 j2 i4 i5 S) (qf_X13_give_L79_b 20000 qi1 qj2 qi4 qi5 M) (tk (vs (rp L xs P M vl) (rp L xs P M (vp vl vi))) (qc_X13_give_L79 L xs P M (zf_X13_give_L79 20000 n))) := by
  refine qs_eq (zf_X13_give_L79.eq_2 ..) ?_
  unfold qf_X13_give_L79_b
  refine qs_ite (c_le ei1 ei5) ?_ ?_
  · exact qs_tp2 (show (vp vl vi) _ _ from ⟨ej2, ei4⟩) hS hM
  · refine qs_zi hS pl_2270 ts_2270 ?_
    refine qs_bp (qz_X13_sumOf hS hM ei5) (fun v8617 S8617 w8617 h8617 hS8617 hM8617 => ?_)
    refine qs_ite (g0_le h8617 ej2) ?_ ?_
    · exact (qz_X13_give_J107 hS8617 hM8617 ei1 ej2 ei5 h8617 ei4)
    · exact (qz_X13_give_J107 hS8617 hM8617 ei1 ej2 ei5 h8617 ei5)
theorem qz_X13_give_L79 (n : Nat) : ∀ {P : Nat → Nat} {S : zm_S} {M : qm} {i1 : Int32} {qi1 : Int} {j2 : Int64} {qj2 : Int} {i4 : Int32} {qi4 : Int} {i5 : Int32} {qi5 : Int} (hS : Sh L xs P S) (hM : qM P S = M) (ei1 : i1.toInt = qi1) (ej2 : j2.toInt = qj2) (ei4 : i4.toInt = qi4) (ei5 : i5.toInt = qi5), qs (zf_X13_give_L79 20000 n 2270 i1 j2 i4 i5 S) (qf_X13_give_L79 20000 n qi1 qj2 qi4 qi5 M) (tO (vs (rp L xs P M vl) (rp L xs P M (vp vl vi)))) := by
  induction n with
  | zero =>
    intros
    exact qs_none
  | succ n ih =>
    intro P S M i1 qi1 j2 qj2 i4 qi4 i5 qi5 hS hM ei1 ej2 ei4 ei5
    unfold qf_X13_give_L79
    refine qs_loop (C := (qc_X13_give_L79 L xs P M (zf_X13_give_L79 20000 n))) (qz_X13_give_L79_b n hS hM ei1 ej2 ei4 ei5) ?_
    rintro x s ⟨_, _, _, _, _, rfl, u0, u1, u2, u3, hS2, hM2⟩
    exact ih hS2 hM2 u0 u1 u2 u3
set_option maxRecDepth 20000 in
theorem qz_X13_give_L132_b (n : Nat) {P : Nat → Nat} {S : zm_S} {M : qm} {j2 : Int64} {qj2 : Int} {i4 : Int32} {qi4 : Int} {i5 : Int32} {qi5 : Int} (hS : Sh L xs P S) (hM : qM P S = M) (ej2 : j2.toInt = qj2) (ei4 : i4.toInt = qi4) (ei5 : i5.toInt = qi5) : qs (zf_X13_give_L132 20000 (n + 1) 2270 j2 i4 i5 S) (qf_X13_give_L132_b 20000 qj2 qi4 qi5 M) (tk (vs (rr L xs P vl) (rr L xs P vu)) (qc_X13_give_L132 L xs P (zf_X13_give_L132 20000 n))) := by
  refine qs_eq (zf_X13_give_L132.eq_2 ..) ?_
  unfold qf_X13_give_L132_b
  refine qs_gi hS hM pl_2270 ts_2270 (z := 6) rfl rfl (fun v8618 h8618 => ?_)
  refine qs_ite (c_le h8618 ei5) ?_ ?_
  · exact qs_tr2 (show vu _ _ from trivial) hS hM
  · refine qs_gr hS pl_2270 ts_2270 rfl ?_
    refine qs_gd (fun g8621 => ?_)
    refine qs_si hS hM (pa_p hS pl_2285 ts_2285) ei5 g8621 k_m1 (fun S8620 M8620 hS8620 hM8620 => ?_)
    exact qs_tk ⟨_, _, _, _, rfl, ej2, ei4, (p_add ei5 k_1), hS8620, hM8620⟩
theorem qz_X13_give_L132 (n : Nat) : ∀ {P : Nat → Nat} {S : zm_S} {M : qm} {j2 : Int64} {qj2 : Int} {i4 : Int32} {qi4 : Int} {i5 : Int32} {qi5 : Int} (hS : Sh L xs P S) (hM : qM P S = M) (ej2 : j2.toInt = qj2) (ei4 : i4.toInt = qi4) (ei5 : i5.toInt = qi5), qs (zf_X13_give_L132 20000 n 2270 j2 i4 i5 S) (qf_X13_give_L132 20000 n qj2 qi4 qi5 M) (tO (vs (rr L xs P vl) (rr L xs P vu))) := by
  induction n with
  | zero =>
    intros
    exact qs_none
  | succ n ih =>
    intro P S M j2 qj2 i4 qi4 i5 qi5 hS hM ej2 ei4 ei5
    unfold qf_X13_give_L132
    refine qs_loop (C := (qc_X13_give_L132 L xs P (zf_X13_give_L132 20000 n))) (qz_X13_give_L132_b n hS hM ej2 ei4 ei5) ?_
    rintro x s ⟨_, _, _, _, rfl, u0, u1, u2, hS2, hM2⟩
    exact ih hS2 hM2 u0 u1 u2
set_option maxRecDepth 20000 in
theorem qz_X13_tell_L20_b (n : Nat) {P : Nat → Nat} {S : zm_S} {M : qm} {i1 : Int32} {qi1 : Int} {i2 : Int32} {qi2 : Int} {i3 : Int32} {qi3 : Int} {i4 : Int32} {qi4 : Int} {i5 : Int32} {qi5 : Int} {i6 : Int32} {qi6 : Int} (hS : Sh L xs P S) (hM : qM P S = M) (ei1 : i1.toInt = qi1) (ei2 : i2.toInt = qi2) (ei3 : i3.toInt = qi3) (ei4 : i4.toInt = qi4) (ei5 : i5.toInt = qi5) (ei6 : i6.toInt = qi6) : qs (zf_X13_tell_L20 20000 (n + 1) 2270 i1 i2 i3 i4 i5 i6 S) (qf_X13_tell_L20_b 20000 qi1 qi2 qi3 qi4 qi5 qi6 M) (tk (vs (rp L xs P M vu) (rp L xs P M vi)) (qc_X13_tell_L20 L xs P M (zf_X13_tell_L20 20000 n))) := by
  refine qs_eq (zf_X13_tell_L20.eq_2 ..) ?_
  unfold qf_X13_tell_L20_b
  refine qs_ite (c_le k_6 ei6) ?_ ?_
  · exact qs_tp2 (show vi _ _ from ei5) hS hM
  · exact qs_tk ⟨_, _, _, _, _, _, _, rfl, ei1, ei2, ei3, ei4, (p_add ei5 (p_and (p_shr ei2 ei6) k_1)), (p_add ei6 k_1), hS, hM⟩
theorem qz_X13_tell_L20 (n : Nat) : ∀ {P : Nat → Nat} {S : zm_S} {M : qm} {i1 : Int32} {qi1 : Int} {i2 : Int32} {qi2 : Int} {i3 : Int32} {qi3 : Int} {i4 : Int32} {qi4 : Int} {i5 : Int32} {qi5 : Int} {i6 : Int32} {qi6 : Int} (hS : Sh L xs P S) (hM : qM P S = M) (ei1 : i1.toInt = qi1) (ei2 : i2.toInt = qi2) (ei3 : i3.toInt = qi3) (ei4 : i4.toInt = qi4) (ei5 : i5.toInt = qi5) (ei6 : i6.toInt = qi6), qs (zf_X13_tell_L20 20000 n 2270 i1 i2 i3 i4 i5 i6 S) (qf_X13_tell_L20 20000 n qi1 qi2 qi3 qi4 qi5 qi6 M) (tO (vs (rp L xs P M vu) (rp L xs P M vi))) := by
  induction n with
  | zero =>
    intros
    exact qs_none
  | succ n ih =>
    intro P S M i1 qi1 i2 qi2 i3 qi3 i4 qi4 i5 qi5 i6 qi6 hS hM ei1 ei2 ei3 ei4 ei5 ei6
    unfold qf_X13_tell_L20
    refine qs_loop (C := (qc_X13_tell_L20 L xs P M (zf_X13_tell_L20 20000 n))) (qz_X13_tell_L20_b n hS hM ei1 ei2 ei3 ei4 ei5 ei6) ?_
    rintro x s ⟨_, _, _, _, _, _, _, rfl, u0, u1, u2, u3, u4, u5, hS2, hM2⟩
    exact ih hS2 hM2 u0 u1 u2 u3 u4 u5
set_option maxRecDepth 20000 in
theorem qz_X13_tell_L47_b (n : Nat) {P : Nat → Nat} {S : zm_S} {M : qm} {i1 : Int32} {qi1 : Int} {i2 : Int32} {qi2 : Int} {i3 : Int32} {qi3 : Int} {i4 : Int32} {qi4 : Int} {i5 : Int32} {qi5 : Int} {i6 : Int32} {qi6 : Int} (hS : Sh L xs P S) (hM : qM P S = M) (ei1 : i1.toInt = qi1) (ei2 : i2.toInt = qi2) (ei3 : i3.toInt = qi3) (ei4 : i4.toInt = qi4) (ei5 : i5.toInt = qi5) (ei6 : i6.toInt = qi6) : qs (zf_X13_tell_L47 20000 (n + 1) 2270 i1 i2 i3 i4 i5 i6 S) (qf_X13_tell_L47_b 20000 qi1 qi2 qi3 qi4 qi5 qi6 M) (tk (vs (rr L xs P vu) (rr L xs P vu)) (qc_X13_tell_L47 L xs P (zf_X13_tell_L47 20000 n))) := by
  refine qs_eq (zf_X13_tell_L47.eq_2 ..) ?_
  unfold qf_X13_tell_L47_b
  refine qs_ite (c_le ei5 ei6) ?_ ?_
  · exact qs_tr2 (show vu _ _ from trivial) hS hM
  · refine qs_gr hS pl_2270 ts_2270 rfl ?_
    refine qs_gd (fun g8624 => ?_)
    refine qs_xi hM (pa_p hS pl_2284 ts_2284) (p_add (p_mul k_6 (p_add (p_mul k_64 ei1) ei2)) ei6) g8624 (fun v8623 h8623 => ?_)
    refine qs_gr hS pl_2270 ts_2270 rfl ?_
    refine qs_gd (fun g8627 => ?_)
    refine qs_si hS hM (pa_p hS pl_2285 ts_2285) h8623 g8627 ei1 (fun S8626 M8626 hS8626 hM8626 => ?_)
    refine qs_gr hS8626 pl_2270 ts_2270 rfl ?_
    refine qs_gd (fun g8630 => ?_)
    refine qs_si hS8626 hM8626 (pa_p hS8626 pl_2288 ts_2288) h8623 g8630 ei6 (fun S8629 M8629 hS8629 hM8629 => ?_)
    refine qs_gr hS8629 pl_2270 ts_2270 rfl ?_
    refine qs_gr hS8629 pl_2270 ts_2270 rfl ?_
    refine qs_gd (fun g8634 => ?_)
    refine qs_xi hM8629 (pa_p hS8629 pl_2276 ts_2276) h8623 g8634 (fun v8633 h8633 => ?_)
    refine qs_zi hS8629 pl_2270 ts_2270 ?_
    refine qs_bp (qz_X13_way hS8629 hM8629 ei1 ei4 h8633) (fun v8636 S8636 w8636 h8636 hS8636 hM8636 => ?_)
    refine qs_gd (fun g8638 => ?_)
    refine qs_si hS8636 hM8636 (pa_p hS8636 pl_2286 ts_2286) h8623 g8638 (p_add ei3 h8636) (fun S8637 M8637 hS8637 hM8637 => ?_)
    refine qs_gr hS8637 pl_2270 ts_2270 rfl ?_
    refine qs_gr hS8637 pl_2270 ts_2270 rfl ?_
    refine qs_gd (fun g8642 => ?_)
    refine qs_xi hM8637 (pa_p hS8637 pl_2286 ts_2286) h8623 g8642 (fun v8641 h8641 => ?_)
    refine qs_gr hS8637 pl_2270 ts_2270 rfl ?_
    refine qs_gd (fun g8645 => ?_)
    refine qs_xi hM8637 (pa_p hS8637 pl_2276 ts_2276) h8623 g8645 (fun v8644 h8644 => ?_)
    refine qs_gr hS8637 pl_2270 ts_2270 rfl ?_
    refine qs_gd (fun g8648 => ?_)
    refine qs_xi hM8637 (pa_p hS8637 pl_2277 ts_2277) h8623 g8648 (fun v8647 h8647 => ?_)
    refine qs_zi hS8637 pl_2270 ts_2270 ?_
    refine qs_bp (qz_X13_way hS8637 hM8637 ei1 h8644 h8647) (fun v8650 S8650 w8650 h8650 hS8650 hM8650 => ?_)
    refine qs_gd (fun g8652 => ?_)
    refine qs_si hS8650 hM8650 (pa_p hS8650 pl_2287 ts_2287) h8623 g8652 (p_add (p_add h8641 k_3) h8650) (fun S8651 M8651 hS8651 hM8651 => ?_)
    refine qs_gr hS8651 pl_2270 ts_2270 rfl ?_
    refine qs_gd (fun g8655 => ?_)
    refine qs_xi hM8651 (pa_p hS8651 pl_2287 ts_2287) h8623 g8655 (fun v8654 h8654 => ?_)
    refine qs_gr hS8651 pl_2270 ts_2270 rfl ?_
    refine qs_gd (fun g8658 => ?_)
    refine qs_xi hM8651 (pa_p hS8651 pl_2277 ts_2277) h8623 g8658 (fun v8657 h8657 => ?_)
    exact qs_tk ⟨_, _, _, _, _, _, _, rfl, ei1, ei2, (p_add h8654 k_3), h8657, ei5, (p_add ei6 k_1), hS8651, hM8651⟩
theorem qz_X13_tell_L47 (n : Nat) : ∀ {P : Nat → Nat} {S : zm_S} {M : qm} {i1 : Int32} {qi1 : Int} {i2 : Int32} {qi2 : Int} {i3 : Int32} {qi3 : Int} {i4 : Int32} {qi4 : Int} {i5 : Int32} {qi5 : Int} {i6 : Int32} {qi6 : Int} (hS : Sh L xs P S) (hM : qM P S = M) (ei1 : i1.toInt = qi1) (ei2 : i2.toInt = qi2) (ei3 : i3.toInt = qi3) (ei4 : i4.toInt = qi4) (ei5 : i5.toInt = qi5) (ei6 : i6.toInt = qi6), qs (zf_X13_tell_L47 20000 n 2270 i1 i2 i3 i4 i5 i6 S) (qf_X13_tell_L47 20000 n qi1 qi2 qi3 qi4 qi5 qi6 M) (tO (vs (rr L xs P vu) (rr L xs P vu))) := by
  induction n with
  | zero =>
    intros
    exact qs_none
  | succ n ih =>
    intro P S M i1 qi1 i2 qi2 i3 qi3 i4 qi4 i5 qi5 i6 qi6 hS hM ei1 ei2 ei3 ei4 ei5 ei6
    unfold qf_X13_tell_L47
    refine qs_loop (C := (qc_X13_tell_L47 L xs P (zf_X13_tell_L47 20000 n))) (qz_X13_tell_L47_b n hS hM ei1 ei2 ei3 ei4 ei5 ei6) ?_
    rintro x s ⟨_, _, _, _, _, _, _, rfl, u0, u1, u2, u3, u4, u5, hS2, hM2⟩
    exact ih hS2 hM2 u0 u1 u2 u3 u4 u5
set_option maxRecDepth 20000 in
theorem qz_X13_tell {P : Nat → Nat} {S : zm_S} {M : qm} {i1 : Int32} {qi1 : Int} {i2 : Int32} {qi2 : Int} (hS : Sh L xs P S) (hM : qM P S = M) (ei1 : i1.toInt = qi1) (ei2 : i2.toInt = qi2) : qs (zf_X13_tell 20000 2270 i1 i2 S) (qf_X13_tell 20000 qi1 qi2 M) (tO (rr L xs P vu)) := by
  unfold zf_X13_tell qf_X13_tell
  refine qs_zi hS pl_2270 ts_2270 ?_
  refine qs_bp (qz_X13_begins hS hM ei1) (fun v8660 S8660 w8660 h8660 hS8660 hM8660 => ?_)
  refine qs_gr hS8660 pl_2270 ts_2270 rfl ?_
  refine qs_gd (fun g8663 => ?_)
  refine qs_xi hM8660 (pa_p hS8660 pl_2272 ts_2272) ei1 g8663 (fun v8662 h8662 => ?_)
  refine qs_lp (qz_X13_tell_L20 20000 hS8660 hM8660 ei1 ei2 h8660 h8662 k_0 k_0) ?_ ?_
  · intro v8665 S8665 w8665 h8665 hS8665 hM8665
    dsimp only
    exact qs_tr h8665 hS8665 hM8665
  · intro v8665 S8665 w8665 h8665 hS8665 hM8665
    dsimp only
    refine qs_lr (qz_X13_tell_L47 20000 hS8665 hM8665 ei1 ei2 h8660 h8662 h8665 k_0) ?_ ?_
    · intro v8667 S8667 w8667 M8667 h8667 hS8667 hM8667
      dsimp only
      exact qs_tr h8667 hS8667 hM8667
    · intro v8667 S8667 w8667 M8667 h8667 hS8667 hM8667
      dsimp only
      exact qs_tr (show vu _ _ from trivial) hS8667 hM8667
set_option maxRecDepth 20000 in
theorem qz_X13_give_L158_b (n : Nat) {P : Nat → Nat} {S : zm_S} {M : qm} {j2 : Int64} {qj2 : Int} {i4 : Int32} {qi4 : Int} {i5 : Int32} {qi5 : Int} (hS : Sh L xs P S) (hM : qM P S = M) (ej2 : j2.toInt = qj2) (ei4 : i4.toInt = qi4) (ei5 : i5.toInt = qi5) : qs (zf_X13_give_L158 20000 (n + 1) 2270 j2 i4 i5 S) (qf_X13_give_L158_b 20000 qj2 qi4 qi5 M) (tk (vs (rr L xs P vl) (rr L xs P vu)) (qc_X13_give_L158 L xs P (zf_X13_give_L158 20000 n))) := by
  refine qs_eq (zf_X13_give_L158.eq_2 ..) ?_
  unfold qf_X13_give_L158_b
  refine qs_gi hS hM pl_2270 ts_2270 (z := 0) rfl rfl (fun v8668 h8668 => ?_)
  refine qs_ite (c_le h8668 ei5) ?_ ?_
  · exact qs_tr2 (show vu _ _ from trivial) hS hM
  · refine qs_zi hS pl_2270 ts_2270 ?_
    refine qs_bp (qz_X13_bitsOf hS hM ei4 ei5) (fun v8670 S8670 w8670 h8670 hS8670 hM8670 => ?_)
    refine qs_zi hS8670 pl_2270 ts_2270 ?_
    refine qs_b (qz_X13_tell hS8670 hM8670 ei5 h8670) (fun v8672 S8672 w8672 M8672 h8672 hS8672 hM8672 => ?_)
    exact qs_tk ⟨_, _, _, _, rfl, ej2, ei4, (p_add ei5 k_1), hS8672, hM8672⟩
theorem qz_X13_give_L158 (n : Nat) : ∀ {P : Nat → Nat} {S : zm_S} {M : qm} {j2 : Int64} {qj2 : Int} {i4 : Int32} {qi4 : Int} {i5 : Int32} {qi5 : Int} (hS : Sh L xs P S) (hM : qM P S = M) (ej2 : j2.toInt = qj2) (ei4 : i4.toInt = qi4) (ei5 : i5.toInt = qi5), qs (zf_X13_give_L158 20000 n 2270 j2 i4 i5 S) (qf_X13_give_L158 20000 n qj2 qi4 qi5 M) (tO (vs (rr L xs P vl) (rr L xs P vu))) := by
  induction n with
  | zero =>
    intros
    exact qs_none
  | succ n ih =>
    intro P S M j2 qj2 i4 qi4 i5 qi5 hS hM ej2 ei4 ei5
    unfold qf_X13_give_L158
    refine qs_loop (C := (qc_X13_give_L158 L xs P (zf_X13_give_L158 20000 n))) (qz_X13_give_L158_b n hS hM ej2 ei4 ei5) ?_
    rintro x s ⟨_, _, _, _, rfl, u0, u1, u2, hS2, hM2⟩
    exact ih hS2 hM2 u0 u1 u2
set_option maxRecDepth 20000 in
theorem qz_X13_give {P : Nat → Nat} {S : zm_S} {M : qm}  (hS : Sh L xs P S) (hM : qM P S = M)  : qs (zf_X13_give 20000 2270 S) (qf_X13_give 20000 M) (tO (rr L xs P vl)) := by
  unfold zf_X13_give qf_X13_give
  refine qs_zi hS pl_2270 ts_2270 ?_
  refine qs_b (qz_X13_choose hS hM ) (fun v8674 S8674 w8674 M8674 h8674 hS8674 hM8674 => ?_)
  refine qs_lp (qz_X13_give_L8 20000 hS8674 hM8674 k_1 k_0) ?_ ?_
  · intro v8676 S8676 w8676 h8676 hS8676 hM8676
    dsimp only
    exact qs_tr h8676 hS8676 hM8676
  · intro v8676 S8676 w8676 h8676 hS8676 hM8676
    dsimp only
    refine qs_lr (qz_X13_give_L31 20000 hS8676 hM8676 h8676 k_0) ?_ ?_
    · intro v8678 S8678 w8678 M8678 h8678 hS8678 hM8678
      dsimp only
      exact qs_tr h8678 hS8678 hM8678
    · intro v8678 S8678 w8678 M8678 h8678 hS8678 hM8678
      dsimp only
      refine qs_lp (qz_X13_give_L79 20000 hS8678 hM8678 h8676 kl_1152921504606846976 k_0 k_0) ?_ ?_
      · intro v8680 S8680 w8680 h8680 hS8680 hM8680
        dsimp only
        exact qs_tr h8680 hS8680 hM8680
      · intro v8680 S8680 w8680 h8680 hS8680 hM8680
        dsimp only
        refine qs_lr (qz_X13_give_L132 20000 hS8680 hM8680 h8680.1 h8680.2 k_0) ?_ ?_
        · intro v8682 S8682 w8682 M8682 h8682 hS8682 hM8682
          dsimp only
          exact qs_tr h8682 hS8682 hM8682
        · intro v8682 S8682 w8682 M8682 h8682 hS8682 hM8682
          dsimp only
          refine qs_lr (qz_X13_give_L158 20000 hS8682 hM8682 h8680.1 h8680.2 k_0) ?_ ?_
          · intro v8684 S8684 w8684 M8684 h8684 hS8684 hM8684
            dsimp only
            exact qs_tr h8684 hS8684 hM8684
          · intro v8684 S8684 w8684 M8684 h8684 hS8684 hM8684
            dsimp only
            exact qs_tr (show vl _ _ from h8680.1) hS8684 hM8684
set_option maxRecDepth 20000 in
theorem qz_X18_give_J33 {P : Nat → Nat} {S : zm_S} {M : qm} {t1 : Int32} {qt1 : Int} (hS : Sh L xs P S) (hM : qM P S = M) (et1 : t1.toInt = qt1) : qs (zf_X18_give_J33 20000 2156 2270 t1 S) (qf_X18_give_J33 20000 qt1 M) (tO (rr L xs P vl)) := by
  unfold zf_X18_give_J33 qf_X18_give_J33
  refine qs_gd (fun g8686 => ?_)
  refine qs_pz hS hM pl_2270 ts_2270 (z := 13) rfl rfl et1 g8686 (fun S8685 M8685 hS8685 hM8685 => ?_)
  refine qs_gr hS8685 pl_2156 ts_2156 rfl ?_
  refine qs_zi hS8685 pl_2270 ts_2270 ?_
  refine qs_b (qz_X13_give hS8685 hM8685 ) (fun v8689 S8689 w8689 M8689 h8689 hS8689 hM8689 => ?_)
  exact qs_tr (show vl _ _ from h8689) hS8689 hM8689
set_option maxRecDepth 20000 in
theorem qz_X18_give {P : Nat → Nat} {S : zm_S} {M : qm}  (hS : Sh L xs P S) (hM : qM P S = M)  : qs (zf_X18_give 20000 2156 S) (qf_X18_give 20000 M) (tO (rr L xs P vl)) := by
  unfold zf_X18_give qf_X18_give
  refine qs_gi hS hM pl_2156 ts_2156 (z := 1) rfl rfl (fun v8690 h8690 => ?_)
  refine qs_zi hS pl_2156 ts_2156 ?_
  refine qs_b (qz_X18_stays hS hM h8690) (fun v8692 S8692 w8692 M8692 h8692 hS8692 hM8692 => ?_)
  refine qs_ite (c_eq h8692 k_0) ?_ ?_
  · exact qs_tr (show vl _ _ from kl_0) hS8692 hM8692
  · refine qs_gr hS8692 pl_2156 ts_2156 rfl ?_
    refine qs_gr hS8692 pl_2156 ts_2156 rfl ?_
    refine qs_zi hS8692 pl_2208 ts_2208 ?_
    refine qs_bp (qz_X14_done hS8692 hM8692 k_1) (fun v8696 S8696 w8696 h8696 hS8696 hM8696 => ?_)
    refine qs_ite (c_le h8696 k_0) ?_ ?_
    · exact (qz_X18_give_J33 hS8696 hM8696 k_0)
    · exact (qz_X18_give_J33 hS8696 hM8696 k_1)
set_option maxRecDepth 20000 in
theorem qz_X11_given_J31 {P : Nat → Nat} {S : zm_S} {M : qm} {i1 : Int32} {qi1 : Int} {i2 : Int32} {qi2 : Int} {t0 : Int32} {qt0 : Int} (hS : Sh L xs P S) (hM : qM P S = M) (ei1 : i1.toInt = qi1) (ei2 : i2.toInt = qi2) (et0 : t0.toInt = qt0) : qs (zf_X11_given_J31 20000 6 i1 i2 t0 S) (qf_X11_given_J31 20000 qi1 qi2 qt0 M) (tO (rp L xs P M (vs vi ve))) := by
  unfold zf_X11_given_J31 qf_X11_given_J31
  refine qs_xp (qz_X11_needArgument hS hM et0) ?_ ?_
  · intro v8698 S8698 w8698 h8698 hS8698 hM8698
    dsimp only
    refine qs_gi hS8698 hM8698 pl_6 ts_6 (z := 11) rfl rfl (fun v8699 h8699 => ?_)
    refine qs_xp (qz_X11_needState hS8698 hM8698 h8699) ?_ ?_
    · intro v8701 S8701 w8701 h8701 hS8701 hM8701
      dsimp only
      refine qs_gr hS8701 pl_6 ts_6 rfl ?_
      refine qs_gr hS8701 pl_1337 ts_1337 rfl ?_
      refine qs_gd (fun g8705 => ?_)
      refine qs_xt hS8701 pl_1745 ts_1745 (Or.inl rfl) ei1 g8705 (fun b8704 r8704 => ?_)
      refine qs_gd (fun g8707 => ?_)
      refine qs_yi hS8701 hM8701 qt_1745 tq_1745 r8704 ei2 g8707 (fun v8706 h8706 => ?_)
      exact qs_tp (show (vs vi ve) _ _ from h8706) hS8701 hM8701
    · intro v8701 S8701 hS8701 hM8701
      dsimp only
      exact qs_tp (show (vs vi ve) _ _ from rfl) hS8701 hM8701
  · intro v8698 S8698 hS8698 hM8698
    dsimp only
    exact qs_tp (show (vs vi ve) _ _ from rfl) hS8698 hM8698
set_option maxRecDepth 20000 in
theorem qz_X11_given_J30 {P : Nat → Nat} {S : zm_S} {M : qm} {i1 : Int32} {qi1 : Int} {i2 : Int32} {qi2 : Int} (hS : Sh L xs P S) (hM : qM P S = M) (ei1 : i1.toInt = qi1) (ei2 : i2.toInt = qi2) : qs (zf_X11_given_J30 20000 6 i1 i2 S) (qf_X11_given_J30 20000 qi1 qi2 M) (tO (rp L xs P M (vs vi ve))) := by
  unfold zf_X11_given_J30 qf_X11_given_J30
  exact (qz_X11_given_J31 hS hM ei1 ei2 k_0)
set_option maxRecDepth 20000 in
theorem qz_X11_given {P : Nat → Nat} {S : zm_S} {M : qm} {i1 : Int32} {qi1 : Int} {i2 : Int32} {qi2 : Int} (hS : Sh L xs P S) (hM : qM P S = M) (ei1 : i1.toInt = qi1) (ei2 : i2.toInt = qi2) : qs (zf_X11_given 20000 6 i1 i2 S) (qf_X11_given 20000 qi1 qi2 M) (tO (rp L xs P M (vs vi ve))) := by
  unfold zf_X11_given qf_X11_given
  refine qs_gr hS pl_6 ts_6 rfl ?_
  refine qs_gi hS hM pl_1337 ts_1337 (z := 2) rfl rfl (fun v8709 h8709 => ?_)
  refine qs_bp (qz_X11_isWithin hS hM ei1 k_0 (p_sub h8709 k_1)) (fun v8710 S8710 w8710 h8710 hS8710 hM8710 => ?_)
  refine qs_ite (c_eq h8710 k_0) ?_ ?_
  · exact (qz_X11_given_J30 hS8710 hM8710 ei1 ei2)
  · refine qs_bp (qz_X11_isWithin hS8710 hM8710 ei2 k_0 k_3) (fun v8711 S8711 w8711 h8711 hS8711 hM8711 => ?_)
    refine qs_ite (c_eq h8711 k_0) ?_ ?_
    · exact (qz_X11_given_J30 hS8711 hM8711 ei1 ei2)
    · exact (qz_X11_given_J31 hS8711 hM8711 ei1 ei2 k_1)
set_option maxRecDepth 20000 in
theorem qz_L_given {P : Nat → Nat} {S : zm_S} {M : qm} {i1 : Int32} {qi1 : Int} {i2 : Int32} {qi2 : Int} (hS : Sh L xs P S) (hM : qM P S = M) (ei1 : i1.toInt = qi1) (ei2 : i2.toInt = qi2) : qs (zf_L_given 20000 6 i1 i2 2332 S) (qf_L_given 20000 qi1 qi2 M) (tO (rr L xs P vi)) := by
  unfold zf_L_given qf_L_given
  refine qs_zi hS pl_6 ts_6 ?_
  refine qs_xp (qz_X11_given hS hM ei1 ei2) ?_ ?_
  · intro v8714 S8714 w8714 h8714 hS8714 hM8714
    dsimp only
    refine qs_sl hS8714 hM8714 (pa_p hS8714 pl_2332 ts_2332) k_0 (by decide) (p_64 h8714) (fun S8715 M8715 hS8715 hM8715 => ?_)
    exact qs_tr (show vi _ _ from k_0) hS8715 hM8715
  · intro v8714 S8714 hS8714 hM8714
    dsimp only
    refine qs_ite Iff.rfl ?_ ?_
    · exact qs_tr (show vi _ _ from k_1) hS8714 hM8714
    · refine qs_ite Iff.rfl ?_ ?_
      · exact qs_tr (show vi _ _ from k_2) hS8714 hM8714
      · exact qs_none
set_option maxRecDepth 20000 in
theorem qz_X13_given {P : Nat → Nat} {S : zm_S} {M : qm} {i1 : Int32} {qi1 : Int} {i2 : Int32} {qi2 : Int} (hS : Sh L xs P S) (hM : qM P S = M) (ei1 : i1.toInt = qi1) (ei2 : i2.toInt = qi2) : qs (zf_X13_given 20000 2270 i1 i2 S) (qf_X13_given 20000 qi1 qi2 M) (tO (rp L xs P M vi)) := by
  unfold zf_X13_given qf_X13_given
  refine qs_gr hS pl_2270 ts_2270 rfl ?_
  refine qs_gd (fun g8718 => ?_)
  refine qs_xi hM (pa_p hS pl_2285 ts_2285) ei1 g8718 (fun v8717 h8717 => ?_)
  refine qs_ite (c_le k_0 h8717) ?_ ?_
  · refine qs_ite (c_eq ei2 k_0) ?_ ?_
    · refine qs_gr hS pl_2270 ts_2270 rfl ?_
      refine qs_gd (fun g8721 => ?_)
      refine qs_xi hM (pa_p hS pl_2285 ts_2285) ei1 g8721 (fun v8720 h8720 => ?_)
      exact qs_tp (show vi _ _ from h8720) hS hM
    · refine qs_ite (c_eq ei2 k_1) ?_ ?_
      · refine qs_gr hS pl_2270 ts_2270 rfl ?_
        refine qs_gd (fun g8724 => ?_)
        refine qs_xi hM (pa_p hS pl_2286 ts_2286) ei1 g8724 (fun v8723 h8723 => ?_)
        exact qs_tp (show vi _ _ from h8723) hS hM
      · refine qs_ite (c_eq ei2 k_2) ?_ ?_
        · refine qs_gr hS pl_2270 ts_2270 rfl ?_
          refine qs_gd (fun g8727 => ?_)
          refine qs_xi hM (pa_p hS pl_2287 ts_2287) ei1 g8727 (fun v8726 h8726 => ?_)
          exact qs_tp (show vi _ _ from h8726) hS hM
        · refine qs_gr hS pl_2270 ts_2270 rfl ?_
          refine qs_gd (fun g8730 => ?_)
          refine qs_xi hM (pa_p hS pl_2288 ts_2288) ei1 g8730 (fun v8729 h8729 => ?_)
          exact qs_tp (show vi _ _ from h8729) hS hM
  · exact qs_tp (show vi _ _ from k_m1) hS hM
set_option maxRecDepth 20000 in
theorem qz_X18_given_J28 {P : Nat → Nat} {S : zm_S} {M : qm} {i1 : Int32} {qi1 : Int} {i2 : Int32} {qi2 : Int} {t1 : Int32} {qt1 : Int} (hS : Sh L xs P S) (hM : qM P S = M) (ei1 : i1.toInt = qi1) (ei2 : i2.toInt = qi2) (et1 : t1.toInt = qt1) : qs (zf_X18_given_J28 20000 2156 i1 i2 2156 t1 S) (qf_X18_given_J28 20000 qi1 qi2 qt1 M) (tO (rr L xs P vi)) := by
  unfold zf_X18_given_J28 qf_X18_given_J28
  refine qs_gi hS hM pl_2156 ts_2156 (z := 1) rfl rfl (fun v8731 h8731 => ?_)
  refine qs_zi hS pl_2156 ts_2156 ?_
  refine qs_b (qz_X18_goes hS hM et1 h8731) (fun v8733 S8733 w8733 M8733 h8733 hS8733 hM8733 => ?_)
  refine qs_ite (c_eq h8733 k_0) ?_ ?_
  · exact qs_tr (show vi _ _ from k_0) hS8733 hM8733
  · refine qs_gr hS8733 pl_2156 ts_2156 rfl ?_
    refine qs_zi hS8733 pl_2270 ts_2270 ?_
    refine qs_bp (qz_X13_given hS8733 hM8733 ei1 ei2) (fun v8736 S8736 w8736 h8736 hS8736 hM8736 => ?_)
    exact qs_tr (show vi _ _ from h8736) hS8736 hM8736
set_option maxRecDepth 20000 in
theorem qz_X18_given_J27 {P : Nat → Nat} {S : zm_S} {M : qm} {i1 : Int32} {qi1 : Int} {i2 : Int32} {qi2 : Int} (hS : Sh L xs P S) (hM : qM P S = M) (ei1 : i1.toInt = qi1) (ei2 : i2.toInt = qi2) : qs (zf_X18_given_J27 20000 2156 i1 i2 2156 S) (qf_X18_given_J27 20000 qi1 qi2 M) (tO (rr L xs P vi)) := by
  unfold zf_X18_given_J27 qf_X18_given_J27
  exact (qz_X18_given_J28 hS hM ei1 ei2 k_0)
set_option maxRecDepth 20000 in
theorem qz_X18_given {P : Nat → Nat} {S : zm_S} {M : qm} {i1 : Int32} {qi1 : Int} {i2 : Int32} {qi2 : Int} (hS : Sh L xs P S) (hM : qM P S = M) (ei1 : i1.toInt = qi1) (ei2 : i2.toInt = qi2) : qs (zf_X18_given 20000 2156 i1 i2 S) (qf_X18_given 20000 qi1 qi2 M) (tO (rr L xs P vi)) := by
  unfold zf_X18_given qf_X18_given
  refine qs_gr hS pl_2156 ts_2156 rfl ?_
  refine qs_gi hS hM pl_2270 ts_2270 (z := 6) rfl rfl (fun v8738 h8738 => ?_)
  refine qs_bp (qz_X18_isIn hS hM ei1 h8738) (fun v8739 S8739 w8739 h8739 hS8739 hM8739 => ?_)
  refine qs_ite (c_eq h8739 k_0) ?_ ?_
  · exact (qz_X18_given_J27 hS8739 hM8739 ei1 ei2)
  · refine qs_bp (qz_X18_isIn hS8739 hM8739 ei2 k_4) (fun v8740 S8740 w8740 h8740 hS8740 hM8740 => ?_)
    refine qs_ite (c_eq h8740 k_0) ?_ ?_
    · exact (qz_X18_given_J27 hS8740 hM8740 ei1 ei2)
    · exact (qz_X18_given_J28 hS8740 hM8740 ei1 ei2 k_1)
set_option maxRecDepth 20000 in
theorem qz_X10_addSmoke {P : Nat → Nat} {S : zm_S} {M : qm} {i1 : Int32} {qi1 : Int} (hS : Sh L xs P S) (hM : qM P S = M) (ei1 : i1.toInt = qi1) : qs (zf_X10_addSmoke 20000 756 i1 S) (qf_X10_addSmoke 20000 qi1 M) (tO (rr L xs P vi)) := by
  unfold zf_X10_addSmoke qf_X10_addSmoke
  refine qs_gr hS pl_756 ts_756 rfl ?_
  refine qs_gd (fun g8743 => ?_)
  refine qs_xi hM (pa_p hS pl_757 ts_757) ei1 g8743 (fun v8742 h8742 => ?_)
  refine qs_ite (c_eq h8742 k_0) ?_ ?_
  · refine qs_gr hS pl_756 ts_756 rfl ?_
    refine qs_gd (fun g8746 => ?_)
    refine qs_sz hS hM (pa_p hS pl_757 ts_757) ei1 g8746 k_1 (by decide) (fun S8745 M8745 hS8745 hM8745 => ?_)
    refine qs_gi hS8745 hM8745 pl_756 ts_756 (z := 4) rfl rfl (fun v8747 h8747 => ?_)
    refine qs_pi hS8745 hM8745 pl_756 ts_756 (z := 4) rfl rfl (p_add h8747 k_1) (fun S8748 M8748 hS8748 hM8748 => ?_)
    refine qs_gr hS8748 pl_756 ts_756 rfl ?_
    refine qs_gr hS8748 pl_51 ts_51 rfl ?_
    refine qs_gd (fun g8752 => ?_)
    refine qs_xi hM8748 (pa_s hS8748 (d := 56) rfl (by decide) (by decide) sf_56) ei1 g8752 (fun v8751 h8751 => ?_)
    refine qs_ite (c_lt h8751 k_0) ?_ ?_
    · exact qs_tr (show vi _ _ from k_1) hS8748 hM8748
    · refine qs_ite (c_le k_40 h8751) ?_ ?_
      · exact qs_tr (show vi _ _ from k_1) hS8748 hM8748
      · refine qs_gr hS8748 pl_756 ts_756 rfl ?_
        refine qs_gd (fun g8755 => ?_)
        refine qs_xi hM8748 (pa_p hS8748 pl_758 ts_758) h8751 g8755 (fun v8754 h8754 => ?_)
        refine qs_gd (fun g8757 => ?_)
        refine qs_si hS8748 hM8748 (pa_p hS8748 pl_758 ts_758) h8751 g8757 (p_add h8754 k_1) (fun S8756 M8756 hS8756 hM8756 => ?_)
        exact qs_tr (show vi _ _ from k_1) hS8756 hM8756
  · exact qs_tr (show vi _ _ from k_0) hS hM
set_option maxRecDepth 20000 in
theorem qz_X11_fire {P : Nat → Nat} {S : zm_S} {M : qm} {i1 : Int32} {qi1 : Int} {i2 : Int32} {qi2 : Int} (hS : Sh L xs P S) (hM : qM P S = M) (ei1 : i1.toInt = qi1) (ei2 : i2.toInt = qi2) : qs (zf_X11_fire 20000 6 i1 i2 S) (qf_X11_fire 20000 qi1 qi2 M) (tO (rr L xs P (vs vi ve))) := by
  unfold zf_X11_fire qf_X11_fire
  refine qs_bp (qz_X11_isCell hS hM ei1 ei2) (fun v8758 S8758 w8758 h8758 hS8758 hM8758 => ?_)
  refine qs_xp (qz_X11_needArgument hS8758 hM8758 h8758) ?_ ?_
  · intro v8760 S8760 w8760 h8760 hS8760 hM8760
    dsimp only
    refine qs_gi hS8760 hM8760 pl_6 ts_6 (z := 11) rfl rfl (fun v8761 h8761 => ?_)
    refine qs_xp (qz_X11_needState hS8760 hM8760 h8761) ?_ ?_
    · intro v8763 S8763 w8763 h8763 hS8763 hM8763
      dsimp only
      refine qs_gr hS8763 pl_6 ts_6 rfl ?_
      refine qs_bp (qz_X2_cellNumber hS8763 hM8763 ei1 ei2) (fun v8765 S8765 w8765 h8765 hS8765 hM8765 => ?_)
      refine qs_zi hS8765 pl_756 ts_756 ?_
      refine qs_b (qz_X10_addSmoke hS8765 hM8765 h8765) (fun v8767 S8767 w8767 M8767 h8767 hS8767 hM8767 => ?_)
      refine qs_ite (or_congr (c_eq h8767 k_0) (c_eq h8767 k_1)) ?_ ?_
      · exact qs_tr (show (vs vi ve) _ _ from h8767) hS8767 hM8767
      · exact qs_none
    · intro v8763 S8763 hS8763 hM8763
      dsimp only
      exact qs_tr (show (vs vi ve) _ _ from rfl) hS8763 hM8763
  · intro v8760 S8760 hS8760 hM8760
    dsimp only
    exact qs_tr (show (vs vi ve) _ _ from rfl) hS8760 hM8760
set_option maxRecDepth 20000 in
theorem qz_L_fire_J16 {P : Nat → Nat} {S : zm_S} {M : qm} {t1 : Int32} {qt1 : Int} {t2 : Int64} {qt2 : Int} (hS : Sh L xs P S) (hM : qM P S = M) (et1 : t1.toInt = qt1) (et2 : t2.toInt = qt2) : qs (zf_L_fire_J16 20000 2332 t1 t2 S) (qf_L_fire_J16 20000 qt1 qt2 M) (tO (rr L xs P vi)) := by
  unfold zf_L_fire_J16 qf_L_fire_J16
  refine qs_gd (fun g8769 => ?_)
  refine qs_sl hS hM (pa_p hS pl_2332 ts_2332) et1 g8769 et2 (fun S8768 M8768 hS8768 hM8768 => ?_)
  exact qs_tr (show vi _ _ from k_0) hS8768 hM8768
set_option maxRecDepth 20000 in
theorem qz_L_fire {P : Nat → Nat} {S : zm_S} {M : qm} {i1 : Int32} {qi1 : Int} {i2 : Int32} {qi2 : Int} (hS : Sh L xs P S) (hM : qM P S = M) (ei1 : i1.toInt = qi1) (ei2 : i2.toInt = qi2) : qs (zf_L_fire 20000 6 i1 i2 2332 S) (qf_L_fire 20000 qi1 qi2 M) (tO (rr L xs P vi)) := by
  unfold zf_L_fire qf_L_fire
  refine qs_zi hS pl_6 ts_6 ?_
  refine qs_xr (qz_X11_fire hS hM ei1 ei2) ?_ ?_
  · intro v8772 S8772 w8772 M8772 h8772 hS8772 hM8772
    dsimp only
    refine qs_ite (c_eq h8772 k_0) ?_ ?_
    · exact (qz_L_fire_J16 hS8772 hM8772 k_0 kl_0)
    · exact (qz_L_fire_J16 hS8772 hM8772 k_0 kl_1)
  · intro v8772 S8772 M8772 hS8772 hM8772
    dsimp only
    refine qs_ite Iff.rfl ?_ ?_
    · exact qs_tr (show vi _ _ from k_1) hS8772 hM8772
    · refine qs_ite Iff.rfl ?_ ?_
      · exact qs_tr (show vi _ _ from k_2) hS8772 hM8772
      · exact qs_none
set_option maxRecDepth 20000 in
theorem qz_X18_fire_J37 {P : Nat → Nat} {S : zm_S} {M : qm} {i1 : Int32} {qi1 : Int} {i2 : Int32} {qi2 : Int} {t0 : Int32} {qt0 : Int} (hS : Sh L xs P S) (hM : qM P S = M) (ei1 : i1.toInt = qi1) (ei2 : i2.toInt = qi2) (et0 : t0.toInt = qt0) : qs (zf_X18_fire_J37 20000 2156 i1 i2 t0 S) (qf_X18_fire_J37 20000 qi1 qi2 qt0 M) (tO (rr L xs P vi)) := by
  unfold zf_X18_fire_J37 qf_X18_fire_J37
  refine qs_gr hS pl_2156 ts_2156 rfl ?_
  refine qs_gd (fun g8775 => ?_)
  refine qs_sz hS hM (pa_p hS pl_2326 ts_2326) (p_add (p_mul k_24 ei2) ei1) g8775 k_1 (by decide) (fun S8774 M8774 hS8774 hM8774 => ?_)
  refine qs_ite (or_congr (c_eq et0 k_0) (c_eq et0 k_1)) ?_ ?_
  · exact qs_tr (show vi _ _ from et0) hS8774 hM8774
  · exact qs_none
set_option maxRecDepth 20000 in
theorem qz_X18_fire {P : Nat → Nat} {S : zm_S} {M : qm} {i1 : Int32} {qi1 : Int} {i2 : Int32} {qi2 : Int} (hS : Sh L xs P S) (hM : qM P S = M) (ei1 : i1.toInt = qi1) (ei2 : i2.toInt = qi2) : qs (zf_X18_fire 20000 2156 i1 i2 S) (qf_X18_fire 20000 qi1 qi2 M) (tO (rr L xs P vi)) := by
  unfold zf_X18_fire qf_X18_fire
  refine qs_bp (qz_X18_isCell hS hM ei1 ei2) (fun v8776 S8776 w8776 h8776 hS8776 hM8776 => ?_)
  refine qs_gi hS8776 hM8776 pl_2156 ts_2156 (z := 1) rfl rfl (fun v8777 h8777 => ?_)
  refine qs_zi hS8776 pl_2156 ts_2156 ?_
  refine qs_b (qz_X18_goes hS8776 hM8776 h8776 h8777) (fun v8779 S8779 w8779 M8779 h8779 hS8779 hM8779 => ?_)
  refine qs_ite (c_eq h8779 k_0) ?_ ?_
  · exact qs_tr (show vi _ _ from k_0) hS8779 hM8779
  · refine qs_gr hS8779 pl_2156 ts_2156 rfl ?_
    refine qs_gd (fun g8782 => ?_)
    refine qs_xi hM8779 (pa_p hS8779 pl_2326 ts_2326) (p_add (p_mul k_24 ei2) ei1) g8782 (fun v8781 h8781 => ?_)
    refine qs_ite (c_eq h8781 k_0) ?_ ?_
    · exact (qz_X18_fire_J37 hS8779 hM8779 ei1 ei2 k_1)
    · exact (qz_X18_fire_J37 hS8779 hM8779 ei1 ei2 k_0)
set_option maxRecDepth 20000 in
theorem qz_X10_cellOf {P : Nat → Nat} {S : zm_S} {M : qm} {i1 : Int32} {qi1 : Int} (hS : Sh L xs P S) (hM : qM P S = M) (ei1 : i1.toInt = qi1) : qs (zf_X10_cellOf 20000 756 i1 S) (qf_X10_cellOf 20000 qi1 M) (tO (rp L xs P M vi)) := by
  unfold zf_X10_cellOf qf_X10_cellOf
  refine qs_gr hS pl_756 ts_756 rfl ?_
  refine qs_gd (fun g8785 => ?_)
  refine qs_xt hS pl_761 ts_761 (Or.inl rfl) ei1 g8785 (fun b8784 r8784 => ?_)
  refine qs_yi (j := 1) hS hM qt_761 tq_761 r8784 k_1 (by decide) (fun v8786 h8786 => ?_)
  refine qs_ite (c_eq h8786 k_m1) ?_ ?_
  · exact qs_tp (show vi _ _ from k_m1) hS hM
  · refine qs_yi (j := 1) hS hM qt_761 tq_761 r8784 k_1 (by decide) (fun v8787 h8787 => ?_)
    refine qs_yi (j := 2) hS hM qt_761 tq_761 r8784 k_2 (by decide) (fun v8788 h8788 => ?_)
    refine qs_bp (qz_X2_cellNumber hS hM h8787 h8788) (fun v8789 S8789 w8789 h8789 hS8789 hM8789 => ?_)
    exact qs_tp (show vi _ _ from h8789) hS8789 hM8789
set_option maxRecDepth 20000 in
theorem qz_X10_countInCell_J35 {P : Nat → Nat} {S : zm_S} {M : qm} {i1 : Int32} {qi1 : Int} {i3 : Int32} {qi3 : Int} {t0 : Int32} {qt0 : Int} {t1 : Int32} {qt1 : Int} (hS : Sh L xs P S) (hM : qM P S = M) (ei1 : i1.toInt = qi1) (ei3 : i3.toInt = qi3) (et0 : t0.toInt = qt0) (et1 : t1.toInt = qt1) {k : Nat → Int32 → Int32 → Int32 → zm_S → Option ((Int32 × zm_S) ⊕ ((Int32) × zm_S))} : qs (zf_X10_countInCell_J35 20000 k 756 i1 i3 t0 t1 S) (qf_X10_countInCell_J35 20000 qi1 qi3 qt0 qt1 M) (tk (vs (rp L xs P M vi) (rp L xs P M vi)) (qc_X10_countInCell_L4 L xs P M k)) := by
  unfold zf_X10_countInCell_J35 qf_X10_countInCell_J35
  exact qs_tk ⟨_, _, _, _, rfl, ei1, (p_add et0 et1), (p_add ei3 k_1), hS, hM⟩
set_option maxRecDepth 20000 in
theorem qz_X10_countInCell_J34 {P : Nat → Nat} {S : zm_S} {M : qm} {i1 : Int32} {qi1 : Int} {i3 : Int32} {qi3 : Int} {t0 : Int32} {qt0 : Int} (hS : Sh L xs P S) (hM : qM P S = M) (ei1 : i1.toInt = qi1) (ei3 : i3.toInt = qi3) (et0 : t0.toInt = qt0) {k : Nat → Int32 → Int32 → Int32 → zm_S → Option ((Int32 × zm_S) ⊕ ((Int32) × zm_S))} : qs (zf_X10_countInCell_J34 20000 k 756 i1 i3 t0 S) (qf_X10_countInCell_J34 20000 qi1 qi3 qt0 M) (tk (vs (rp L xs P M vi) (rp L xs P M vi)) (qc_X10_countInCell_L4 L xs P M k)) := by
  unfold zf_X10_countInCell_J34 qf_X10_countInCell_J34
  exact (qz_X10_countInCell_J35 hS hM ei1 ei3 et0 k_0)
set_option maxRecDepth 20000 in
theorem qz_X10_countInCell_L4_b (n : Nat) {P : Nat → Nat} {S : zm_S} {M : qm} {i1 : Int32} {qi1 : Int} {i2 : Int32} {qi2 : Int} {i3 : Int32} {qi3 : Int} (hS : Sh L xs P S) (hM : qM P S = M) (ei1 : i1.toInt = qi1) (ei2 : i2.toInt = qi2) (ei3 : i3.toInt = qi3) : qs (zf_X10_countInCell_L4 20000 (n + 1) 756 i1 i2 i3 S) (qf_X10_countInCell_L4_b 20000 qi1 qi2 qi3 M) (tk (vs (rp L xs P M vi) (rp L xs P M vi)) (qc_X10_countInCell_L4 L xs P M (zf_X10_countInCell_L4 20000 n))) := by
  refine qs_eq (zf_X10_countInCell_L4.eq_2 ..) ?_
  unfold qf_X10_countInCell_L4_b
  refine qs_gi hS hM pl_756 ts_756 (z := 7) rfl rfl (fun v8790 h8790 => ?_)
  refine qs_ite (c_le h8790 ei3) ?_ ?_
  · exact qs_tp2 (show vi _ _ from ei2) hS hM
  · refine qs_zi hS pl_756 ts_756 ?_
    refine qs_bp (qz_X10_cellOf hS hM ei3) (fun v8792 S8792 w8792 h8792 hS8792 hM8792 => ?_)
    refine qs_ite (c_eq h8792 ei1) ?_ ?_
    · refine qs_zi hS8792 pl_756 ts_756 ?_
      refine qs_bp (qz_X10_isCaught hS8792 hM8792 ei3) (fun v8794 S8794 w8794 h8794 hS8794 hM8794 => ?_)
      refine qs_ite (c_eq h8794 k_0) ?_ ?_
      · exact (qz_X10_countInCell_J35 hS8794 hM8794 ei1 ei3 ei2 k_1)
      · exact (qz_X10_countInCell_J34 hS8794 hM8794 ei1 ei3 ei2)
    · exact (qz_X10_countInCell_J34 hS8792 hM8792 ei1 ei3 ei2)
theorem qz_X10_countInCell_L4 (n : Nat) : ∀ {P : Nat → Nat} {S : zm_S} {M : qm} {i1 : Int32} {qi1 : Int} {i2 : Int32} {qi2 : Int} {i3 : Int32} {qi3 : Int} (hS : Sh L xs P S) (hM : qM P S = M) (ei1 : i1.toInt = qi1) (ei2 : i2.toInt = qi2) (ei3 : i3.toInt = qi3), qs (zf_X10_countInCell_L4 20000 n 756 i1 i2 i3 S) (qf_X10_countInCell_L4 20000 n qi1 qi2 qi3 M) (tO (vs (rp L xs P M vi) (rp L xs P M vi))) := by
  induction n with
  | zero =>
    intros
    exact qs_none
  | succ n ih =>
    intro P S M i1 qi1 i2 qi2 i3 qi3 hS hM ei1 ei2 ei3
    unfold qf_X10_countInCell_L4
    refine qs_loop (C := (qc_X10_countInCell_L4 L xs P M (zf_X10_countInCell_L4 20000 n))) (qz_X10_countInCell_L4_b n hS hM ei1 ei2 ei3) ?_
    rintro x s ⟨_, _, _, _, rfl, u0, u1, u2, hS2, hM2⟩
    exact ih hS2 hM2 u0 u1 u2
set_option maxRecDepth 20000 in
theorem qz_X10_countInCell {P : Nat → Nat} {S : zm_S} {M : qm} {i1 : Int32} {qi1 : Int} (hS : Sh L xs P S) (hM : qM P S = M) (ei1 : i1.toInt = qi1) : qs (zf_X10_countInCell 20000 756 i1 S) (qf_X10_countInCell 20000 qi1 M) (tO (rp L xs P M vi)) := by
  unfold zf_X10_countInCell qf_X10_countInCell
  refine qs_lp (qz_X10_countInCell_L4 20000 hS hM ei1 k_0 k_0) ?_ ?_
  · intro v8796 S8796 w8796 h8796 hS8796 hM8796
    dsimp only
    exact qs_tp h8796 hS8796 hM8796
  · intro v8796 S8796 w8796 h8796 hS8796 hM8796
    dsimp only
    exact qs_tp (show vi _ _ from h8796) hS8796 hM8796
set_option maxRecDepth 20000 in
theorem qz_X10_cellFact {P : Nat → Nat} {S : zm_S} {M : qm} {i1 : Int32} {qi1 : Int} {i2 : Int32} {qi2 : Int} (hS : Sh L xs P S) (hM : qM P S = M) (ei1 : i1.toInt = qi1) (ei2 : i2.toInt = qi2) : qs (zf_X10_cellFact 20000 756 i1 i2 S) (qf_X10_cellFact 20000 qi1 qi2 M) (tO (rp L xs P M vi)) := by
  unfold zf_X10_cellFact qf_X10_cellFact
  refine qs_ite (z_eq ei2) ?_ ?_
  · refine qs_gr hS pl_756 ts_756 rfl ?_
    refine qs_gd (fun g8799 => ?_)
    refine qs_xi hM (pa_p hS pl_757 ts_757) ei1 g8799 (fun v8798 h8798 => ?_)
    refine qs_ite (c_eq h8798 k_0) ?_ ?_
    · exact qs_tp (show vi _ _ from k_0) hS hM
    · exact qs_tp (show vi _ _ from k_1) hS hM
  · refine qs_ite (z_eq ei2) ?_ ?_
    · refine qs_gr hS pl_756 ts_756 rfl ?_
      refine qs_gd (fun g8802 => ?_)
      refine qs_xi hM (pa_p hS pl_759 ts_759) ei1 g8802 (fun v8801 h8801 => ?_)
      exact qs_tp (show vi _ _ from h8801) hS hM
    · refine qs_zi hS pl_756 ts_756 ?_
      refine qs_bp (qz_X10_countInCell hS hM ei1) (fun v8804 S8804 w8804 h8804 hS8804 hM8804 => ?_)
      exact qs_tp (show vi _ _ from h8804) hS8804 hM8804
set_option maxRecDepth 20000 in
theorem qz_X11_cell_J22 {P : Nat → Nat} {S : zm_S} {M : qm} {i1 : Int32} {qi1 : Int} {i2 : Int32} {qi2 : Int} {i3 : Int32} {qi3 : Int} {t0 : Int32} {qt0 : Int} (hS : Sh L xs P S) (hM : qM P S = M) (ei1 : i1.toInt = qi1) (ei2 : i2.toInt = qi2) (ei3 : i3.toInt = qi3) (et0 : t0.toInt = qt0) : qs (zf_X11_cell_J22 20000 6 i1 i2 i3 t0 S) (qf_X11_cell_J22 20000 qi1 qi2 qi3 qt0 M) (tO (rp L xs P M (vs vi ve))) := by
  unfold zf_X11_cell_J22 qf_X11_cell_J22
  refine qs_xp (qz_X11_needArgument hS hM et0) ?_ ?_
  · intro v8806 S8806 w8806 h8806 hS8806 hM8806
    dsimp only
    refine qs_gi hS8806 hM8806 pl_6 ts_6 (z := 11) rfl rfl (fun v8807 h8807 => ?_)
    refine qs_xp (qz_X11_needState hS8806 hM8806 h8807) ?_ ?_
    · intro v8809 S8809 w8809 h8809 hS8809 hM8809
      dsimp only
      refine qs_gr hS8809 pl_6 ts_6 rfl ?_
      refine qs_bp (qz_X2_cellNumber hS8809 hM8809 ei1 ei2) (fun v8811 S8811 w8811 h8811 hS8811 hM8811 => ?_)
      refine qs_zi hS8811 pl_756 ts_756 ?_
      refine qs_bp (qz_X10_cellFact hS8811 hM8811 h8811 ei3) (fun v8813 S8813 w8813 h8813 hS8813 hM8813 => ?_)
      exact qs_tp (show (vs vi ve) _ _ from h8813) hS8813 hM8813
    · intro v8809 S8809 hS8809 hM8809
      dsimp only
      exact qs_tp (show (vs vi ve) _ _ from rfl) hS8809 hM8809
  · intro v8806 S8806 hS8806 hM8806
    dsimp only
    exact qs_tp (show (vs vi ve) _ _ from rfl) hS8806 hM8806
set_option maxRecDepth 20000 in
theorem qz_X11_cell_J21 {P : Nat → Nat} {S : zm_S} {M : qm} {i1 : Int32} {qi1 : Int} {i2 : Int32} {qi2 : Int} {i3 : Int32} {qi3 : Int} (hS : Sh L xs P S) (hM : qM P S = M) (ei1 : i1.toInt = qi1) (ei2 : i2.toInt = qi2) (ei3 : i3.toInt = qi3) : qs (zf_X11_cell_J21 20000 6 i1 i2 i3 S) (qf_X11_cell_J21 20000 qi1 qi2 qi3 M) (tO (rp L xs P M (vs vi ve))) := by
  unfold zf_X11_cell_J21 qf_X11_cell_J21
  exact (qz_X11_cell_J22 hS hM ei1 ei2 ei3 k_0)
set_option maxRecDepth 20000 in
theorem qz_X11_cell {P : Nat → Nat} {S : zm_S} {M : qm} {i1 : Int32} {qi1 : Int} {i2 : Int32} {qi2 : Int} {i3 : Int32} {qi3 : Int} (hS : Sh L xs P S) (hM : qM P S = M) (ei1 : i1.toInt = qi1) (ei2 : i2.toInt = qi2) (ei3 : i3.toInt = qi3) : qs (zf_X11_cell 20000 6 i1 i2 i3 S) (qf_X11_cell 20000 qi1 qi2 qi3 M) (tO (rp L xs P M (vs vi ve))) := by
  unfold zf_X11_cell qf_X11_cell
  refine qs_bp (qz_X11_isCell hS hM ei1 ei2) (fun v8814 S8814 w8814 h8814 hS8814 hM8814 => ?_)
  refine qs_ite (c_eq h8814 k_0) ?_ ?_
  · exact (qz_X11_cell_J21 hS8814 hM8814 ei1 ei2 ei3)
  · refine qs_bp (qz_X11_isWithin hS8814 hM8814 ei3 k_0 k_2) (fun v8815 S8815 w8815 h8815 hS8815 hM8815 => ?_)
    refine qs_ite (c_eq h8815 k_0) ?_ ?_
    · exact (qz_X11_cell_J21 hS8815 hM8815 ei1 ei2 ei3)
    · exact (qz_X11_cell_J22 hS8815 hM8815 ei1 ei2 ei3 k_1)
set_option maxRecDepth 20000 in
theorem qz_L_cell {P : Nat → Nat} {S : zm_S} {M : qm} {i1 : Int32} {qi1 : Int} {i2 : Int32} {qi2 : Int} {i3 : Int32} {qi3 : Int} (hS : Sh L xs P S) (hM : qM P S = M) (ei1 : i1.toInt = qi1) (ei2 : i2.toInt = qi2) (ei3 : i3.toInt = qi3) : qs (zf_L_cell 20000 6 i1 i2 i3 2332 S) (qf_L_cell 20000 qi1 qi2 qi3 M) (tO (rr L xs P vi)) := by
  unfold zf_L_cell qf_L_cell
  refine qs_zi hS pl_6 ts_6 ?_
  refine qs_xp (qz_X11_cell hS hM ei1 ei2 ei3) ?_ ?_
  · intro v8818 S8818 w8818 h8818 hS8818 hM8818
    dsimp only
    refine qs_sl hS8818 hM8818 (pa_p hS8818 pl_2332 ts_2332) k_0 (by decide) (p_64 h8818) (fun S8819 M8819 hS8819 hM8819 => ?_)
    exact qs_tr (show vi _ _ from k_0) hS8819 hM8819
  · intro v8818 S8818 hS8818 hM8818
    dsimp only
    refine qs_ite Iff.rfl ?_ ?_
    · exact qs_tr (show vi _ _ from k_1) hS8818 hM8818
    · refine qs_ite Iff.rfl ?_ ?_
      · exact qs_tr (show vi _ _ from k_2) hS8818 hM8818
      · exact qs_none
set_option maxRecDepth 20000 in
theorem qz_X18_cell_J145 {P : Nat → Nat} {S : zm_S} {M : qm} {i1 : Int32} {qi1 : Int} {i2 : Int32} {qi2 : Int} {i6 : Int32} {qi6 : Int} {t0 : Int32} {qt0 : Int} {t1 : Int32} {qt1 : Int} (hS : Sh L xs P S) (hM : qM P S = M) (ei1 : i1.toInt = qi1) (ei2 : i2.toInt = qi2) (ei6 : i6.toInt = qi6) (et0 : t0.toInt = qt0) (et1 : t1.toInt = qt1) {k : Nat → Int32 → Int32 → Int32 → Int32 → zm_S → Option ((Int32 × zm_S) ⊕ ((Int32) × zm_S))} : qs (zf_X18_cell_J145 20000 k 2156 i1 i2 i6 t0 t1 S) (qf_X18_cell_J145 20000 qi1 qi2 qi6 qt0 qt1 M) (tk (vs (rp L xs P M vi) (rp L xs P M vi)) (qc_X18_cell_L97 L xs P M k)) := by
  unfold zf_X18_cell_J145 qf_X18_cell_J145
  exact qs_tk ⟨_, _, _, _, _, rfl, ei1, ei2, (p_add et0 et1), (p_add ei6 k_1), hS, hM⟩
set_option maxRecDepth 20000 in
theorem qz_X18_cell_J144 {P : Nat → Nat} {S : zm_S} {M : qm} {i1 : Int32} {qi1 : Int} {i2 : Int32} {qi2 : Int} {i6 : Int32} {qi6 : Int} {t0 : Int32} {qt0 : Int} (hS : Sh L xs P S) (hM : qM P S = M) (ei1 : i1.toInt = qi1) (ei2 : i2.toInt = qi2) (ei6 : i6.toInt = qi6) (et0 : t0.toInt = qt0) {k : Nat → Int32 → Int32 → Int32 → Int32 → zm_S → Option ((Int32 × zm_S) ⊕ ((Int32) × zm_S))} : qs (zf_X18_cell_J144 20000 k 2156 i1 i2 i6 t0 S) (qf_X18_cell_J144 20000 qi1 qi2 qi6 qt0 M) (tk (vs (rp L xs P M vi) (rp L xs P M vi)) (qc_X18_cell_L97 L xs P M k)) := by
  unfold zf_X18_cell_J144 qf_X18_cell_J144
  exact (qz_X18_cell_J145 hS hM ei1 ei2 ei6 et0 k_0)
set_option maxRecDepth 20000 in
theorem qz_X18_cell_L97_b (n : Nat) {P : Nat → Nat} {S : zm_S} {M : qm} {i1 : Int32} {qi1 : Int} {i2 : Int32} {qi2 : Int} {i5 : Int32} {qi5 : Int} {i6 : Int32} {qi6 : Int} (hS : Sh L xs P S) (hM : qM P S = M) (ei1 : i1.toInt = qi1) (ei2 : i2.toInt = qi2) (ei5 : i5.toInt = qi5) (ei6 : i6.toInt = qi6) : qs (zf_X18_cell_L97 20000 (n + 1) 2156 i1 i2 i5 i6 S) (qf_X18_cell_L97_b 20000 qi1 qi2 qi5 qi6 M) (tk (vs (rp L xs P M vi) (rp L xs P M vi)) (qc_X18_cell_L97 L xs P M (zf_X18_cell_L97 20000 n))) := by
  refine qs_eq (zf_X18_cell_L97.eq_2 ..) ?_
  unfold qf_X18_cell_L97_b
  refine qs_gi hS hM pl_2156 ts_2156 (z := 27) rfl rfl (fun v8820 h8820 => ?_)
  refine qs_ite (c_le h8820 ei6) ?_ ?_
  · exact qs_tp2 (show vi _ _ from ei5) hS hM
  · refine qs_gr hS pl_2156 ts_2156 rfl ?_
    refine qs_gd (fun g8823 => ?_)
    refine qs_xi hM (pa_p hS pl_2307 ts_2307) ei6 g8823 (fun v8822 h8822 => ?_)
    refine qs_ite (c_eq h8822 ei1) ?_ ?_
    · refine qs_gr hS pl_2156 ts_2156 rfl ?_
      refine qs_gd (fun g8826 => ?_)
      refine qs_xi hM (pa_p hS pl_2308 ts_2308) ei6 g8826 (fun v8825 h8825 => ?_)
      refine qs_ite (c_eq h8825 ei2) ?_ ?_
      · refine qs_gr hS pl_2156 ts_2156 rfl ?_
        refine qs_gd (fun g8829 => ?_)
        refine qs_xi hM (pa_p hS pl_2309 ts_2309) ei6 g8829 (fun v8828 h8828 => ?_)
        refine qs_ite (c_le k_0 h8828) ?_ ?_
        · exact (qz_X18_cell_J144 hS hM ei1 ei2 ei6 ei5)
        · exact (qz_X18_cell_J145 hS hM ei1 ei2 ei6 ei5 k_1)
      · exact (qz_X18_cell_J144 hS hM ei1 ei2 ei6 ei5)
    · exact (qz_X18_cell_J144 hS hM ei1 ei2 ei6 ei5)
theorem qz_X18_cell_L97 (n : Nat) : ∀ {P : Nat → Nat} {S : zm_S} {M : qm} {i1 : Int32} {qi1 : Int} {i2 : Int32} {qi2 : Int} {i5 : Int32} {qi5 : Int} {i6 : Int32} {qi6 : Int} (hS : Sh L xs P S) (hM : qM P S = M) (ei1 : i1.toInt = qi1) (ei2 : i2.toInt = qi2) (ei5 : i5.toInt = qi5) (ei6 : i6.toInt = qi6), qs (zf_X18_cell_L97 20000 n 2156 i1 i2 i5 i6 S) (qf_X18_cell_L97 20000 n qi1 qi2 qi5 qi6 M) (tO (vs (rp L xs P M vi) (rp L xs P M vi))) := by
  induction n with
  | zero =>
    intros
    exact qs_none
  | succ n ih =>
    intro P S M i1 qi1 i2 qi2 i5 qi5 i6 qi6 hS hM ei1 ei2 ei5 ei6
    unfold qf_X18_cell_L97
    refine qs_loop (C := (qc_X18_cell_L97 L xs P M (zf_X18_cell_L97 20000 n))) (qz_X18_cell_L97_b n hS hM ei1 ei2 ei5 ei6) ?_
    rintro x s ⟨_, _, _, _, _, rfl, u0, u1, u2, u3, hS2, hM2⟩
    exact ih hS2 hM2 u0 u1 u2 u3
set_option maxRecDepth 20000 in
theorem qz_X18_cell_J22 {P : Nat → Nat} {S : zm_S} {M : qm} {i1 : Int32} {qi1 : Int} {i2 : Int32} {qi2 : Int} {i3 : Int32} {qi3 : Int} {t1 : Int32} {qt1 : Int} (hS : Sh L xs P S) (hM : qM P S = M) (ei1 : i1.toInt = qi1) (ei2 : i2.toInt = qi2) (ei3 : i3.toInt = qi3) (et1 : t1.toInt = qt1) : qs (zf_X18_cell_J22 20000 2156 i1 i2 i3 2156 t1 S) (qf_X18_cell_J22 20000 qi1 qi2 qi3 qt1 M) (tO (rr L xs P vi)) := by
  unfold zf_X18_cell_J22 qf_X18_cell_J22
  refine qs_gi hS hM pl_2156 ts_2156 (z := 1) rfl rfl (fun v8830 h8830 => ?_)
  refine qs_zi hS pl_2156 ts_2156 ?_
  refine qs_b (qz_X18_goes hS hM et1 h8830) (fun v8832 S8832 w8832 M8832 h8832 hS8832 hM8832 => ?_)
  refine qs_ite (c_eq h8832 k_0) ?_ ?_
  · exact qs_tr (show vi _ _ from k_0) hS8832 hM8832
  · refine qs_ite (c_le k_2 ei3) ?_ ?_
    · refine qs_lp (qz_X18_cell_L97 20000 hS8832 hM8832 ei1 ei2 k_0 k_0) ?_ ?_
      · intro v8834 S8834 w8834 h8834 hS8834 hM8834
        dsimp only
        exact qs_tr h8834 hS8834 hM8834
      · intro v8834 S8834 w8834 h8834 hS8834 hM8834
        dsimp only
        exact qs_tr (show vi _ _ from h8834) hS8834 hM8834
    · refine qs_ite (c_eq ei3 k_0) ?_ ?_
      · refine qs_gr hS8832 pl_2156 ts_2156 rfl ?_
        refine qs_gd (fun g8837 => ?_)
        refine qs_xi hM8832 (pa_p hS8832 pl_2326 ts_2326) (p_add (p_mul k_24 ei2) ei1) g8837 (fun v8836 h8836 => ?_)
        refine qs_ite (c_eq h8836 k_0) ?_ ?_
        · exact qs_tr (show vi _ _ from k_0) hS8832 hM8832
        · exact qs_tr (show vi _ _ from k_1) hS8832 hM8832
      · refine qs_gr hS8832 pl_2156 ts_2156 rfl ?_
        refine qs_gd (fun g8840 => ?_)
        refine qs_xi hM8832 (pa_p hS8832 pl_2328 ts_2328) (p_add (p_mul k_24 ei2) ei1) g8840 (fun v8839 h8839 => ?_)
        refine qs_ite (c_eq h8839 k_0) ?_ ?_
        · exact qs_tr (show vi _ _ from k_m1) hS8832 hM8832
        · refine qs_gr hS8832 pl_2156 ts_2156 rfl ?_
          refine qs_gd (fun g8843 => ?_)
          refine qs_xi hM8832 (pa_p hS8832 pl_2328 ts_2328) (p_add (p_mul k_24 ei2) ei1) g8843 (fun v8842 h8842 => ?_)
          exact qs_tr (show vi _ _ from h8842) hS8832 hM8832
set_option maxRecDepth 20000 in
theorem qz_X18_cell_J21 {P : Nat → Nat} {S : zm_S} {M : qm} {i1 : Int32} {qi1 : Int} {i2 : Int32} {qi2 : Int} {i3 : Int32} {qi3 : Int} (hS : Sh L xs P S) (hM : qM P S = M) (ei1 : i1.toInt = qi1) (ei2 : i2.toInt = qi2) (ei3 : i3.toInt = qi3) : qs (zf_X18_cell_J21 20000 2156 i1 i2 i3 2156 S) (qf_X18_cell_J21 20000 qi1 qi2 qi3 M) (tO (rr L xs P vi)) := by
  unfold zf_X18_cell_J21 qf_X18_cell_J21
  exact (qz_X18_cell_J22 hS hM ei1 ei2 ei3 k_0)
set_option maxRecDepth 20000 in
theorem qz_X18_cell {P : Nat → Nat} {S : zm_S} {M : qm} {i1 : Int32} {qi1 : Int} {i2 : Int32} {qi2 : Int} {i3 : Int32} {qi3 : Int} (hS : Sh L xs P S) (hM : qM P S = M) (ei1 : i1.toInt = qi1) (ei2 : i2.toInt = qi2) (ei3 : i3.toInt = qi3) : qs (zf_X18_cell 20000 2156 i1 i2 i3 S) (qf_X18_cell 20000 qi1 qi2 qi3 M) (tO (rr L xs P vi)) := by
  unfold zf_X18_cell qf_X18_cell
  refine qs_bp (qz_X18_isCell hS hM ei1 ei2) (fun v8844 S8844 w8844 h8844 hS8844 hM8844 => ?_)
  refine qs_ite (c_eq h8844 k_0) ?_ ?_
  · exact (qz_X18_cell_J21 hS8844 hM8844 ei1 ei2 ei3)
  · refine qs_bp (qz_X18_isIn hS8844 hM8844 ei3 k_3) (fun v8845 S8845 w8845 h8845 hS8845 hM8845 => ?_)
    refine qs_ite (c_eq h8845 k_0) ?_ ?_
    · exact (qz_X18_cell_J21 hS8845 hM8845 ei1 ei2 ei3)
    · exact (qz_X18_cell_J22 hS8845 hM8845 ei1 ei2 ei3 k_1)
set_option maxRecDepth 20000 in
theorem qz_X10_spreadSmoke_L12_b (n : Nat) {P : Nat → Nat} {S : zm_S} {M : qm} {i2 : Int32} {qi2 : Int} {i3 : Int32} {qi3 : Int} (hS : Sh L xs P S) (hM : qM P S = M) (ei2 : i2.toInt = qi2) (ei3 : i3.toInt = qi3) : qs (zf_X10_spreadSmoke_L12 20000 (n + 1) 756 i2 i3 S) (qf_X10_spreadSmoke_L12_b 20000 qi2 qi3 M) (tk (vs (rr L xs P vu) (rr L xs P vi)) (qc_X10_spreadSmoke_L12 L xs P (zf_X10_spreadSmoke_L12 20000 n))) := by
  refine qs_eq (zf_X10_spreadSmoke_L12.eq_2 ..) ?_
  unfold qf_X10_spreadSmoke_L12_b
  refine qs_ite (c_le k_576 ei3) ?_ ?_
  · exact qs_tr2 (show vi _ _ from ei2) hS hM
  · refine qs_gr hS pl_756 ts_756 rfl ?_
    refine qs_gd (fun g8848 => ?_)
    refine qs_xi hM (pa_p hS pl_757 ts_757) ei3 g8848 (fun v8847 h8847 => ?_)
    refine qs_ite (c_eq h8847 k_0) ?_ ?_
    · exact qs_tk ⟨_, _, _, rfl, ei2, (p_add ei3 k_1), hS, hM⟩
    · refine qs_gr hS pl_756 ts_756 rfl ?_
      refine qs_gd (fun g8851 => ?_)
      refine qs_si hS hM (pa_p hS pl_760 ts_760) ei2 g8851 ei3 (fun S8850 M8850 hS8850 hM8850 => ?_)
      exact qs_tk ⟨_, _, _, rfl, (p_add ei2 k_1), (p_add ei3 k_1), hS8850, hM8850⟩
theorem qz_X10_spreadSmoke_L12 (n : Nat) : ∀ {P : Nat → Nat} {S : zm_S} {M : qm} {i2 : Int32} {qi2 : Int} {i3 : Int32} {qi3 : Int} (hS : Sh L xs P S) (hM : qM P S = M) (ei2 : i2.toInt = qi2) (ei3 : i3.toInt = qi3), qs (zf_X10_spreadSmoke_L12 20000 n 756 i2 i3 S) (qf_X10_spreadSmoke_L12 20000 n qi2 qi3 M) (tO (vs (rr L xs P vu) (rr L xs P vi))) := by
  induction n with
  | zero =>
    intros
    exact qs_none
  | succ n ih =>
    intro P S M i2 qi2 i3 qi3 hS hM ei2 ei3
    unfold qf_X10_spreadSmoke_L12
    refine qs_loop (C := (qc_X10_spreadSmoke_L12 L xs P (zf_X10_spreadSmoke_L12 20000 n))) (qz_X10_spreadSmoke_L12_b n hS hM ei2 ei3) ?_
    rintro x s ⟨_, _, _, rfl, u0, u1, hS2, hM2⟩
    exact ih hS2 hM2 u0 u1
set_option maxRecDepth 20000 in
theorem qz_X10_spreadSmoke_L54_b (n : Nat) {P : Nat → Nat} {S : zm_S} {M : qm} {i2 : Int32} {qi2 : Int} {i3 : Int32} {qi3 : Int} {i4 : Int32} {qi4 : Int} (hS : Sh L xs P S) (hM : qM P S = M) (ei2 : i2.toInt = qi2) (ei3 : i3.toInt = qi3) (ei4 : i4.toInt = qi4) : qs (zf_X10_spreadSmoke_L54 20000 (n + 1) 756 i2 i3 i4 S) (qf_X10_spreadSmoke_L54_b 20000 qi2 qi3 qi4 M) (tk (vs (rr L xs P vu) (rr L xs P vu)) (qc_X10_spreadSmoke_L54 L xs P (zf_X10_spreadSmoke_L54 20000 n))) := by
  refine qs_eq (zf_X10_spreadSmoke_L54.eq_2 ..) ?_
  unfold qf_X10_spreadSmoke_L54_b
  refine qs_ite (c_le k_4 ei4) ?_ ?_
  · exact qs_tr2 (show vu _ _ from trivial) hS hM
  · refine qs_gr hS pl_756 ts_756 rfl ?_
    refine qs_gr hS pl_756 ts_756 rfl ?_
    refine qs_gd (fun g8855 => ?_)
    refine qs_xi hM (pa_p hS pl_760 ts_760) ei3 g8855 (fun v8854 h8854 => ?_)
    refine qs_zi hS pl_51 ts_51 ?_
    refine qs_bp (qz_X2_cellBeside hS hM h8854 ei4) (fun v8857 S8857 w8857 h8857 hS8857 hM8857 => ?_)
    refine qs_ite (c_eq h8857 k_m1) ?_ ?_
    · exact qs_tk ⟨_, _, _, _, rfl, ei2, ei3, (p_add ei4 k_1), hS8857, hM8857⟩
    · refine qs_gr hS8857 pl_756 ts_756 rfl ?_
      refine qs_gd (fun g8860 => ?_)
      refine qs_xi hM8857 (pa_p hS8857 pl_757 ts_757) h8857 g8860 (fun v8859 h8859 => ?_)
      refine qs_ite (c_eq h8859 k_0) ?_ ?_
      · refine qs_gr hS8857 pl_756 ts_756 rfl ?_
        refine qs_gd (fun g8863 => ?_)
        refine qs_xi hM8857 (pa_p hS8857 pl_760 ts_760) ei3 g8863 (fun v8862 h8862 => ?_)
        refine qs_zi hS8857 pl_756 ts_756 ?_
        refine qs_bp (qz_X10_canGo hS8857 hM8857 h8862 ei4) (fun v8865 S8865 w8865 h8865 hS8865 hM8865 => ?_)
        refine qs_ite (c_eq h8865 k_0) ?_ ?_
        · exact qs_tk ⟨_, _, _, _, rfl, ei2, ei3, (p_add ei4 k_1), hS8865, hM8865⟩
        · refine qs_zi hS8865 pl_756 ts_756 ?_
          refine qs_b (qz_X10_addSmoke hS8865 hM8865 h8857) (fun v8867 S8867 w8867 M8867 h8867 hS8867 hM8867 => ?_)
          exact qs_tk ⟨_, _, _, _, rfl, ei2, ei3, (p_add ei4 k_1), hS8867, hM8867⟩
      · exact qs_tk ⟨_, _, _, _, rfl, ei2, ei3, (p_add ei4 k_1), hS8857, hM8857⟩
theorem qz_X10_spreadSmoke_L54 (n : Nat) : ∀ {P : Nat → Nat} {S : zm_S} {M : qm} {i2 : Int32} {qi2 : Int} {i3 : Int32} {qi3 : Int} {i4 : Int32} {qi4 : Int} (hS : Sh L xs P S) (hM : qM P S = M) (ei2 : i2.toInt = qi2) (ei3 : i3.toInt = qi3) (ei4 : i4.toInt = qi4), qs (zf_X10_spreadSmoke_L54 20000 n 756 i2 i3 i4 S) (qf_X10_spreadSmoke_L54 20000 n qi2 qi3 qi4 M) (tO (vs (rr L xs P vu) (rr L xs P vu))) := by
  induction n with
  | zero =>
    intros
    exact qs_none
  | succ n ih =>
    intro P S M i2 qi2 i3 qi3 i4 qi4 hS hM ei2 ei3 ei4
    unfold qf_X10_spreadSmoke_L54
    refine qs_loop (C := (qc_X10_spreadSmoke_L54 L xs P (zf_X10_spreadSmoke_L54 20000 n))) (qz_X10_spreadSmoke_L54_b n hS hM ei2 ei3 ei4) ?_
    rintro x s ⟨_, _, _, _, rfl, u0, u1, u2, hS2, hM2⟩
    exact ih hS2 hM2 u0 u1 u2
set_option maxRecDepth 20000 in
theorem qz_X10_spreadSmoke_L46_b (n : Nat) {P : Nat → Nat} {S : zm_S} {M : qm} {i2 : Int32} {qi2 : Int} {i3 : Int32} {qi3 : Int} (hS : Sh L xs P S) (hM : qM P S = M) (ei2 : i2.toInt = qi2) (ei3 : i3.toInt = qi3) : qs (zf_X10_spreadSmoke_L46 20000 (n + 1) 756 i2 i3 S) (qf_X10_spreadSmoke_L46_b 20000 qi2 qi3 M) (tk (vs (rr L xs P vu) (rr L xs P vu)) (qc_X10_spreadSmoke_L46 L xs P (zf_X10_spreadSmoke_L46 20000 n))) := by
  refine qs_eq (zf_X10_spreadSmoke_L46.eq_2 ..) ?_
  unfold qf_X10_spreadSmoke_L46_b
  refine qs_ite (c_le ei2 ei3) ?_ ?_
  · exact qs_tr2 (show vu _ _ from trivial) hS hM
  · refine qs_lr (qz_X10_spreadSmoke_L54 20000 hS hM ei2 ei3 k_0) ?_ ?_
    · intro v8869 S8869 w8869 M8869 h8869 hS8869 hM8869
      dsimp only
      exact qs_tr1 h8869 hS8869 hM8869
    · intro v8869 S8869 w8869 M8869 h8869 hS8869 hM8869
      dsimp only
      exact qs_tk ⟨_, _, _, rfl, ei2, (p_add ei3 k_1), hS8869, hM8869⟩
theorem qz_X10_spreadSmoke_L46 (n : Nat) : ∀ {P : Nat → Nat} {S : zm_S} {M : qm} {i2 : Int32} {qi2 : Int} {i3 : Int32} {qi3 : Int} (hS : Sh L xs P S) (hM : qM P S = M) (ei2 : i2.toInt = qi2) (ei3 : i3.toInt = qi3), qs (zf_X10_spreadSmoke_L46 20000 n 756 i2 i3 S) (qf_X10_spreadSmoke_L46 20000 n qi2 qi3 M) (tO (vs (rr L xs P vu) (rr L xs P vu))) := by
  induction n with
  | zero =>
    intros
    exact qs_none
  | succ n ih =>
    intro P S M i2 qi2 i3 qi3 hS hM ei2 ei3
    unfold qf_X10_spreadSmoke_L46
    refine qs_loop (C := (qc_X10_spreadSmoke_L46 L xs P (zf_X10_spreadSmoke_L46 20000 n))) (qz_X10_spreadSmoke_L46_b n hS hM ei2 ei3) ?_
    rintro x s ⟨_, _, _, rfl, u0, u1, hS2, hM2⟩
    exact ih hS2 hM2 u0 u1
set_option maxRecDepth 20000 in
theorem qz_X10_spreadSmoke {P : Nat → Nat} {S : zm_S} {M : qm} {i1 : Int32} {qi1 : Int} (hS : Sh L xs P S) (hM : qM P S = M) (ei1 : i1.toInt = qi1) : qs (zf_X10_spreadSmoke 20000 756 i1 S) (qf_X10_spreadSmoke 20000 qi1 M) (tO (rr L xs P vu)) := by
  unfold zf_X10_spreadSmoke qf_X10_spreadSmoke
  refine qs_ite (c_eq (p_mod ei1 k_10) k_0) ?_ ?_
  · refine qs_lr (qz_X10_spreadSmoke_L12 20000 hS hM k_0 k_0) ?_ ?_
    · intro v8871 S8871 w8871 M8871 h8871 hS8871 hM8871
      dsimp only
      exact qs_tr h8871 hS8871 hM8871
    · intro v8871 S8871 w8871 M8871 h8871 hS8871 hM8871
      dsimp only
      refine qs_lr (qz_X10_spreadSmoke_L46 20000 hS8871 hM8871 h8871 k_0) ?_ ?_
      · intro v8873 S8873 w8873 M8873 h8873 hS8873 hM8873
        dsimp only
        exact qs_tr h8873 hS8873 hM8873
      · intro v8873 S8873 w8873 M8873 h8873 hS8873 hM8873
        dsimp only
        exact qs_tr (show vu _ _ from trivial) hS8873 hM8873
  · exact qs_tr (show vu _ _ from trivial) hS hM
set_option maxRecDepth 20000 in
theorem qz_X11_passSecond_L23_b (n : Nat) {P : Nat → Nat} {S : zm_S} {M : qm} {i1 : Int32} {qi1 : Int} (hS : Sh L xs P S) (hM : qM P S = M) (ei1 : i1.toInt = qi1) : qs (zf_X11_passSecond_L23 20000 (n + 1) 6 i1 S) (qf_X11_passSecond_L23_b 20000 qi1 M) (tk (vs (rr L xs P vu) (rr L xs P vu)) (qc_X11_passSecond_L23 L xs P (zf_X11_passSecond_L23 20000 n))) := by
  refine qs_eq (zf_X11_passSecond_L23.eq_2 ..) ?_
  unfold qf_X11_passSecond_L23_b
  refine qs_gr hS pl_6 ts_6 rfl ?_
  refine qs_gi hS hM pl_51 ts_51 (z := 3) rfl rfl (fun v8875 h8875 => ?_)
  refine qs_ite (c_le h8875 ei1) ?_ ?_
  · exact qs_tr2 (show vu _ _ from trivial) hS hM
  · refine qs_ite (c_le k_40 ei1) ?_ ?_
    · exact qs_tr2 (show vu _ _ from trivial) hS hM
    · refine qs_gr hS pl_6 ts_6 rfl ?_
      refine qs_gr hS pl_1172 ts_1172 rfl ?_
      refine qs_gr hS pl_6 ts_6 rfl ?_
      refine qs_gr hS pl_756 ts_756 rfl ?_
      refine qs_gd (fun g8881 => ?_)
      refine qs_xi hM (pa_p hS pl_758 ts_758) ei1 g8881 (fun v8880 h8880 => ?_)
      refine qs_gd (fun g8883 => ?_)
      refine qs_si hS hM (pa_p hS pl_1173 ts_1173) ei1 g8883 (p_min (p_mul k_10 h8880) k_100) (fun S8882 M8882 hS8882 hM8882 => ?_)
      exact qs_tk ⟨_, _, rfl, (p_add ei1 k_1), hS8882, hM8882⟩
theorem qz_X11_passSecond_L23 (n : Nat) : ∀ {P : Nat → Nat} {S : zm_S} {M : qm} {i1 : Int32} {qi1 : Int} (hS : Sh L xs P S) (hM : qM P S = M) (ei1 : i1.toInt = qi1), qs (zf_X11_passSecond_L23 20000 n 6 i1 S) (qf_X11_passSecond_L23 20000 n qi1 M) (tO (vs (rr L xs P vu) (rr L xs P vu))) := by
  induction n with
  | zero =>
    intros
    exact qs_none
  | succ n ih =>
    intro P S M i1 qi1 hS hM ei1
    unfold qf_X11_passSecond_L23
    refine qs_loop (C := (qc_X11_passSecond_L23 L xs P (zf_X11_passSecond_L23 20000 n))) (qz_X11_passSecond_L23_b n hS hM ei1) ?_
    rintro x s ⟨_, _, rfl, u0, hS2, hM2⟩
    exact ih hS2 hM2 u0
set_option maxRecDepth 20000 in
theorem qz_X4_setSwitch {P : Nat → Nat} {S : zm_S} {M : qm} {i1 : Int32} {qi1 : Int} {i2 : Int32} {qi2 : Int} (hS : Sh L xs P S) (hM : qM P S = M) (ei1 : i1.toInt = qi1) (ei2 : i2.toInt = qi2) : qs (zf_X4_setSwitch 20000 1172 i1 i2 S) (qf_X4_setSwitch 20000 qi1 qi2 M) (tO (rr L xs P vu)) := by
  unfold zf_X4_setSwitch qf_X4_setSwitch
  refine qs_gi hS hM pl_1172 ts_1172 (z := 2) rfl rfl (fun v8884 h8884 => ?_)
  refine qs_ite (c_eq ei1 k_m1) ?_ ?_
  · exact qs_tr (show vu _ _ from trivial) hS hM
  · refine qs_ite (c_lt (p_add (p_sub h8884 k_10) ei1) k_0) ?_ ?_
    · exact qs_tr (show vu _ _ from trivial) hS hM
    · refine qs_gi hS hM pl_1172 ts_1172 (z := 2) rfl rfl (fun v8885 h8885 => ?_)
      refine qs_ite (c_le h8885 (p_add (p_sub h8884 k_10) ei1)) ?_ ?_
      · exact qs_tr (show vu _ _ from trivial) hS hM
      · refine qs_gr hS pl_1172 ts_1172 rfl ?_
        refine qs_gd (fun g8888 => ?_)
        refine qs_si hS hM (pa_p hS pl_1173 ts_1173) (p_add (p_sub h8884 k_10) ei1) g8888 (p_max k_0 (p_min ei2 k_100)) (fun S8887 M8887 hS8887 hM8887 => ?_)
        exact qs_tr (show vu _ _ from trivial) hS8887 hM8887
set_option maxRecDepth 20000 in
theorem qz_X11_passSecond_L74_b (n : Nat) {P : Nat → Nat} {S : zm_S} {M : qm} {i1 : Int32} {qi1 : Int} (hS : Sh L xs P S) (hM : qM P S = M) (ei1 : i1.toInt = qi1) : qs (zf_X11_passSecond_L74 20000 (n + 1) 6 i1 S) (qf_X11_passSecond_L74_b 20000 qi1 M) (tk (vs (rr L xs P vu) (rr L xs P vu)) (qc_X11_passSecond_L74 L xs P (zf_X11_passSecond_L74 20000 n))) := by
  refine qs_eq (zf_X11_passSecond_L74.eq_2 ..) ?_
  unfold qf_X11_passSecond_L74_b
  refine qs_gr hS pl_6 ts_6 rfl ?_
  refine qs_gi hS hM pl_1003 ts_1003 (z := 0) rfl rfl (fun v8890 h8890 => ?_)
  refine qs_ite (c_le h8890 ei1) ?_ ?_
  · exact qs_tr2 (show vu _ _ from trivial) hS hM
  · refine qs_gr hS pl_6 ts_6 rfl ?_
    refine qs_gr hS pl_6 ts_6 rfl ?_
    refine qs_gr hS pl_1003 ts_1003 rfl ?_
    refine qs_gd (fun g8895 => ?_)
    refine qs_xi hM (pa_p hS pl_1134 ts_1134) ei1 g8895 (fun v8894 h8894 => ?_)
    refine qs_gr hS pl_6 ts_6 rfl ?_
    refine qs_gr hS pl_1003 ts_1003 rfl ?_
    refine qs_gd (fun g8899 => ?_)
    refine qs_xi hM (pa_p hS pl_1049 ts_1049) ei1 g8899 (fun v8898 h8898 => ?_)
    refine qs_zi hS pl_1172 ts_1172 ?_
    refine qs_b (qz_X4_setSwitch hS hM h8894 h8898) (fun v8901 S8901 w8901 M8901 h8901 hS8901 hM8901 => ?_)
    exact qs_tk ⟨_, _, rfl, (p_add ei1 k_1), hS8901, hM8901⟩
theorem qz_X11_passSecond_L74 (n : Nat) : ∀ {P : Nat → Nat} {S : zm_S} {M : qm} {i1 : Int32} {qi1 : Int} (hS : Sh L xs P S) (hM : qM P S = M) (ei1 : i1.toInt = qi1), qs (zf_X11_passSecond_L74 20000 n 6 i1 S) (qf_X11_passSecond_L74 20000 n qi1 M) (tO (vs (rr L xs P vu) (rr L xs P vu))) := by
  induction n with
  | zero =>
    intros
    exact qs_none
  | succ n ih =>
    intro P S M i1 qi1 hS hM ei1
    unfold qf_X11_passSecond_L74
    refine qs_loop (C := (qc_X11_passSecond_L74 L xs P (zf_X11_passSecond_L74 20000 n))) (qz_X11_passSecond_L74_b n hS hM ei1) ?_
    rintro x s ⟨_, _, rfl, u0, hS2, hM2⟩
    exact ih hS2 hM2 u0
set_option maxRecDepth 20000 in
theorem qz_X4_isSurelyCalled_J59 {P : Nat → Nat} {S : zm_S} {M : qm} {i1 : Int32} {qi1 : Int} {i2 : Int32} {qi2 : Int} {t0 : Int32} {qt0 : Int} (hS : Sh L xs P S) (hM : qM P S = M) (ei1 : i1.toInt = qi1) (ei2 : i2.toInt = qi2) (et0 : t0.toInt = qt0) {k : Nat → Int32 → Int32 → zm_S → Option ((Int32 × zm_S) ⊕ ((Unit) × zm_S))} : qs (zf_X4_isSurelyCalled_J59 20000 k 1172 i1 i2 t0 S) (qf_X4_isSurelyCalled_J59 20000 qi1 qi2 qt0 M) (tk (vs (rp L xs P M vi) (rp L xs P M vu)) (qc_X4_isSurelyCalled_L2 L xs P M k)) := by
  unfold zf_X4_isSurelyCalled_J59 qf_X4_isSurelyCalled_J59
  refine qs_gr hS pl_1172 ts_1172 rfl ?_
  refine qs_gd (fun g8904 => ?_)
  refine qs_xt hS pl_1218 ts_1218 (Or.inl rfl) ei2 g8904 (fun b8903 r8903 => ?_)
  refine qs_yi (j := 2) hS hM qt_1218 tq_1218 r8903 k_2 (by decide) (fun v8905 h8905 => ?_)
  refine qs_ite (c_eq h8905 ei1) ?_ ?_
  · refine qs_zi hS pl_1172 ts_1172 ?_
    refine qs_bp (qz_X4_isMet hS hM ei2) (fun v8907 S8907 w8907 h8907 hS8907 hM8907 => ?_)
    refine qs_ite (c_eq h8907 k_0) ?_ ?_
    · exact qs_tk ⟨_, _, _, rfl, ei1, (p_add ei2 k_1), hS8907, hM8907⟩
    · refine qs_ite (c_eq et0 k_0) ?_ ?_
      · exact qs_tk ⟨_, _, _, rfl, ei1, (p_add ei2 k_1), hS8907, hM8907⟩
      · exact qs_tp1 (show vi _ _ from k_1) hS8907 hM8907
  · exact qs_tk ⟨_, _, _, rfl, ei1, (p_add ei2 k_1), hS, hM⟩
set_option maxRecDepth 20000 in
theorem qz_X4_isSurelyCalled_J58 {P : Nat → Nat} {S : zm_S} {M : qm} {i1 : Int32} {qi1 : Int} {i2 : Int32} {qi2 : Int} (hS : Sh L xs P S) (hM : qM P S = M) (ei1 : i1.toInt = qi1) (ei2 : i2.toInt = qi2) {k : Nat → Int32 → Int32 → zm_S → Option ((Int32 × zm_S) ⊕ ((Unit) × zm_S))} : qs (zf_X4_isSurelyCalled_J58 20000 k 1172 i1 i2 S) (qf_X4_isSurelyCalled_J58 20000 qi1 qi2 M) (tk (vs (rp L xs P M vi) (rp L xs P M vu)) (qc_X4_isSurelyCalled_L2 L xs P M k)) := by
  unfold zf_X4_isSurelyCalled_J58 qf_X4_isSurelyCalled_J58
  exact (qz_X4_isSurelyCalled_J59 hS hM ei1 ei2 k_0)
set_option maxRecDepth 20000 in
theorem qz_X4_isSurelyCalled_J54 {P : Nat → Nat} {S : zm_S} {M : qm} {i1 : Int32} {qi1 : Int} {i2 : Int32} {qi2 : Int} (hS : Sh L xs P S) (hM : qM P S = M) (ei1 : i1.toInt = qi1) (ei2 : i2.toInt = qi2) {k : Nat → Int32 → Int32 → zm_S → Option ((Int32 × zm_S) ⊕ ((Unit) × zm_S))} : qs (zf_X4_isSurelyCalled_J54 20000 k 1172 i1 i2 S) (qf_X4_isSurelyCalled_J54 20000 qi1 qi2 M) (tk (vs (rp L xs P M vi) (rp L xs P M vu)) (qc_X4_isSurelyCalled_L2 L xs P M k)) := by
  unfold zf_X4_isSurelyCalled_J54 qf_X4_isSurelyCalled_J54
  exact (qz_X4_isSurelyCalled_J59 hS hM ei1 ei2 k_1)
set_option maxRecDepth 20000 in
theorem qz_X4_isSurelyCalled_L2_b (n : Nat) {P : Nat → Nat} {S : zm_S} {M : qm} {i1 : Int32} {qi1 : Int} {i2 : Int32} {qi2 : Int} (hS : Sh L xs P S) (hM : qM P S = M) (ei1 : i1.toInt = qi1) (ei2 : i2.toInt = qi2) : qs (zf_X4_isSurelyCalled_L2 20000 (n + 1) 1172 i1 i2 S) (qf_X4_isSurelyCalled_L2_b 20000 qi1 qi2 M) (tk (vs (rp L xs P M vi) (rp L xs P M vu)) (qc_X4_isSurelyCalled_L2 L xs P M (zf_X4_isSurelyCalled_L2 20000 n))) := by
  refine qs_eq (zf_X4_isSurelyCalled_L2.eq_2 ..) ?_
  unfold qf_X4_isSurelyCalled_L2_b
  refine qs_gi hS hM pl_1172 ts_1172 (z := 9) rfl rfl (fun v8908 h8908 => ?_)
  refine qs_ite (c_le h8908 ei2) ?_ ?_
  · exact qs_tp2 (show vu _ _ from trivial) hS hM
  · refine qs_gr hS pl_1172 ts_1172 rfl ?_
    refine qs_gr hS pl_1172 ts_1172 rfl ?_
    refine qs_gd (fun g8912 => ?_)
    refine qs_xt hS pl_1218 ts_1218 (Or.inl rfl) ei2 g8912 (fun b8911 r8911 => ?_)
    refine qs_yi (j := 0) hS hM qt_1218 tq_1218 r8911 k_0 (by decide) (fun v8913 h8913 => ?_)
    refine qs_gd (fun g8915 => ?_)
    refine qs_xi hM (pa_p hS pl_1275 ts_1275) h8913 g8915 (fun v8914 h8914 => ?_)
    refine qs_ite (c_eq h8914 k_0) ?_ ?_
    · refine qs_gr hS pl_1172 ts_1172 rfl ?_
      refine qs_gd (fun g8918 => ?_)
      refine qs_xt hS pl_1218 ts_1218 (Or.inl rfl) ei2 g8918 (fun b8917 r8917 => ?_)
      refine qs_yi (j := 1) hS hM qt_1218 tq_1218 r8917 k_1 (by decide) (fun v8919 h8919 => ?_)
      refine qs_ite (c_eq h8919 k_m1) ?_ ?_
      · exact (qz_X4_isSurelyCalled_J58 hS hM ei1 ei2)
      · refine qs_gr hS pl_1172 ts_1172 rfl ?_
        refine qs_gr hS pl_1172 ts_1172 rfl ?_
        refine qs_gd (fun g8923 => ?_)
        refine qs_xt hS pl_1218 ts_1218 (Or.inl rfl) ei2 g8923 (fun b8922 r8922 => ?_)
        refine qs_yi (j := 1) hS hM qt_1218 tq_1218 r8922 k_1 (by decide) (fun v8924 h8924 => ?_)
        refine qs_gd (fun g8926 => ?_)
        refine qs_xi hM (pa_p hS pl_1275 ts_1275) h8924 g8926 (fun v8925 h8925 => ?_)
        refine qs_ite (c_eq h8925 k_0) ?_ ?_
        · exact (qz_X4_isSurelyCalled_J58 hS hM ei1 ei2)
        · exact (qz_X4_isSurelyCalled_J54 hS hM ei1 ei2)
    · exact (qz_X4_isSurelyCalled_J54 hS hM ei1 ei2)
theorem qz_X4_isSurelyCalled_L2 (n : Nat) : ∀ {P : Nat → Nat} {S : zm_S} {M : qm} {i1 : Int32} {qi1 : Int} {i2 : Int32} {qi2 : Int} (hS : Sh L xs P S) (hM : qM P S = M) (ei1 : i1.toInt = qi1) (ei2 : i2.toInt = qi2), qs (zf_X4_isSurelyCalled_L2 20000 n 1172 i1 i2 S) (qf_X4_isSurelyCalled_L2 20000 n qi1 qi2 M) (tO (vs (rp L xs P M vi) (rp L xs P M vu))) := by
  induction n with
  | zero =>
    intros
    exact qs_none
  | succ n ih =>
    intro P S M i1 qi1 i2 qi2 hS hM ei1 ei2
    unfold qf_X4_isSurelyCalled_L2
    refine qs_loop (C := (qc_X4_isSurelyCalled_L2 L xs P M (zf_X4_isSurelyCalled_L2 20000 n))) (qz_X4_isSurelyCalled_L2_b n hS hM ei1 ei2) ?_
    rintro x s ⟨_, _, _, rfl, u0, u1, hS2, hM2⟩
    exact ih hS2 hM2 u0 u1
set_option maxRecDepth 20000 in
theorem qz_X4_isSurelyCalled {P : Nat → Nat} {S : zm_S} {M : qm} {i1 : Int32} {qi1 : Int} (hS : Sh L xs P S) (hM : qM P S = M) (ei1 : i1.toInt = qi1) : qs (zf_X4_isSurelyCalled 20000 1172 i1 S) (qf_X4_isSurelyCalled 20000 qi1 M) (tO (rp L xs P M vi)) := by
  unfold zf_X4_isSurelyCalled qf_X4_isSurelyCalled
  refine qs_lp (qz_X4_isSurelyCalled_L2 20000 hS hM ei1 k_0) ?_ ?_
  · intro v8928 S8928 w8928 h8928 hS8928 hM8928
    dsimp only
    exact qs_tp h8928 hS8928 hM8928
  · intro v8928 S8928 w8928 h8928 hS8928 hM8928
    dsimp only
    exact qs_tp (show vi _ _ from k_0) hS8928 hM8928
set_option maxRecDepth 20000 in
theorem qz_X4_isDue {P : Nat → Nat} {S : zm_S} {M : qm} {i1 : Int32} {qi1 : Int} {i2 : Int32} {qi2 : Int} (hS : Sh L xs P S) (hM : qM P S = M) (ei1 : i1.toInt = qi1) (ei2 : i2.toInt = qi2) : qs (zf_X4_isDue 20000 1172 i1 i2 S) (qf_X4_isDue 20000 qi1 qi2 M) (tO (rp L xs P M vi)) := by
  unfold zf_X4_isDue qf_X4_isDue
  refine qs_gr hS pl_1172 ts_1172 rfl ?_
  refine qs_gd (fun g8931 => ?_)
  refine qs_xi hM (pa_p hS pl_1273 ts_1273) ei1 g8931 (fun v8930 h8930 => ?_)
  refine qs_ite (c_eq h8930 k_0) ?_ ?_
  · refine qs_gr hS pl_1172 ts_1172 rfl ?_
    refine qs_gd (fun g8934 => ?_)
    refine qs_xi hM (pa_p hS pl_1271 ts_1271) ei1 g8934 (fun v8933 h8933 => ?_)
    refine qs_gr hS pl_1172 ts_1172 rfl ?_
    refine qs_gd (fun g8937 => ?_)
    refine qs_xt hS pl_1197 ts_1197 (Or.inl rfl) ei1 g8937 (fun b8936 r8936 => ?_)
    refine qs_yi (j := 3) hS hM qt_1197 tq_1197 r8936 k_3 (by decide) (fun v8938 h8938 => ?_)
    refine qs_ite (c_le (p_add h8933 h8938) ei2) ?_ ?_
    · exact qs_tp (show vi _ _ from k_1) hS hM
    · refine qs_zi hS pl_1172 ts_1172 ?_
      refine qs_bp (qz_X4_isSurelyCalled hS hM ei1) (fun v8940 S8940 w8940 h8940 hS8940 hM8940 => ?_)
      refine qs_ite (c_eq h8940 k_0) ?_ ?_
      · exact qs_tp (show vi _ _ from k_0) hS8940 hM8940
      · exact qs_tp (show vi _ _ from k_1) hS8940 hM8940
  · exact qs_tp (show vi _ _ from k_1) hS hM
set_option maxRecDepth 20000 in
theorem qz_X4_runAct_J106 {P : Nat → Nat} {S : zm_S} {M : qm} {i1 : Int32} {qi1 : Int} {i2 : Int32} {qi2 : Int} (hS : Sh L xs P S) (hM : qM P S = M) (ei1 : i1.toInt = qi1) (ei2 : i2.toInt = qi2) : qs (zf_X4_runAct_J106 20000 1172 i1 i2 S) (qf_X4_runAct_J106 20000 qi1 qi2 M) (tO (rr L xs P vu)) := by
  unfold zf_X4_runAct_J106 qf_X4_runAct_J106
  refine qs_gr hS pl_1172 ts_1172 rfl ?_
  refine qs_gd (fun g8943 => ?_)
  refine qs_xi hM (pa_p hS pl_1270 ts_1270) ei1 g8943 (fun v8942 h8942 => ?_)
  refine qs_ite (c_eq h8942 k_1) ?_ ?_
  · refine qs_zi hS pl_1172 ts_1172 ?_
    refine qs_bp (qz_X4_isDue hS hM ei1 ei2) (fun v8945 S8945 w8945 h8945 hS8945 hM8945 => ?_)
    refine qs_ite (c_eq h8945 k_0) ?_ ?_
    · exact qs_tr (show vu _ _ from trivial) hS8945 hM8945
    · refine qs_zi hS8945 pl_1172 ts_1172 ?_
      refine qs_b (qz_X4_setDone hS8945 hM8945 ei1 k_1 ei2) (fun v8947 S8947 w8947 M8947 h8947 hS8947 hM8947 => ?_)
      exact qs_tr (show vu _ _ from trivial) hS8947 hM8947
  · exact qs_tr (show vu _ _ from trivial) hS hM
set_option maxRecDepth 20000 in
theorem qz_X4_runAct_J74 {P : Nat → Nat} {S : zm_S} {M : qm} {i1 : Int32} {qi1 : Int} {i2 : Int32} {qi2 : Int} {i3 : Int32} {qi3 : Int} (hS : Sh L xs P S) (hM : qM P S = M) (ei1 : i1.toInt = qi1) (ei2 : i2.toInt = qi2) (ei3 : i3.toInt = qi3) : qs (zf_X4_runAct_J74 20000 1172 i1 i2 i3 S) (qf_X4_runAct_J74 20000 qi1 qi2 qi3 M) (tO (rr L xs P vu)) := by
  unfold zf_X4_runAct_J74 qf_X4_runAct_J74
  refine qs_gr hS pl_1172 ts_1172 rfl ?_
  refine qs_gd (fun g8950 => ?_)
  refine qs_xi hM (pa_p hS pl_1270 ts_1270) ei1 g8950 (fun v8949 h8949 => ?_)
  refine qs_ite (c_eq h8949 k_2) ?_ ?_
  · refine qs_ite (c_eq ei3 k_0) ?_ ?_
    · refine qs_gr hS pl_1172 ts_1172 rfl ?_
      refine qs_gd (fun g8953 => ?_)
      refine qs_xt hS pl_1197 ts_1197 (Or.inl rfl) ei1 g8953 (fun b8952 r8952 => ?_)
      refine qs_yi (j := 4) hS hM qt_1197 tq_1197 r8952 k_4 (by decide) (fun v8954 h8954 => ?_)
      refine qs_ite (c_eq h8954 k_0) ?_ ?_
      · refine qs_zi hS pl_1172 ts_1172 ?_
        refine qs_b (qz_X4_setDone hS hM ei1 k_0 ei2) (fun v8956 S8956 w8956 M8956 h8956 hS8956 hM8956 => ?_)
        exact (qz_X4_runAct_J106 hS8956 hM8956 ei1 ei2)
      · exact (qz_X4_runAct_J106 hS hM ei1 ei2)
    · exact (qz_X4_runAct_J106 hS hM ei1 ei2)
  · exact (qz_X4_runAct_J106 hS hM ei1 ei2)
set_option maxRecDepth 20000 in
theorem qz_X4_runAct_J50 {P : Nat → Nat} {S : zm_S} {M : qm} {i1 : Int32} {qi1 : Int} {i2 : Int32} {qi2 : Int} {i3 : Int32} {qi3 : Int} (hS : Sh L xs P S) (hM : qM P S = M) (ei1 : i1.toInt = qi1) (ei2 : i2.toInt = qi2) (ei3 : i3.toInt = qi3) : qs (zf_X4_runAct_J50 20000 1172 i1 i2 i3 S) (qf_X4_runAct_J50 20000 qi1 qi2 qi3 M) (tO (rr L xs P vu)) := by
  unfold zf_X4_runAct_J50 qf_X4_runAct_J50
  refine qs_gr hS pl_1172 ts_1172 rfl ?_
  refine qs_gd (fun g8959 => ?_)
  refine qs_xi hM (pa_p hS pl_1270 ts_1270) ei1 g8959 (fun v8958 h8958 => ?_)
  refine qs_ite (c_eq h8958 k_1) ?_ ?_
  · refine qs_ite (c_eq ei3 k_0) ?_ ?_
    · refine qs_gr hS pl_1172 ts_1172 rfl ?_
      refine qs_gd (fun g8962 => ?_)
      refine qs_si hS hM (pa_p hS pl_1270 ts_1270) ei1 g8962 k_0 (fun S8961 M8961 hS8961 hM8961 => ?_)
      exact (qz_X4_runAct_J106 hS8961 hM8961 ei1 ei2)
    · exact (qz_X4_runAct_J74 hS hM ei1 ei2 ei3)
  · exact (qz_X4_runAct_J74 hS hM ei1 ei2 ei3)
set_option maxRecDepth 20000 in
theorem qz_X4_runAct {P : Nat → Nat} {S : zm_S} {M : qm} {i1 : Int32} {qi1 : Int} {i2 : Int32} {qi2 : Int} (hS : Sh L xs P S) (hM : qM P S = M) (ei1 : i1.toInt = qi1) (ei2 : i2.toInt = qi2) : qs (zf_X4_runAct 20000 1172 i1 i2 S) (qf_X4_runAct 20000 qi1 qi2 M) (tO (rr L xs P vu)) := by
  unfold zf_X4_runAct qf_X4_runAct
  refine qs_zi hS pl_1172 ts_1172 ?_
  refine qs_bp (qz_X4_isCalled hS hM ei1) (fun v8964 S8964 w8964 h8964 hS8964 hM8964 => ?_)
  refine qs_gr hS8964 pl_1172 ts_1172 rfl ?_
  refine qs_gd (fun g8967 => ?_)
  refine qs_xi hM8964 (pa_p hS8964 pl_1270 ts_1270) ei1 g8967 (fun v8966 h8966 => ?_)
  refine qs_ite (c_eq h8966 k_0) ?_ ?_
  · refine qs_ite (c_eq h8964 k_0) ?_ ?_
    · exact (qz_X4_runAct_J50 hS8964 hM8964 ei1 ei2 h8964)
    · refine qs_gr hS8964 pl_1172 ts_1172 rfl ?_
      refine qs_gd (fun g8970 => ?_)
      refine qs_si hS8964 hM8964 (pa_p hS8964 pl_1270 ts_1270) ei1 g8970 k_1 (fun S8969 M8969 hS8969 hM8969 => ?_)
      refine qs_gr hS8969 pl_1172 ts_1172 rfl ?_
      refine qs_gd (fun g8973 => ?_)
      refine qs_si hS8969 hM8969 (pa_p hS8969 pl_1271 ts_1271) ei1 g8973 ei2 (fun S8972 M8972 hS8972 hM8972 => ?_)
      refine qs_gr hS8972 pl_1172 ts_1172 rfl ?_
      refine qs_gd (fun g8976 => ?_)
      refine qs_sz hS8972 hM8972 (pa_p hS8972 pl_1272 ts_1272) ei1 g8976 k_0 (by decide) (fun S8975 M8975 hS8975 hM8975 => ?_)
      refine qs_gr hS8975 pl_1172 ts_1172 rfl ?_
      refine qs_gd (fun g8979 => ?_)
      refine qs_sz hS8975 hM8975 (pa_p hS8975 pl_1273 ts_1273) ei1 g8979 k_0 (by decide) (fun S8978 M8978 hS8978 hM8978 => ?_)
      exact (qz_X4_runAct_J106 hS8978 hM8978 ei1 ei2)
  · exact (qz_X4_runAct_J50 hS8964 hM8964 ei1 ei2 h8964)
set_option maxRecDepth 20000 in
theorem qz_X4_runActs_L7_b (n : Nat) {P : Nat → Nat} {S : zm_S} {M : qm} {i1 : Int32} {qi1 : Int} {i2 : Int32} {qi2 : Int} (hS : Sh L xs P S) (hM : qM P S = M) (ei1 : i1.toInt = qi1) (ei2 : i2.toInt = qi2) : qs (zf_X4_runActs_L7 20000 (n + 1) 1172 i1 i2 S) (qf_X4_runActs_L7_b 20000 qi1 qi2 M) (tk (vs (rr L xs P vu) (rr L xs P vu)) (qc_X4_runActs_L7 L xs P (zf_X4_runActs_L7 20000 n))) := by
  refine qs_eq (zf_X4_runActs_L7.eq_2 ..) ?_
  unfold qf_X4_runActs_L7_b
  refine qs_gr hS pl_1172 ts_1172 rfl ?_
  refine qs_n (pa_p hS pl_1269 ts_1269) (by decide) (x := 20) (by decide) (fun v8981 h8981 => ?_)
  refine qs_ite (c_le h8981 ei2) ?_ ?_
  · exact qs_tr2 (show vu _ _ from trivial) hS hM
  · refine qs_gr hS pl_1172 ts_1172 rfl ?_
    refine qs_gd (fun g8984 => ?_)
    refine qs_xi hM (pa_p hS pl_1269 ts_1269) ei2 g8984 (fun v8983 h8983 => ?_)
    refine qs_zi hS pl_1172 ts_1172 ?_
    refine qs_bp (qz_X4_isAct hS hM h8983) (fun v8986 S8986 w8986 h8986 hS8986 hM8986 => ?_)
    refine qs_ite (c_eq h8986 k_0) ?_ ?_
    · exact qs_tk ⟨_, _, _, rfl, ei1, (p_add ei2 k_1), hS8986, hM8986⟩
    · refine qs_gr hS8986 pl_1172 ts_1172 rfl ?_
      refine qs_gd (fun g8989 => ?_)
      refine qs_xi hM8986 (pa_p hS8986 pl_1269 ts_1269) ei2 g8989 (fun v8988 h8988 => ?_)
      refine qs_zi hS8986 pl_1172 ts_1172 ?_
      refine qs_b (qz_X4_runAct hS8986 hM8986 h8988 ei1) (fun v8991 S8991 w8991 M8991 h8991 hS8991 hM8991 => ?_)
      exact qs_tk ⟨_, _, _, rfl, ei1, (p_add ei2 k_1), hS8991, hM8991⟩
theorem qz_X4_runActs_L7 (n : Nat) : ∀ {P : Nat → Nat} {S : zm_S} {M : qm} {i1 : Int32} {qi1 : Int} {i2 : Int32} {qi2 : Int} (hS : Sh L xs P S) (hM : qM P S = M) (ei1 : i1.toInt = qi1) (ei2 : i2.toInt = qi2), qs (zf_X4_runActs_L7 20000 n 1172 i1 i2 S) (qf_X4_runActs_L7 20000 n qi1 qi2 M) (tO (vs (rr L xs P vu) (rr L xs P vu))) := by
  induction n with
  | zero =>
    intros
    exact qs_none
  | succ n ih =>
    intro P S M i1 qi1 i2 qi2 hS hM ei1 ei2
    unfold qf_X4_runActs_L7
    refine qs_loop (C := (qc_X4_runActs_L7 L xs P (zf_X4_runActs_L7 20000 n))) (qz_X4_runActs_L7_b n hS hM ei1 ei2) ?_
    rintro x s ⟨_, _, _, rfl, u0, u1, hS2, hM2⟩
    exact ih hS2 hM2 u0 u1
set_option maxRecDepth 20000 in
theorem qz_X4_runActs {P : Nat → Nat} {S : zm_S} {M : qm} {i1 : Int32} {qi1 : Int} (hS : Sh L xs P S) (hM : qM P S = M) (ei1 : i1.toInt = qi1) : qs (zf_X4_runActs 20000 1172 i1 S) (qf_X4_runActs 20000 qi1 M) (tO (rr L xs P vu)) := by
  unfold zf_X4_runActs qf_X4_runActs
  refine qs_zi hS pl_1172 ts_1172 ?_
  refine qs_b (qz_X4_lookAtZones hS hM ei1) (fun v8993 S8993 w8993 M8993 h8993 hS8993 hM8993 => ?_)
  refine qs_lr (qz_X4_runActs_L7 20000 hS8993 hM8993 ei1 k_0) ?_ ?_
  · intro v8995 S8995 w8995 M8995 h8995 hS8995 hM8995
    dsimp only
    exact qs_tr h8995 hS8995 hM8995
  · intro v8995 S8995 w8995 M8995 h8995 hS8995 hM8995
    dsimp only
    exact qs_tr (show vu _ _ from trivial) hS8995 hM8995
set_option maxRecDepth 20000 in
theorem qz_X10_isFreeInside {P : Nat → Nat} {S : zm_S} {M : qm} {i1 : Int32} {qi1 : Int} (hS : Sh L xs P S) (hM : qM P S = M) (ei1 : i1.toInt = qi1) : qs (zf_X10_isFreeInside 20000 756 i1 S) (qf_X10_isFreeInside 20000 qi1 M) (tO (rp L xs P M vi)) := by
  unfold zf_X10_isFreeInside qf_X10_isFreeInside
  refine qs_zi hS pl_756 ts_756 ?_
  refine qs_bp (qz_X10_cellOf hS hM ei1) (fun v8997 S8997 w8997 h8997 hS8997 hM8997 => ?_)
  refine qs_ite (c_eq h8997 k_m1) ?_ ?_
  · exact qs_tp (show vi _ _ from k_0) hS8997 hM8997
  · refine qs_zi hS8997 pl_756 ts_756 ?_
    refine qs_bp (qz_X10_isCaught hS8997 hM8997 ei1) (fun v8999 S8999 w8999 h8999 hS8999 hM8999 => ?_)
    refine qs_ite (c_eq h8999 k_0) ?_ ?_
    · exact qs_tp (show vi _ _ from k_1) hS8999 hM8999
    · exact qs_tp (show vi _ _ from k_0) hS8999 hM8999
set_option maxRecDepth 20000 in
theorem qz_X10_countFreeInside_J26 {P : Nat → Nat} {S : zm_S} {M : qm} {i2 : Int32} {qi2 : Int} {t0 : Int32} {qt0 : Int} {t1 : Int32} {qt1 : Int} (hS : Sh L xs P S) (hM : qM P S = M) (ei2 : i2.toInt = qi2) (et0 : t0.toInt = qt0) (et1 : t1.toInt = qt1) {k : Nat → Int32 → Int32 → zm_S → Option ((Int32 × zm_S) ⊕ ((Int32) × zm_S))} : qs (zf_X10_countFreeInside_J26 20000 k 756 i2 t0 t1 S) (qf_X10_countFreeInside_J26 20000 qi2 qt0 qt1 M) (tk (vs (rp L xs P M vi) (rp L xs P M vi)) (qc_X10_countFreeInside_L4 L xs P M k)) := by
  unfold zf_X10_countFreeInside_J26 qf_X10_countFreeInside_J26
  exact qs_tk ⟨_, _, _, rfl, (p_add et0 et1), (p_add ei2 k_1), hS, hM⟩
set_option maxRecDepth 20000 in
theorem qz_X10_countFreeInside_L4_b (n : Nat) {P : Nat → Nat} {S : zm_S} {M : qm} {i1 : Int32} {qi1 : Int} {i2 : Int32} {qi2 : Int} (hS : Sh L xs P S) (hM : qM P S = M) (ei1 : i1.toInt = qi1) (ei2 : i2.toInt = qi2) : qs (zf_X10_countFreeInside_L4 20000 (n + 1) 756 i1 i2 S) (qf_X10_countFreeInside_L4_b 20000 qi1 qi2 M) (tk (vs (rp L xs P M vi) (rp L xs P M vi)) (qc_X10_countFreeInside_L4 L xs P M (zf_X10_countFreeInside_L4 20000 n))) := by
  refine qs_eq (zf_X10_countFreeInside_L4.eq_2 ..) ?_
  unfold qf_X10_countFreeInside_L4_b
  refine qs_gi hS hM pl_756 ts_756 (z := 7) rfl rfl (fun v9000 h9000 => ?_)
  refine qs_ite (c_le h9000 ei2) ?_ ?_
  · exact qs_tp2 (show vi _ _ from ei1) hS hM
  · refine qs_zi hS pl_756 ts_756 ?_
    refine qs_bp (qz_X10_isFreeInside hS hM ei2) (fun v9002 S9002 w9002 h9002 hS9002 hM9002 => ?_)
    refine qs_ite (c_eq h9002 k_0) ?_ ?_
    · exact (qz_X10_countFreeInside_J26 hS9002 hM9002 ei2 ei1 k_0)
    · exact (qz_X10_countFreeInside_J26 hS9002 hM9002 ei2 ei1 k_1)
theorem qz_X10_countFreeInside_L4 (n : Nat) : ∀ {P : Nat → Nat} {S : zm_S} {M : qm} {i1 : Int32} {qi1 : Int} {i2 : Int32} {qi2 : Int} (hS : Sh L xs P S) (hM : qM P S = M) (ei1 : i1.toInt = qi1) (ei2 : i2.toInt = qi2), qs (zf_X10_countFreeInside_L4 20000 n 756 i1 i2 S) (qf_X10_countFreeInside_L4 20000 n qi1 qi2 M) (tO (vs (rp L xs P M vi) (rp L xs P M vi))) := by
  induction n with
  | zero =>
    intros
    exact qs_none
  | succ n ih =>
    intro P S M i1 qi1 i2 qi2 hS hM ei1 ei2
    unfold qf_X10_countFreeInside_L4
    refine qs_loop (C := (qc_X10_countFreeInside_L4 L xs P M (zf_X10_countFreeInside_L4 20000 n))) (qz_X10_countFreeInside_L4_b n hS hM ei1 ei2) ?_
    rintro x s ⟨_, _, _, rfl, u0, u1, hS2, hM2⟩
    exact ih hS2 hM2 u0 u1
set_option maxRecDepth 20000 in
theorem qz_X10_countFreeInside {P : Nat → Nat} {S : zm_S} {M : qm}  (hS : Sh L xs P S) (hM : qM P S = M)  : qs (zf_X10_countFreeInside 20000 756 S) (qf_X10_countFreeInside 20000 M) (tO (rp L xs P M vi)) := by
  unfold zf_X10_countFreeInside qf_X10_countFreeInside
  refine qs_lp (qz_X10_countFreeInside_L4 20000 hS hM k_0 k_0) ?_ ?_
  · intro v9004 S9004 w9004 h9004 hS9004 hM9004
    dsimp only
    exact qs_tp h9004 hS9004 hM9004
  · intro v9004 S9004 w9004 h9004 hS9004 hM9004
    dsimp only
    exact qs_tp (show vi _ _ from h9004) hS9004 hM9004
set_option maxRecDepth 20000 in
theorem qz_X4_countDone_J29 {P : Nat → Nat} {S : zm_S} {M : qm} {i2 : Int32} {qi2 : Int} {t0 : Int32} {qt0 : Int} {t1 : Int32} {qt1 : Int} (hS : Sh L xs P S) (hM : qM P S = M) (ei2 : i2.toInt = qi2) (et0 : t0.toInt = qt0) (et1 : t1.toInt = qt1) {k : Nat → Int32 → Int32 → zm_S → Option ((Int32 × zm_S) ⊕ ((Int32) × zm_S))} : qs (zf_X4_countDone_J29 20000 k 1172 i2 t0 t1 S) (qf_X4_countDone_J29 20000 qi2 qt0 qt1 M) (tk (vs (rp L xs P M vi) (rp L xs P M vi)) (qc_X4_countDone_L4 L xs P M k)) := by
  unfold zf_X4_countDone_J29 qf_X4_countDone_J29
  exact qs_tk ⟨_, _, _, rfl, (p_add et0 et1), (p_add ei2 k_1), hS, hM⟩
set_option maxRecDepth 20000 in
theorem qz_X4_countDone_L4_b (n : Nat) {P : Nat → Nat} {S : zm_S} {M : qm} {i1 : Int32} {qi1 : Int} {i2 : Int32} {qi2 : Int} (hS : Sh L xs P S) (hM : qM P S = M) (ei1 : i1.toInt = qi1) (ei2 : i2.toInt = qi2) : qs (zf_X4_countDone_L4 20000 (n + 1) 1172 i1 i2 S) (qf_X4_countDone_L4_b 20000 qi1 qi2 M) (tk (vs (rp L xs P M vi) (rp L xs P M vi)) (qc_X4_countDone_L4 L xs P M (zf_X4_countDone_L4 20000 n))) := by
  refine qs_eq (zf_X4_countDone_L4.eq_2 ..) ?_
  unfold qf_X4_countDone_L4_b
  refine qs_gr hS pl_1172 ts_1172 rfl ?_
  refine qs_n (pa_p hS pl_1270 ts_1270) (by decide) (x := 20) (by decide) (fun v9006 h9006 => ?_)
  refine qs_ite (c_le h9006 ei2) ?_ ?_
  · exact qs_tp2 (show vi _ _ from ei1) hS hM
  · refine qs_gr hS pl_1172 ts_1172 rfl ?_
    refine qs_gd (fun g9009 => ?_)
    refine qs_xi hM (pa_p hS pl_1270 ts_1270) ei2 g9009 (fun v9008 h9008 => ?_)
    refine qs_ite (c_eq h9008 k_2) ?_ ?_
    · exact (qz_X4_countDone_J29 hS hM ei2 ei1 k_1)
    · exact (qz_X4_countDone_J29 hS hM ei2 ei1 k_0)
theorem qz_X4_countDone_L4 (n : Nat) : ∀ {P : Nat → Nat} {S : zm_S} {M : qm} {i1 : Int32} {qi1 : Int} {i2 : Int32} {qi2 : Int} (hS : Sh L xs P S) (hM : qM P S = M) (ei1 : i1.toInt = qi1) (ei2 : i2.toInt = qi2), qs (zf_X4_countDone_L4 20000 n 1172 i1 i2 S) (qf_X4_countDone_L4 20000 n qi1 qi2 M) (tO (vs (rp L xs P M vi) (rp L xs P M vi))) := by
  induction n with
  | zero =>
    intros
    exact qs_none
  | succ n ih =>
    intro P S M i1 qi1 i2 qi2 hS hM ei1 ei2
    unfold qf_X4_countDone_L4
    refine qs_loop (C := (qc_X4_countDone_L4 L xs P M (zf_X4_countDone_L4 20000 n))) (qz_X4_countDone_L4_b n hS hM ei1 ei2) ?_
    rintro x s ⟨_, _, _, rfl, u0, u1, hS2, hM2⟩
    exact ih hS2 hM2 u0 u1
set_option maxRecDepth 20000 in
theorem qz_X4_countDone {P : Nat → Nat} {S : zm_S} {M : qm}  (hS : Sh L xs P S) (hM : qM P S = M)  : qs (zf_X4_countDone 20000 1172 S) (qf_X4_countDone 20000 M) (tO (rp L xs P M vi)) := by
  unfold zf_X4_countDone qf_X4_countDone
  refine qs_lp (qz_X4_countDone_L4 20000 hS hM k_0 k_0) ?_ ?_
  · intro v9011 S9011 w9011 h9011 hS9011 hM9011
    dsimp only
    exact qs_tp h9011 hS9011 hM9011
  · intro v9011 S9011 w9011 h9011 hS9011 hM9011
    dsimp only
    exact qs_tp (show vi _ _ from h9011) hS9011 hM9011
set_option maxRecDepth 20000 in
theorem qz_X9_lacksInput_L2_b (n : Nat) {P : Nat → Nat} {S : zm_S} {M : qm} {i1 : Int32} {qi1 : Int} {i2 : Int32} {qi2 : Int} (hS : Sh L xs P S) (hM : qM P S = M) (ei1 : i1.toInt = qi1) (ei2 : i2.toInt = qi2) : qs (zf_X9_lacksInput_L2 20000 (n + 1) 1003 i1 i2 S) (qf_X9_lacksInput_L2_b 20000 qi1 qi2 M) (tk (vs (rp L xs P M vi) (rp L xs P M vu)) (qc_X9_lacksInput_L2 L xs P M (zf_X9_lacksInput_L2 20000 n))) := by
  refine qs_eq (zf_X9_lacksInput_L2.eq_2 ..) ?_
  unfold qf_X9_lacksInput_L2_b
  refine qs_gr hS pl_1003 ts_1003 rfl ?_
  refine qs_gd (fun g9014 => ?_)
  refine qs_xi hM (pa_p hS pl_1004 ts_1004) ei1 g9014 (fun v9013 h9013 => ?_)
  refine qs_gd (fun g9016 => ?_)
  refine qs_c5 hS h9013 g9016 (fun v9015 h9015 => ?_)
  refine qs_ite (c_le h9015 ei2) ?_ ?_
  · exact qs_tp2 (show vu _ _ from trivial) hS hM
  · refine qs_gr hS pl_1003 ts_1003 rfl ?_
    refine qs_gd (fun g9019 => ?_)
    refine qs_xt hS pl_1008 ts_1008 (Or.inl rfl) ei1 g9019 (fun b9018 r9018 => ?_)
    refine qs_gd (fun g9021 => ?_)
    refine qs_yi hS hM qt_1008 tq_1008 r9018 ei2 g9021 (fun v9020 h9020 => ?_)
    refine qs_ite (c_eq h9020 k_m1) ?_ ?_
    · exact qs_tp1 (show vi _ _ from k_1) hS hM
    · exact qs_tk ⟨_, _, _, rfl, ei1, (p_add ei2 k_1), hS, hM⟩
theorem qz_X9_lacksInput_L2 (n : Nat) : ∀ {P : Nat → Nat} {S : zm_S} {M : qm} {i1 : Int32} {qi1 : Int} {i2 : Int32} {qi2 : Int} (hS : Sh L xs P S) (hM : qM P S = M) (ei1 : i1.toInt = qi1) (ei2 : i2.toInt = qi2), qs (zf_X9_lacksInput_L2 20000 n 1003 i1 i2 S) (qf_X9_lacksInput_L2 20000 n qi1 qi2 M) (tO (vs (rp L xs P M vi) (rp L xs P M vu))) := by
  induction n with
  | zero =>
    intros
    exact qs_none
  | succ n ih =>
    intro P S M i1 qi1 i2 qi2 hS hM ei1 ei2
    unfold qf_X9_lacksInput_L2
    refine qs_loop (C := (qc_X9_lacksInput_L2 L xs P M (zf_X9_lacksInput_L2 20000 n))) (qz_X9_lacksInput_L2_b n hS hM ei1 ei2) ?_
    rintro x s ⟨_, _, _, rfl, u0, u1, hS2, hM2⟩
    exact ih hS2 hM2 u0 u1
set_option maxRecDepth 20000 in
theorem qz_X9_lacksInput {P : Nat → Nat} {S : zm_S} {M : qm} {i1 : Int32} {qi1 : Int} (hS : Sh L xs P S) (hM : qM P S = M) (ei1 : i1.toInt = qi1) : qs (zf_X9_lacksInput 20000 1003 i1 S) (qf_X9_lacksInput 20000 qi1 M) (tO (rp L xs P M vi)) := by
  unfold zf_X9_lacksInput qf_X9_lacksInput
  refine qs_lp (qz_X9_lacksInput_L2 20000 hS hM ei1 k_0) ?_ ?_
  · intro v9023 S9023 w9023 h9023 hS9023 hM9023
    dsimp only
    exact qs_tp h9023 hS9023 hM9023
  · intro v9023 S9023 w9023 h9023 hS9023 hM9023
    dsimp only
    exact qs_tp (show vi _ _ from k_0) hS9023 hM9023
set_option maxRecDepth 20000 in
theorem qz_X9_inputOf {P : Nat → Nat} {S : zm_S} {M : qm} {i1 : Int32} {qi1 : Int} {i2 : Int32} {qi2 : Int} (hS : Sh L xs P S) (hM : qM P S = M) (ei1 : i1.toInt = qi1) (ei2 : i2.toInt = qi2) : qs (zf_X9_inputOf 20000 1003 i1 i2 S) (qf_X9_inputOf 20000 qi1 qi2 M) (tO (rp L xs P M vi)) := by
  unfold zf_X9_inputOf qf_X9_inputOf
  refine qs_gr hS pl_1003 ts_1003 rfl ?_
  refine qs_gd (fun g9026 => ?_)
  refine qs_xt hS pl_1008 ts_1008 (Or.inl rfl) ei1 g9026 (fun b9025 r9025 => ?_)
  refine qs_gd (fun g9028 => ?_)
  refine qs_yi hS hM qt_1008 tq_1008 r9025 ei2 g9028 (fun v9027 h9027 => ?_)
  refine qs_ite (c_eq h9027 k_m1) ?_ ?_
  · exact qs_tp (show vi _ _ from k_0) hS hM
  · refine qs_gr hS pl_1003 ts_1003 rfl ?_
    refine qs_gd (fun g9031 => ?_)
    refine qs_xi hM (pa_p hS pl_1049 ts_1049) h9027 g9031 (fun v9030 h9030 => ?_)
    exact qs_tp (show vi _ _ from h9030) hS hM
set_option maxRecDepth 20000 in
theorem qz_X9_fail {P : Nat → Nat} {S : zm_S} {M : qm} {i1 : Int32} {qi1 : Int} (hS : Sh L xs P S) (hM : qM P S = M) (ei1 : i1.toInt = qi1) : qs (zf_X9_fail 20000 1003 i1 S) (qf_X9_fail 20000 qi1 M) (tO (rr L xs P vi)) := by
  unfold zf_X9_fail qf_X9_fail
  refine qs_pi hS hM pl_1003 ts_1003 (z := 19) rfl rfl ei1 (fun S9032 M9032 hS9032 hM9032 => ?_)
  exact qs_tr (show vi _ _ from k_0) hS9032 hM9032
set_option maxRecDepth 20000 in
theorem qz_X9_reckon_J113 {P : Nat → Nat} {S : zm_S} {M : qm}  (hS : Sh L xs P S) (hM : qM P S = M)  : qs (zf_X9_reckon_J113 20000 1003 S) (qf_X9_reckon_J113 20000 M) (tO (rr L xs P vi)) := by
  unfold zf_X9_reckon_J113 qf_X9_reckon_J113
  refine qs_zi hS pl_1003 ts_1003 ?_
  refine qs_b (qz_X9_fail hS hM k_2) (fun v9034 S9034 w9034 M9034 h9034 hS9034 hM9034 => ?_)
  exact qs_tr (show vi _ _ from h9034) hS9034 hM9034
set_option maxRecDepth 20000 in
theorem qz_X9_reckon_J149 {P : Nat → Nat} {S : zm_S} {M : qm}  (hS : Sh L xs P S) (hM : qM P S = M)  : qs (zf_X9_reckon_J149 20000 1003 S) (qf_X9_reckon_J149 20000 M) (tO (rr L xs P vi)) := by
  unfold zf_X9_reckon_J149 qf_X9_reckon_J149
  refine qs_zi hS pl_1003 ts_1003 ?_
  refine qs_b (qz_X9_fail hS hM k_2) (fun v9036 S9036 w9036 M9036 h9036 hS9036 hM9036 => ?_)
  exact qs_tr (show vi _ _ from h9036) hS9036 hM9036
set_option maxRecDepth 20000 in
theorem qz_X9_reckonKept_J116 {P : Nat → Nat} {S : zm_S} {M : qm} {i1 : Int32} {qi1 : Int} (hS : Sh L xs P S) (hM : qM P S = M) (ei1 : i1.toInt = qi1) : qs (zf_X9_reckonKept_J116 20000 1003 i1 S) (qf_X9_reckonKept_J116 20000 qi1 M) (tO (rr L xs P vi)) := by
  unfold zf_X9_reckonKept_J116 qf_X9_reckonKept_J116
  refine qs_gr hS pl_1003 ts_1003 rfl ?_
  refine qs_gd (fun g9039 => ?_)
  refine qs_xi hM (pa_p hS pl_1005 ts_1005) ei1 g9039 (fun v9038 h9038 => ?_)
  exact qs_tr (show vi _ _ from h9038) hS hM
set_option maxRecDepth 20000 in
theorem qz_X9_since_J13 {P : Nat → Nat} {S : zm_S} {M : qm} {a0 : Nat} {qa0 : Int} {i2 : Int32} {qi2 : Int} {t0 : Int32} {qt0 : Int} (hS : Sh L xs P S) (hM : qM P S = M) (ra0 : pr a0 1051 40 qa0) (ei2 : i2.toInt = qi2) (et0 : t0.toInt = qt0) : qs (zf_X9_since_J13 20000 a0 i2 t0 S) (qf_X9_since_J13 20000 qa0 qi2 qt0 M) (tO (rr L xs P vi)) := by
  unfold zf_X9_since_J13 qf_X9_since_J13
  refine qs_ysi hS hM qt_1050 tq_1050 ra0 k_0 (by decide) (p_min et0 ei2) (fun S9040 M9040 hS9040 hM9040 => ?_)
  refine qs_yi (j := 0) hS9040 hM9040 qt_1050 tq_1050 ra0 k_0 (by decide) (fun v9041 h9041 => ?_)
  exact qs_tr (show vi _ _ from h9041) hS9040 hM9040
set_option maxRecDepth 20000 in
theorem qz_X9_since {P : Nat → Nat} {S : zm_S} {M : qm} {a0 : Nat} {qa0 : Int} {i1 : Int32} {qi1 : Int} {i2 : Int32} {qi2 : Int} (hS : Sh L xs P S) (hM : qM P S = M) (ra0 : pr a0 1051 40 qa0) (ei1 : i1.toInt = qi1) (ei2 : i2.toInt = qi2) : qs (zf_X9_since 20000 a0 i1 i2 S) (qf_X9_since 20000 qa0 qi1 qi2 M) (tO (rr L xs P vi)) := by
  unfold zf_X9_since qf_X9_since
  refine qs_ite (c_eq ei1 k_0) ?_ ?_
  · exact (qz_X9_since_J13 hS hM ra0 ei2 k_0)
  · refine qs_yi (j := 0) hS hM qt_1050 tq_1050 ra0 k_0 (by decide) (fun v9042 h9042 => ?_)
    exact (qz_X9_since_J13 hS hM ra0 ei2 (p_add h9042 k_1))
set_option maxRecDepth 20000 in
theorem qz_X9_reckonKept_J274 {P : Nat → Nat} {S : zm_S} {M : qm} {i1 : Int32} {qi1 : Int} {i2 : Int32} {qi2 : Int} (hS : Sh L xs P S) (hM : qM P S = M) (ei1 : i1.toInt = qi1) (ei2 : i2.toInt = qi2) : qs (zf_X9_reckonKept_J274 20000 1003 i1 i2 S) (qf_X9_reckonKept_J274 20000 qi1 qi2 M) (tO (rr L xs P vi)) := by
  unfold zf_X9_reckonKept_J274 qf_X9_reckonKept_J274
  refine qs_gr hS pl_1003 ts_1003 rfl ?_
  refine qs_gd (fun g9045 => ?_)
  refine qs_xt hS pl_1050 ts_1050 (Or.inl rfl) ei1 g9045 (fun b9044 r9044 => ?_)
  refine qs_gr hS pl_1003 ts_1003 rfl ?_
  refine qs_gd (fun g9048 => ?_)
  refine qs_xi hM (pa_p hS pl_1005 ts_1005) ei1 g9048 (fun v9047 h9047 => ?_)
  refine qs_b (qz_X9_since hS hM r9044 ei2 h9047) (fun v9049 S9049 w9049 M9049 h9049 hS9049 hM9049 => ?_)
  exact qs_tr (show vi _ _ from h9049) hS9049 hM9049
set_option maxRecDepth 20000 in
theorem qz_X9_ramp_J31 {P : Nat → Nat} {S : zm_S} {M : qm} {i0 : Int32} {qi0 : Int} {j3 : Int64} {qj3 : Int} {j5 : Int64} {qj5 : Int} (hS : Sh L xs P S) (hM : qM P S = M) (ei0 : i0.toInt = qi0) (ej3 : j3.toInt = qj3) (ej5 : j5.toInt = qj5) : qs (zf_X9_ramp_J31 20000 i0 j3 j5 S) (qf_X9_ramp_J31 20000 qi0 qj3 qj5 M) (tO (rp L xs P M vi)) := by
  unfold zf_X9_ramp_J31 qf_X9_ramp_J31
  refine qs_ite (g_le ej5 kl_0) ?_ ?_
  · exact qs_tp (show vi _ _ from (p_32 (pl_sub (p_64 ei0) ej3))) hS hM
  · exact qs_tp (show vi _ _ from (p_32 (pl_add (p_64 ei0) ej3))) hS hM
set_option maxRecDepth 20000 in
theorem qz_X9_ramp {P : Nat → Nat} {S : zm_S} {M : qm} {i0 : Int32} {qi0 : Int} {i1 : Int32} {qi1 : Int} {i2 : Int32} {qi2 : Int} (hS : Sh L xs P S) (hM : qM P S = M) (ei0 : i0.toInt = qi0) (ei1 : i1.toInt = qi1) (ei2 : i2.toInt = qi2) : qs (zf_X9_ramp 20000 i0 i1 i2 S) (qf_X9_ramp 20000 qi0 qi1 qi2 M) (tO (rp L xs P M vi)) := by
  unfold zf_X9_ramp qf_X9_ramp
  refine qs_ite (g0_lt (pl_sub (p_64 ei1) (p_64 ei0)) (p_64 (p_max ei2 k_0))) ?_ ?_
  · exact (qz_X9_ramp_J31 hS hM ei0 (p_64 (p_max ei2 k_0)) (pl_sub (p_64 ei1) (p_64 ei0)))
  · refine qs_ite (g_lt (pl_sub (p_64 ei1) (p_64 ei0)) (pl_neg (p_64 (p_max ei2 k_0)))) ?_ ?_
    · exact (qz_X9_ramp_J31 hS hM ei0 (p_64 (p_max ei2 k_0)) (pl_sub (p_64 ei1) (p_64 ei0)))
    · exact qs_tp (show vi _ _ from ei1) hS hM
set_option maxRecDepth 20000 in
theorem qz_X9_reckonKept_J123 {P : Nat → Nat} {S : zm_S} {M : qm} {i1 : Int32} {qi1 : Int} {i2 : Int32} {qi2 : Int} (hS : Sh L xs P S) (hM : qM P S = M) (ei1 : i1.toInt = qi1) (ei2 : i2.toInt = qi2) : qs (zf_X9_reckonKept_J123 20000 1003 i1 i2 S) (qf_X9_reckonKept_J123 20000 qi1 qi2 M) (tO (rr L xs P vi)) := by
  unfold zf_X9_reckonKept_J123 qf_X9_reckonKept_J123
  refine qs_gr hS pl_1003 ts_1003 rfl ?_
  refine qs_gd (fun g9052 => ?_)
  refine qs_xi hM (pa_p hS pl_1049 ts_1049) ei1 g9052 (fun v9051 h9051 => ?_)
  refine qs_gr hS pl_1003 ts_1003 rfl ?_
  refine qs_gd (fun g9055 => ?_)
  refine qs_xi hM (pa_p hS pl_1005 ts_1005) ei1 g9055 (fun v9054 h9054 => ?_)
  refine qs_bp (qz_X9_ramp hS hM h9051 ei2 h9054) (fun v9056 S9056 w9056 h9056 hS9056 hM9056 => ?_)
  exact qs_tr (show vi _ _ from h9056) hS9056 hM9056
set_option maxRecDepth 20000 in
theorem qz_X9_countUp_J28 {P : Nat → Nat} {S : zm_S} {M : qm} {a0 : Nat} {qa0 : Int} {i1 : Int32} {qi1 : Int} (hS : Sh L xs P S) (hM : qM P S = M) (ra0 : pr a0 1051 40 qa0) (ei1 : i1.toInt = qi1) : qs (zf_X9_countUp_J28 20000 a0 i1 S) (qf_X9_countUp_J28 20000 qa0 qi1 M) (tO (rr L xs P vi)) := by
  unfold zf_X9_countUp_J28 qf_X9_countUp_J28
  refine qs_ysi hS hM qt_1050 tq_1050 ra0 k_1 (by decide) ei1 (fun S9057 M9057 hS9057 hM9057 => ?_)
  refine qs_yi (j := 0) hS9057 hM9057 qt_1050 tq_1050 ra0 k_0 (by decide) (fun v9058 h9058 => ?_)
  exact qs_tr (show vi _ _ from h9058) hS9057 hM9057
set_option maxRecDepth 20000 in
theorem qz_X9_countUp {P : Nat → Nat} {S : zm_S} {M : qm} {a0 : Nat} {qa0 : Int} {i1 : Int32} {qi1 : Int} {i2 : Int32} {qi2 : Int} (hS : Sh L xs P S) (hM : qM P S = M) (ra0 : pr a0 1051 40 qa0) (ei1 : i1.toInt = qi1) (ei2 : i2.toInt = qi2) : qs (zf_X9_countUp 20000 a0 i1 i2 S) (qf_X9_countUp 20000 qa0 qi1 qi2 M) (tO (rr L xs P vi)) := by
  unfold zf_X9_countUp qf_X9_countUp
  refine qs_ite (c_eq ei2 k_0) ?_ ?_
  · refine qs_ite (c_eq ei1 k_0) ?_ ?_
    · exact (qz_X9_countUp_J28 hS hM ra0 ei1)
    · refine qs_yi (j := 1) hS hM qt_1050 tq_1050 ra0 k_1 (by decide) (fun v9059 h9059 => ?_)
      refine qs_ite (c_eq h9059 k_0) ?_ ?_
      · refine qs_yi (j := 0) hS hM qt_1050 tq_1050 ra0 k_0 (by decide) (fun v9060 h9060 => ?_)
        refine qs_ysi hS hM qt_1050 tq_1050 ra0 k_0 (by decide) (p_add h9060 k_1) (fun S9061 M9061 hS9061 hM9061 => ?_)
        exact (qz_X9_countUp_J28 hS9061 hM9061 ra0 ei1)
      · exact (qz_X9_countUp_J28 hS hM ra0 ei1)
  · refine qs_ysi hS hM qt_1050 tq_1050 ra0 k_0 (by decide) k_0 (fun S9062 M9062 hS9062 hM9062 => ?_)
    exact (qz_X9_countUp_J28 hS9062 hM9062 ra0 ei1)
set_option maxRecDepth 20000 in
theorem qz_X9_reckonKept_J140 {P : Nat → Nat} {S : zm_S} {M : qm} {i1 : Int32} {qi1 : Int} {i2 : Int32} {qi2 : Int} {i3 : Int32} {qi3 : Int} (hS : Sh L xs P S) (hM : qM P S = M) (ei1 : i1.toInt = qi1) (ei2 : i2.toInt = qi2) (ei3 : i3.toInt = qi3) : qs (zf_X9_reckonKept_J140 20000 1003 i1 i2 i3 S) (qf_X9_reckonKept_J140 20000 qi1 qi2 qi3 M) (tO (rr L xs P vi)) := by
  unfold zf_X9_reckonKept_J140 qf_X9_reckonKept_J140
  refine qs_gr hS pl_1003 ts_1003 rfl ?_
  refine qs_gd (fun g9065 => ?_)
  refine qs_xt hS pl_1050 ts_1050 (Or.inl rfl) ei1 g9065 (fun b9064 r9064 => ?_)
  refine qs_b (qz_X9_countUp hS hM r9064 ei2 ei3) (fun v9066 S9066 w9066 M9066 h9066 hS9066 hM9066 => ?_)
  exact qs_tr (show vi _ _ from h9066) hS9066 hM9066
set_option maxRecDepth 20000 in
theorem qz_X9_latch_J19 {P : Nat → Nat} {S : zm_S} {M : qm} {a0 : Nat} {qa0 : Int} (hS : Sh L xs P S) (hM : qM P S = M) (ra0 : pr a0 1051 40 qa0) : qs (zf_X9_latch_J19 20000 a0 S) (qf_X9_latch_J19 20000 qa0 M) (tO (rr L xs P vi)) := by
  unfold zf_X9_latch_J19 qf_X9_latch_J19
  refine qs_yi (j := 0) hS hM qt_1050 tq_1050 ra0 k_0 (by decide) (fun v9067 h9067 => ?_)
  exact qs_tr (show vi _ _ from h9067) hS hM
set_option maxRecDepth 20000 in
theorem qz_X9_latch {P : Nat → Nat} {S : zm_S} {M : qm} {a0 : Nat} {qa0 : Int} {i1 : Int32} {qi1 : Int} {i2 : Int32} {qi2 : Int} (hS : Sh L xs P S) (hM : qM P S = M) (ra0 : pr a0 1051 40 qa0) (ei1 : i1.toInt = qi1) (ei2 : i2.toInt = qi2) : qs (zf_X9_latch 20000 a0 i1 i2 S) (qf_X9_latch 20000 qa0 qi1 qi2 M) (tO (rr L xs P vi)) := by
  unfold zf_X9_latch qf_X9_latch
  refine qs_ite (c_eq ei1 k_0) ?_ ?_
  · refine qs_ite (c_eq ei2 k_0) ?_ ?_
    · exact (qz_X9_latch_J19 hS hM ra0)
    · refine qs_ysi hS hM qt_1050 tq_1050 ra0 k_0 (by decide) k_0 (fun S9068 M9068 hS9068 hM9068 => ?_)
      exact (qz_X9_latch_J19 hS9068 hM9068 ra0)
  · refine qs_ysi hS hM qt_1050 tq_1050 ra0 k_0 (by decide) k_1 (fun S9069 M9069 hS9069 hM9069 => ?_)
    exact (qz_X9_latch_J19 hS9069 hM9069 ra0)
set_option maxRecDepth 20000 in
theorem qz_X9_reckonKept_J152 {P : Nat → Nat} {S : zm_S} {M : qm} {i1 : Int32} {qi1 : Int} {i2 : Int32} {qi2 : Int} {i3 : Int32} {qi3 : Int} (hS : Sh L xs P S) (hM : qM P S = M) (ei1 : i1.toInt = qi1) (ei2 : i2.toInt = qi2) (ei3 : i3.toInt = qi3) : qs (zf_X9_reckonKept_J152 20000 1003 i1 i2 i3 S) (qf_X9_reckonKept_J152 20000 qi1 qi2 qi3 M) (tO (rr L xs P vi)) := by
  unfold zf_X9_reckonKept_J152 qf_X9_reckonKept_J152
  refine qs_gr hS pl_1003 ts_1003 rfl ?_
  refine qs_gd (fun g9072 => ?_)
  refine qs_xt hS pl_1050 ts_1050 (Or.inl rfl) ei1 g9072 (fun b9071 r9071 => ?_)
  refine qs_b (qz_X9_latch hS hM r9071 ei2 ei3) (fun v9073 S9073 w9073 M9073 h9073 hS9073 hM9073 => ?_)
  exact qs_tr (show vi _ _ from h9073) hS9073 hM9073
set_option maxRecDepth 20000 in
theorem qz_X9_isInSpan {P : Nat → Nat} {S : zm_S} {M : qm} {i0 : Int32} {qi0 : Int} {i1 : Int32} {qi1 : Int} {i2 : Int32} {qi2 : Int} (hS : Sh L xs P S) (hM : qM P S = M) (ei0 : i0.toInt = qi0) (ei1 : i1.toInt = qi1) (ei2 : i2.toInt = qi2) : qs (zf_X9_isInSpan 20000 i0 i1 i2 S) (qf_X9_isInSpan 20000 qi0 qi1 qi2 M) (tO (rp L xs P M vi)) := by
  unfold zf_X9_isInSpan qf_X9_isInSpan
  refine qs_ite (c_lt ei2 ei1) ?_ ?_
  · refine qs_ite (c_le ei1 ei0) ?_ ?_
    · exact qs_tp (show vi _ _ from k_1) hS hM
    · refine qs_ite (c_le ei2 ei0) ?_ ?_
      · exact qs_tp (show vi _ _ from k_0) hS hM
      · exact qs_tp (show vi _ _ from k_1) hS hM
  · refine qs_ite (c_lt ei0 ei1) ?_ ?_
    · exact qs_tp (show vi _ _ from k_0) hS hM
    · refine qs_ite (c_le ei2 ei0) ?_ ?_
      · exact qs_tp (show vi _ _ from k_0) hS hM
      · exact qs_tp (show vi _ _ from k_1) hS hM
set_option maxRecDepth 20000 in
theorem qz_X9_reckonKept_J164 {P : Nat → Nat} {S : zm_S} {M : qm} {i1 : Int32} {qi1 : Int} {i4 : Int32} {qi4 : Int} (hS : Sh L xs P S) (hM : qM P S = M) (ei1 : i1.toInt = qi1) (ei4 : i4.toInt = qi4) : qs (zf_X9_reckonKept_J164 20000 1003 i1 i4 S) (qf_X9_reckonKept_J164 20000 qi1 qi4 M) (tO (rr L xs P vi)) := by
  unfold zf_X9_reckonKept_J164 qf_X9_reckonKept_J164
  refine qs_gr hS pl_1003 ts_1003 rfl ?_
  refine qs_gd (fun g9076 => ?_)
  refine qs_xi hM (pa_p hS pl_1005 ts_1005) ei1 g9076 (fun v9075 h9075 => ?_)
  refine qs_gr hS pl_1003 ts_1003 rfl ?_
  refine qs_gd (fun g9079 => ?_)
  refine qs_xi hM (pa_p hS pl_1006 ts_1006) ei1 g9079 (fun v9078 h9078 => ?_)
  refine qs_bp (qz_X9_isInSpan hS hM ei4 h9075 h9078) (fun v9080 S9080 w9080 h9080 hS9080 hM9080 => ?_)
  refine qs_ite (c_eq h9080 k_0) ?_ ?_
  · exact qs_tr (show vi _ _ from k_0) hS9080 hM9080
  · exact qs_tr (show vi _ _ from k_1) hS9080 hM9080
set_option maxRecDepth 20000 in
theorem qz_X9_pulse_J14 {P : Nat → Nat} {S : zm_S} {M : qm} {a0 : Nat} {qa0 : Int} {i1 : Int32} {qi1 : Int} (hS : Sh L xs P S) (hM : qM P S = M) (ra0 : pr a0 1051 40 qa0) (ei1 : i1.toInt = qi1) : qs (zf_X9_pulse_J14 20000 a0 i1 S) (qf_X9_pulse_J14 20000 qa0 qi1 M) (tO (rr L xs P vi)) := by
  unfold zf_X9_pulse_J14 qf_X9_pulse_J14
  refine qs_ysi hS hM qt_1050 tq_1050 ra0 k_1 (by decide) ei1 (fun S9081 M9081 hS9081 hM9081 => ?_)
  refine qs_yi (j := 0) hS9081 hM9081 qt_1050 tq_1050 ra0 k_0 (by decide) (fun v9082 h9082 => ?_)
  refine qs_ite (c_le h9082 k_0) ?_ ?_
  · exact qs_tr (show vi _ _ from k_0) hS9081 hM9081
  · refine qs_yi (j := 0) hS9081 hM9081 qt_1050 tq_1050 ra0 k_0 (by decide) (fun v9083 h9083 => ?_)
    refine qs_ysi hS9081 hM9081 qt_1050 tq_1050 ra0 k_0 (by decide) (p_sub h9083 k_1) (fun S9084 M9084 hS9084 hM9084 => ?_)
    exact qs_tr (show vi _ _ from k_1) hS9084 hM9084
set_option maxRecDepth 20000 in
theorem qz_X9_pulse {P : Nat → Nat} {S : zm_S} {M : qm} {a0 : Nat} {qa0 : Int} {i1 : Int32} {qi1 : Int} {i2 : Int32} {qi2 : Int} (hS : Sh L xs P S) (hM : qM P S = M) (ra0 : pr a0 1051 40 qa0) (ei1 : i1.toInt = qi1) (ei2 : i2.toInt = qi2) : qs (zf_X9_pulse 20000 a0 i1 i2 S) (qf_X9_pulse 20000 qa0 qi1 qi2 M) (tO (rr L xs P vi)) := by
  unfold zf_X9_pulse qf_X9_pulse
  refine qs_ite (c_eq ei1 k_0) ?_ ?_
  · exact (qz_X9_pulse_J14 hS hM ra0 ei1)
  · refine qs_yi (j := 1) hS hM qt_1050 tq_1050 ra0 k_1 (by decide) (fun v9085 h9085 => ?_)
    refine qs_ite (c_eq h9085 k_0) ?_ ?_
    · refine qs_ysi hS hM qt_1050 tq_1050 ra0 k_0 (by decide) ei2 (fun S9086 M9086 hS9086 hM9086 => ?_)
      exact (qz_X9_pulse_J14 hS9086 hM9086 ra0 ei1)
    · exact (qz_X9_pulse_J14 hS hM ra0 ei1)
set_option maxRecDepth 20000 in
theorem qz_X9_reckonKept_J190 {P : Nat → Nat} {S : zm_S} {M : qm} {i1 : Int32} {qi1 : Int} {i2 : Int32} {qi2 : Int} (hS : Sh L xs P S) (hM : qM P S = M) (ei1 : i1.toInt = qi1) (ei2 : i2.toInt = qi2) : qs (zf_X9_reckonKept_J190 20000 1003 i1 i2 S) (qf_X9_reckonKept_J190 20000 qi1 qi2 M) (tO (rr L xs P vi)) := by
  unfold zf_X9_reckonKept_J190 qf_X9_reckonKept_J190
  refine qs_gr hS pl_1003 ts_1003 rfl ?_
  refine qs_gd (fun g9089 => ?_)
  refine qs_xt hS pl_1050 ts_1050 (Or.inl rfl) ei1 g9089 (fun b9088 r9088 => ?_)
  refine qs_gr hS pl_1003 ts_1003 rfl ?_
  refine qs_gd (fun g9092 => ?_)
  refine qs_xi hM (pa_p hS pl_1005 ts_1005) ei1 g9092 (fun v9091 h9091 => ?_)
  refine qs_b (qz_X9_pulse hS hM r9088 ei2 h9091) (fun v9093 S9093 w9093 M9093 h9093 hS9093 hM9093 => ?_)
  exact qs_tr (show vi _ _ from h9093) hS9093 hM9093
set_option maxRecDepth 20000 in
theorem qz_X9_limit {P : Nat → Nat} {S : zm_S} {M : qm} {i0 : Int32} {qi0 : Int} {i1 : Int32} {qi1 : Int} {i2 : Int32} {qi2 : Int} (hS : Sh L xs P S) (hM : qM P S = M) (ei0 : i0.toInt = qi0) (ei1 : i1.toInt = qi1) (ei2 : i2.toInt = qi2) : qs (zf_X9_limit 20000 i0 i1 i2 S) (qf_X9_limit 20000 qi0 qi1 qi2 M) (tO (rp L xs P M vi)) := by
  unfold zf_X9_limit qf_X9_limit
  refine qs_ite (c_le ei1 ei0) ?_ ?_
  · refine qs_ite (c_le ei0 ei2) ?_ ?_
    · exact qs_tp (show vi _ _ from ei0) hS hM
    · exact qs_tp (show vi _ _ from ei2) hS hM
  · exact qs_tp (show vi _ _ from ei1) hS hM
set_option maxRecDepth 20000 in
theorem qz_X9_reckonKept_J207 {P : Nat → Nat} {S : zm_S} {M : qm} {i1 : Int32} {qi1 : Int} {i2 : Int32} {qi2 : Int} (hS : Sh L xs P S) (hM : qM P S = M) (ei1 : i1.toInt = qi1) (ei2 : i2.toInt = qi2) : qs (zf_X9_reckonKept_J207 20000 1003 i1 i2 S) (qf_X9_reckonKept_J207 20000 qi1 qi2 M) (tO (rr L xs P vi)) := by
  unfold zf_X9_reckonKept_J207 qf_X9_reckonKept_J207
  refine qs_gr hS pl_1003 ts_1003 rfl ?_
  refine qs_gd (fun g9096 => ?_)
  refine qs_xi hM (pa_p hS pl_1005 ts_1005) ei1 g9096 (fun v9095 h9095 => ?_)
  refine qs_gr hS pl_1003 ts_1003 rfl ?_
  refine qs_gd (fun g9099 => ?_)
  refine qs_xi hM (pa_p hS pl_1006 ts_1006) ei1 g9099 (fun v9098 h9098 => ?_)
  refine qs_bp (qz_X9_limit hS hM ei2 h9095 h9098) (fun v9100 S9100 w9100 h9100 hS9100 hM9100 => ?_)
  exact qs_tr (show vi _ _ from h9100) hS9100 hM9100
set_option maxRecDepth 20000 in
theorem qz_X9_reckonKept_J224 {P : Nat → Nat} {S : zm_S} {M : qm} {i1 : Int32} {qi1 : Int} {i2 : Int32} {qi2 : Int} {i3 : Int32} {qi3 : Int} (hS : Sh L xs P S) (hM : qM P S = M) (ei1 : i1.toInt = qi1) (ei2 : i2.toInt = qi2) (ei3 : i3.toInt = qi3) : qs (zf_X9_reckonKept_J224 20000 1003 i1 i2 i3 S) (qf_X9_reckonKept_J224 20000 qi1 qi2 qi3 M) (tO (rr L xs P vi)) := by
  unfold zf_X9_reckonKept_J224 qf_X9_reckonKept_J224
  refine qs_ite (c_eq ei3 k_0) ?_ ?_
  · exact qs_tr (show vi _ _ from ei2) hS hM
  · refine qs_gr hS pl_1003 ts_1003 rfl ?_
    refine qs_gd (fun g9103 => ?_)
    refine qs_xi hM (pa_p hS pl_1049 ts_1049) ei1 g9103 (fun v9102 h9102 => ?_)
    exact qs_tr (show vi _ _ from h9102) hS hM
set_option maxRecDepth 20000 in
theorem qz_X9_reckonKept_J264 {P : Nat → Nat} {S : zm_S} {M : qm} {i1 : Int32} {qi1 : Int} {t0 : Nat} {qt0 : Int} {t1 : Int32} {qt1 : Int} {t2 : Int32} {qt2 : Int} (hS : Sh L xs P S) (hM : qM P S = M) (ei1 : i1.toInt = qi1) (rt0 : pr t0 1051 40 qt0) (et1 : t1.toInt = qt1) (et2 : t2.toInt = qt2) : qs (zf_X9_reckonKept_J264 20000 1003 i1 t0 t1 t2 S) (qf_X9_reckonKept_J264 20000 qi1 qt0 qt1 qt2 M) (tO (rr L xs P vi)) := by
  unfold zf_X9_reckonKept_J264 qf_X9_reckonKept_J264
  refine qs_gd (fun g9105 => ?_)
  refine qs_ysi hS hM qt_1050 tq_1050 rt0 et1 g9105 et2 (fun S9104 M9104 hS9104 hM9104 => ?_)
  refine qs_gr hS9104 pl_1003 ts_1003 rfl ?_
  refine qs_gd (fun g9108 => ?_)
  refine qs_xt hS9104 pl_1050 ts_1050 (Or.inl rfl) ei1 g9108 (fun b9107 r9107 => ?_)
  refine qs_yi (j := 0) hS9104 hM9104 qt_1050 tq_1050 r9107 k_0 (by decide) (fun v9109 h9109 => ?_)
  exact qs_tr (show vi _ _ from h9109) hS9104 hM9104
set_option maxRecDepth 20000 in
theorem qz_X9_reckonKept_J239 {P : Nat → Nat} {S : zm_S} {M : qm} {i1 : Int32} {qi1 : Int} {i2 : Int32} {qi2 : Int} {i3 : Int32} {qi3 : Int} (hS : Sh L xs P S) (hM : qM P S = M) (ei1 : i1.toInt = qi1) (ei2 : i2.toInt = qi2) (ei3 : i3.toInt = qi3) : qs (zf_X9_reckonKept_J239 20000 1003 i1 i2 i3 S) (qf_X9_reckonKept_J239 20000 qi1 qi2 qi3 M) (tO (rr L xs P vi)) := by
  unfold zf_X9_reckonKept_J239 qf_X9_reckonKept_J239
  refine qs_gr hS pl_1003 ts_1003 rfl ?_
  refine qs_gd (fun g9112 => ?_)
  refine qs_xt hS pl_1050 ts_1050 (Or.inl rfl) ei1 g9112 (fun b9111 r9111 => ?_)
  refine qs_ite (c_eq ei3 k_0) ?_ ?_
  · refine qs_gr hS pl_1003 ts_1003 rfl ?_
    refine qs_gd (fun g9115 => ?_)
    refine qs_xt hS pl_1050 ts_1050 (Or.inl rfl) ei1 g9115 (fun b9114 r9114 => ?_)
    refine qs_yi (j := 0) hS hM qt_1050 tq_1050 r9114 k_0 (by decide) (fun v9116 h9116 => ?_)
    exact (qz_X9_reckonKept_J264 hS hM ei1 r9111 k_0 (p_add h9116 ei2))
  · exact (qz_X9_reckonKept_J264 hS hM ei1 r9111 k_0 k_0)
set_option maxRecDepth 20000 in
theorem qz_X9_reckonKept {P : Nat → Nat} {S : zm_S} {M : qm} {i1 : Int32} {qi1 : Int} {i2 : Int32} {qi2 : Int} {i3 : Int32} {qi3 : Int} {i4 : Int32} {qi4 : Int} (hS : Sh L xs P S) (hM : qM P S = M) (ei1 : i1.toInt = qi1) (ei2 : i2.toInt = qi2) (ei3 : i3.toInt = qi3) (ei4 : i4.toInt = qi4) : qs (zf_X9_reckonKept 20000 1003 i1 i2 i3 i4 S) (qf_X9_reckonKept 20000 qi1 qi2 qi3 qi4 M) (tO (rr L xs P vi)) := by
  unfold zf_X9_reckonKept qf_X9_reckonKept
  refine qs_gr hS pl_1003 ts_1003 rfl ?_
  refine qs_gd (fun g9119 => ?_)
  refine qs_xi hM (pa_p hS pl_1004 ts_1004) ei1 g9119 (fun v9118 h9118 => ?_)
  refine qs_ite (z_eq h9118) ?_ ?_
  · exact (qz_X9_reckonKept_J116 hS hM ei1)
  · refine qs_ite (z_eq h9118) ?_ ?_
    · exact (qz_X9_reckonKept_J274 hS hM ei1 ei2)
    · refine qs_ite (z_eq h9118) ?_ ?_
      · exact (qz_X9_reckonKept_J274 hS hM ei1 ei2)
      · refine qs_ite (z_eq h9118) ?_ ?_
        · exact (qz_X9_reckonKept_J274 hS hM ei1 ei2)
        · refine qs_ite (z_eq h9118) ?_ ?_
          · exact (qz_X9_reckonKept_J274 hS hM ei1 ei2)
          · refine qs_ite (z_eq h9118) ?_ ?_
            · exact (qz_X9_reckonKept_J274 hS hM ei1 ei2)
            · refine qs_ite (z_eq h9118) ?_ ?_
              · exact (qz_X9_reckonKept_J274 hS hM ei1 ei2)
              · refine qs_ite (z_eq h9118) ?_ ?_
                · exact (qz_X9_reckonKept_J274 hS hM ei1 ei2)
                · refine qs_ite (z_eq h9118) ?_ ?_
                  · exact (qz_X9_reckonKept_J274 hS hM ei1 ei2)
                  · refine qs_ite (z_eq h9118) ?_ ?_
                    · exact (qz_X9_reckonKept_J274 hS hM ei1 ei2)
                    · refine qs_ite (z_eq h9118) ?_ ?_
                      · exact (qz_X9_reckonKept_J274 hS hM ei1 ei2)
                      · refine qs_ite (z_eq h9118) ?_ ?_
                        · exact (qz_X9_reckonKept_J274 hS hM ei1 ei2)
                        · refine qs_ite (z_eq h9118) ?_ ?_
                          · exact (qz_X9_reckonKept_J274 hS hM ei1 ei2)
                          · refine qs_ite (z_eq h9118) ?_ ?_
                            · exact (qz_X9_reckonKept_J274 hS hM ei1 ei2)
                            · refine qs_ite (z_eq h9118) ?_ ?_
                              · exact (qz_X9_reckonKept_J274 hS hM ei1 ei2)
                              · refine qs_ite (z_eq h9118) ?_ ?_
                                · exact (qz_X9_reckonKept_J274 hS hM ei1 ei2)
                                · refine qs_ite (z_eq h9118) ?_ ?_
                                  · exact (qz_X9_reckonKept_J123 hS hM ei1 ei2)
                                  · refine qs_ite (z_eq h9118) ?_ ?_
                                    · exact (qz_X9_reckonKept_J140 hS hM ei1 ei2 ei3)
                                    · refine qs_ite (z_eq h9118) ?_ ?_
                                      · exact (qz_X9_reckonKept_J152 hS hM ei1 ei2 ei3)
                                      · refine qs_ite (z_eq h9118) ?_ ?_
                                        · exact (qz_X9_reckonKept_J164 hS hM ei1 ei4)
                                        · refine qs_ite (z_eq h9118) ?_ ?_
                                          · exact (qz_X9_reckonKept_J190 hS hM ei1 ei2)
                                          · refine qs_ite (z_eq h9118) ?_ ?_
                                            · exact (qz_X9_reckonKept_J207 hS hM ei1 ei2)
                                            · refine qs_ite (z_eq h9118) ?_ ?_
                                              · exact (qz_X9_reckonKept_J224 hS hM ei1 ei2 ei3)
                                              · refine qs_ite (z_eq h9118) ?_ ?_
                                                · exact (qz_X9_reckonKept_J239 hS hM ei1 ei2 ei3)
                                                · exact (qz_X9_reckonKept_J274 hS hM ei1 ei2)
set_option maxRecDepth 20000 in
theorem qz_X9_reckon_J79 {P : Nat → Nat} {S : zm_S} {M : qm} {i1 : Int32} {qi1 : Int} {i2 : Int32} {qi2 : Int} {i3 : Int32} {qi3 : Int} {i4 : Int32} {qi4 : Int} {i5 : Int32} {qi5 : Int} (hS : Sh L xs P S) (hM : qM P S = M) (ei1 : i1.toInt = qi1) (ei2 : i2.toInt = qi2) (ei3 : i3.toInt = qi3) (ei4 : i4.toInt = qi4) (ei5 : i5.toInt = qi5) : qs (zf_X9_reckon_J79 20000 1003 i1 i2 i3 i4 i5 S) (qf_X9_reckon_J79 20000 qi1 qi2 qi3 qi4 qi5 M) (tO (rr L xs P vi)) := by
  unfold zf_X9_reckon_J79 qf_X9_reckon_J79
  refine qs_ite (c_eq ei3 k_0) ?_ ?_
  · refine qs_gr hS pl_1003 ts_1003 rfl ?_
    refine qs_gd (fun g9122 => ?_)
    refine qs_xi hM (pa_p hS pl_1005 ts_1005) ei1 g9122 (fun v9121 h9121 => ?_)
    refine qs_ite (c_lt h9121 k_0) ?_ ?_
    · exact (qz_X9_reckon_J113 hS hM )
    · refine qs_ite (c_le k_10 h9121) ?_ ?_
      · exact (qz_X9_reckon_J113 hS hM )
      · refine qs_gr hS pl_1003 ts_1003 rfl ?_
        refine qs_gd (fun g9125 => ?_)
        refine qs_xi hM (pa_p hS pl_1135 ts_1135) h9121 g9125 (fun v9124 h9124 => ?_)
        exact qs_tr (show vi _ _ from h9124) hS hM
  · refine qs_ite (c_eq ei3 k_15) ?_ ?_
    · refine qs_ite (c_lt ei4 k_0) ?_ ?_
      · exact (qz_X9_reckon_J149 hS hM )
      · refine qs_ite (c_le k_8 ei4) ?_ ?_
        · exact (qz_X9_reckon_J149 hS hM )
        · refine qs_gr hS pl_1003 ts_1003 rfl ?_
          refine qs_gd (fun g9128 => ?_)
          refine qs_xt hS pl_1091 ts_1091 (Or.inl rfl) ei1 g9128 (fun b9127 r9127 => ?_)
          refine qs_gd (fun g9130 => ?_)
          refine qs_yi hS hM qt_1091 tq_1091 r9127 ei4 g9130 (fun v9129 h9129 => ?_)
          exact qs_tr (show vi _ _ from h9129) hS hM
    · refine qs_zi hS pl_1003 ts_1003 ?_
      refine qs_b (qz_X9_reckonKept hS hM ei1 ei4 ei5 ei2) (fun v9132 S9132 w9132 M9132 h9132 hS9132 hM9132 => ?_)
      exact qs_tr (show vi _ _ from h9132) hS9132 hM9132
set_option maxRecDepth 20000 in
theorem qz_X9_reckonPlain_J64 {P : Nat → Nat} {S : zm_S} {M : qm} {i2 : Int32} {qi2 : Int} {i3 : Int32} {qi3 : Int} (hS : Sh L xs P S) (hM : qM P S = M) (ei2 : i2.toInt = qi2) (ei3 : i3.toInt = qi3) : qs (zf_X9_reckonPlain_J64 20000 i2 i3 S) (qf_X9_reckonPlain_J64 20000 qi2 qi3 M) (tO (rr L xs P vi)) := by
  unfold zf_X9_reckonPlain_J64 qf_X9_reckonPlain_J64
  exact qs_tr (show vi _ _ from (p_add ei2 ei3)) hS hM
set_option maxRecDepth 20000 in
theorem qz_X9_reckonPlain_J68 {P : Nat → Nat} {S : zm_S} {M : qm} {i2 : Int32} {qi2 : Int} {i3 : Int32} {qi3 : Int} (hS : Sh L xs P S) (hM : qM P S = M) (ei2 : i2.toInt = qi2) (ei3 : i3.toInt = qi3) : qs (zf_X9_reckonPlain_J68 20000 i2 i3 S) (qf_X9_reckonPlain_J68 20000 qi2 qi3 M) (tO (rr L xs P vi)) := by
  unfold zf_X9_reckonPlain_J68 qf_X9_reckonPlain_J68
  exact qs_tr (show vi _ _ from (p_sub ei2 ei3)) hS hM
set_option maxRecDepth 20000 in
theorem qz_X9_reckonPlain_J72 {P : Nat → Nat} {S : zm_S} {M : qm} {i2 : Int32} {qi2 : Int} {i3 : Int32} {qi3 : Int} (hS : Sh L xs P S) (hM : qM P S = M) (ei2 : i2.toInt = qi2) (ei3 : i3.toInt = qi3) : qs (zf_X9_reckonPlain_J72 20000 i2 i3 S) (qf_X9_reckonPlain_J72 20000 qi2 qi3 M) (tO (rr L xs P vi)) := by
  unfold zf_X9_reckonPlain_J72 qf_X9_reckonPlain_J72
  exact qs_tr (show vi _ _ from (p_mul ei2 ei3)) hS hM
set_option maxRecDepth 20000 in
theorem qz_X9_reckonPlain_J76 {P : Nat → Nat} {S : zm_S} {M : qm} {i2 : Int32} {qi2 : Int} {i3 : Int32} {qi3 : Int} (hS : Sh L xs P S) (hM : qM P S = M) (ei2 : i2.toInt = qi2) (ei3 : i3.toInt = qi3) : qs (zf_X9_reckonPlain_J76 20000 1003 i2 i3 S) (qf_X9_reckonPlain_J76 20000 qi2 qi3 M) (tO (rr L xs P vi)) := by
  unfold zf_X9_reckonPlain_J76 qf_X9_reckonPlain_J76
  refine qs_ite (c_eq ei3 k_0) ?_ ?_
  · refine qs_zi hS pl_1003 ts_1003 ?_
    refine qs_b (qz_X9_fail hS hM k_1) (fun v9134 S9134 w9134 M9134 h9134 hS9134 hM9134 => ?_)
    exact qs_tr (show vi _ _ from h9134) hS9134 hM9134
  · refine qs_ite (c_eq ei3 k_0) ?_ ?_
    · exact qs_none
    · exact qs_tr (show vi _ _ from (p_divw ei2 ei3)) hS hM
set_option maxRecDepth 20000 in
theorem qz_X9_reckonPlain_J92 {P : Nat → Nat} {S : zm_S} {M : qm} {i2 : Int32} {qi2 : Int} {i3 : Int32} {qi3 : Int} (hS : Sh L xs P S) (hM : qM P S = M) (ei2 : i2.toInt = qi2) (ei3 : i3.toInt = qi3) : qs (zf_X9_reckonPlain_J92 20000 1003 i2 i3 S) (qf_X9_reckonPlain_J92 20000 qi2 qi3 M) (tO (rr L xs P vi)) := by
  unfold zf_X9_reckonPlain_J92 qf_X9_reckonPlain_J92
  refine qs_ite (c_eq ei3 k_0) ?_ ?_
  · refine qs_zi hS pl_1003 ts_1003 ?_
    refine qs_b (qz_X9_fail hS hM k_1) (fun v9136 S9136 w9136 M9136 h9136 hS9136 hM9136 => ?_)
    exact qs_tr (show vi _ _ from h9136) hS9136 hM9136
  · refine qs_ite (c_eq ei3 k_0) ?_ ?_
    · exact qs_none
    · exact qs_tr (show vi _ _ from (p_sub ei2 (p_mul ei3 (p_divw ei2 ei3)))) hS hM
set_option maxRecDepth 20000 in
theorem qz_X9_reckonPlain_J112 {P : Nat → Nat} {S : zm_S} {M : qm} {i2 : Int32} {qi2 : Int} {i3 : Int32} {qi3 : Int} (hS : Sh L xs P S) (hM : qM P S = M) (ei2 : i2.toInt = qi2) (ei3 : i3.toInt = qi3) : qs (zf_X9_reckonPlain_J112 20000 i2 i3 S) (qf_X9_reckonPlain_J112 20000 qi2 qi3 M) (tO (rr L xs P vi)) := by
  unfold zf_X9_reckonPlain_J112 qf_X9_reckonPlain_J112
  exact qs_tr (show vi _ _ from (p_min ei2 ei3)) hS hM
set_option maxRecDepth 20000 in
theorem qz_X9_reckonPlain_J118 {P : Nat → Nat} {S : zm_S} {M : qm} {i2 : Int32} {qi2 : Int} {i3 : Int32} {qi3 : Int} (hS : Sh L xs P S) (hM : qM P S = M) (ei2 : i2.toInt = qi2) (ei3 : i3.toInt = qi3) : qs (zf_X9_reckonPlain_J118 20000 i2 i3 S) (qf_X9_reckonPlain_J118 20000 qi2 qi3 M) (tO (rr L xs P vi)) := by
  unfold zf_X9_reckonPlain_J118 qf_X9_reckonPlain_J118
  exact qs_tr (show vi _ _ from (p_max ei2 ei3)) hS hM
set_option maxRecDepth 20000 in
theorem qz_X9_reckonPlain_J124 {P : Nat → Nat} {S : zm_S} {M : qm} {i2 : Int32} {qi2 : Int} {i3 : Int32} {qi3 : Int} (hS : Sh L xs P S) (hM : qM P S = M) (ei2 : i2.toInt = qi2) (ei3 : i3.toInt = qi3) : qs (zf_X9_reckonPlain_J124 20000 i2 i3 S) (qf_X9_reckonPlain_J124 20000 qi2 qi3 M) (tO (rr L xs P vi)) := by
  unfold zf_X9_reckonPlain_J124 qf_X9_reckonPlain_J124
  refine qs_ite (c_le ei3 ei2) ?_ ?_
  · exact qs_tr (show vi _ _ from k_0) hS hM
  · exact qs_tr (show vi _ _ from k_1) hS hM
set_option maxRecDepth 20000 in
theorem qz_X9_reckonPlain_J135 {P : Nat → Nat} {S : zm_S} {M : qm} {i2 : Int32} {qi2 : Int} {i3 : Int32} {qi3 : Int} (hS : Sh L xs P S) (hM : qM P S = M) (ei2 : i2.toInt = qi2) (ei3 : i3.toInt = qi3) : qs (zf_X9_reckonPlain_J135 20000 i2 i3 S) (qf_X9_reckonPlain_J135 20000 qi2 qi3 M) (tO (rr L xs P vi)) := by
  unfold zf_X9_reckonPlain_J135 qf_X9_reckonPlain_J135
  refine qs_ite (c_eq ei2 ei3) ?_ ?_
  · exact qs_tr (show vi _ _ from k_1) hS hM
  · exact qs_tr (show vi _ _ from k_0) hS hM
set_option maxRecDepth 20000 in
theorem qz_X9_reckonPlain_J146 {P : Nat → Nat} {S : zm_S} {M : qm} {i2 : Int32} {qi2 : Int} {i3 : Int32} {qi3 : Int} (hS : Sh L xs P S) (hM : qM P S = M) (ei2 : i2.toInt = qi2) (ei3 : i3.toInt = qi3) : qs (zf_X9_reckonPlain_J146 20000 i2 i3 S) (qf_X9_reckonPlain_J146 20000 qi2 qi3 M) (tO (rr L xs P vi)) := by
  unfold zf_X9_reckonPlain_J146 qf_X9_reckonPlain_J146
  refine qs_ite (c_eq ei2 k_0) ?_ ?_
  · exact qs_tr (show vi _ _ from k_0) hS hM
  · refine qs_ite (c_eq ei3 k_0) ?_ ?_
    · exact qs_tr (show vi _ _ from k_0) hS hM
    · exact qs_tr (show vi _ _ from k_1) hS hM
set_option maxRecDepth 20000 in
theorem qz_X9_reckonPlain_J160 {P : Nat → Nat} {S : zm_S} {M : qm} {i2 : Int32} {qi2 : Int} {i3 : Int32} {qi3 : Int} (hS : Sh L xs P S) (hM : qM P S = M) (ei2 : i2.toInt = qi2) (ei3 : i3.toInt = qi3) : qs (zf_X9_reckonPlain_J160 20000 i2 i3 S) (qf_X9_reckonPlain_J160 20000 qi2 qi3 M) (tO (rr L xs P vi)) := by
  unfold zf_X9_reckonPlain_J160 qf_X9_reckonPlain_J160
  refine qs_ite (c_eq ei2 k_0) ?_ ?_
  · refine qs_ite (c_eq ei3 k_0) ?_ ?_
    · exact qs_tr (show vi _ _ from k_0) hS hM
    · exact qs_tr (show vi _ _ from k_1) hS hM
  · exact qs_tr (show vi _ _ from k_1) hS hM
set_option maxRecDepth 20000 in
theorem qz_X9_reckonPlain_J174 {P : Nat → Nat} {S : zm_S} {M : qm} {i2 : Int32} {qi2 : Int} (hS : Sh L xs P S) (hM : qM P S = M) (ei2 : i2.toInt = qi2) : qs (zf_X9_reckonPlain_J174 20000 i2 S) (qf_X9_reckonPlain_J174 20000 qi2 M) (tO (rr L xs P vi)) := by
  unfold zf_X9_reckonPlain_J174 qf_X9_reckonPlain_J174
  refine qs_ite (c_eq ei2 k_0) ?_ ?_
  · exact qs_tr (show vi _ _ from k_1) hS hM
  · exact qs_tr (show vi _ _ from k_0) hS hM
set_option maxRecDepth 20000 in
theorem qz_X9_reckonPlain_J184 {P : Nat → Nat} {S : zm_S} {M : qm} {i2 : Int32} {qi2 : Int} {i3 : Int32} {qi3 : Int} {i4 : Int32} {qi4 : Int} (hS : Sh L xs P S) (hM : qM P S = M) (ei2 : i2.toInt = qi2) (ei3 : i3.toInt = qi3) (ei4 : i4.toInt = qi4) : qs (zf_X9_reckonPlain_J184 20000 i2 i3 i4 S) (qf_X9_reckonPlain_J184 20000 qi2 qi3 qi4 M) (tO (rr L xs P vi)) := by
  unfold zf_X9_reckonPlain_J184 qf_X9_reckonPlain_J184
  refine qs_ite (c_eq ei2 k_0) ?_ ?_
  · exact qs_tr (show vi _ _ from ei4) hS hM
  · exact qs_tr (show vi _ _ from ei3) hS hM
set_option maxRecDepth 20000 in
theorem qz_X9_reckonPlain {P : Nat → Nat} {S : zm_S} {M : qm} {i1 : Int32} {qi1 : Int} {i2 : Int32} {qi2 : Int} {i3 : Int32} {qi3 : Int} {i4 : Int32} {qi4 : Int} (hS : Sh L xs P S) (hM : qM P S = M) (ei1 : i1.toInt = qi1) (ei2 : i2.toInt = qi2) (ei3 : i3.toInt = qi3) (ei4 : i4.toInt = qi4) : qs (zf_X9_reckonPlain 20000 1003 i1 i2 i3 i4 S) (qf_X9_reckonPlain 20000 qi1 qi2 qi3 qi4 M) (tO (rr L xs P vi)) := by
  unfold zf_X9_reckonPlain qf_X9_reckonPlain
  refine qs_ite (z_eq ei1) ?_ ?_
  · exact (qz_X9_reckonPlain_J64 hS hM ei2 ei3)
  · refine qs_ite (z_eq ei1) ?_ ?_
    · exact (qz_X9_reckonPlain_J68 hS hM ei2 ei3)
    · refine qs_ite (z_eq ei1) ?_ ?_
      · exact (qz_X9_reckonPlain_J72 hS hM ei2 ei3)
      · refine qs_ite (z_eq ei1) ?_ ?_
        · exact (qz_X9_reckonPlain_J76 hS hM ei2 ei3)
        · refine qs_ite (z_eq ei1) ?_ ?_
          · exact (qz_X9_reckonPlain_J92 hS hM ei2 ei3)
          · refine qs_ite (z_eq ei1) ?_ ?_
            · exact (qz_X9_reckonPlain_J112 hS hM ei2 ei3)
            · refine qs_ite (z_eq ei1) ?_ ?_
              · exact (qz_X9_reckonPlain_J118 hS hM ei2 ei3)
              · refine qs_ite (z_eq ei1) ?_ ?_
                · exact (qz_X9_reckonPlain_J124 hS hM ei2 ei3)
                · refine qs_ite (z_eq ei1) ?_ ?_
                  · exact (qz_X9_reckonPlain_J135 hS hM ei2 ei3)
                  · refine qs_ite (z_eq ei1) ?_ ?_
                    · exact (qz_X9_reckonPlain_J146 hS hM ei2 ei3)
                    · refine qs_ite (z_eq ei1) ?_ ?_
                      · exact (qz_X9_reckonPlain_J160 hS hM ei2 ei3)
                      · refine qs_ite (z_eq ei1) ?_ ?_
                        · exact (qz_X9_reckonPlain_J174 hS hM ei2)
                        · exact (qz_X9_reckonPlain_J184 hS hM ei2 ei3 ei4)
set_option maxRecDepth 20000 in
theorem qz_X9_reckon {P : Nat → Nat} {S : zm_S} {M : qm} {i1 : Int32} {qi1 : Int} {i2 : Int32} {qi2 : Int} (hS : Sh L xs P S) (hM : qM P S = M) (ei1 : i1.toInt = qi1) (ei2 : i2.toInt = qi2) : qs (zf_X9_reckon 20000 1003 i1 i2 S) (qf_X9_reckon 20000 qi1 qi2 M) (tO (rr L xs P vi)) := by
  unfold zf_X9_reckon qf_X9_reckon
  refine qs_gr hS pl_1003 ts_1003 rfl ?_
  refine qs_gd (fun g9139 => ?_)
  refine qs_xi hM (pa_p hS pl_1004 ts_1004) ei1 g9139 (fun v9138 h9138 => ?_)
  refine qs_ite (c_eq h9138 k_16) ?_ ?_
  · refine qs_gr hS pl_1003 ts_1003 rfl ?_
    refine qs_gd (fun g9142 => ?_)
    refine qs_xt hS pl_1050 ts_1050 (Or.inl rfl) ei1 g9142 (fun b9141 r9141 => ?_)
    refine qs_yi (j := 0) hS hM qt_1050 tq_1050 r9141 k_0 (by decide) (fun v9143 h9143 => ?_)
    exact qs_tr (show vi _ _ from h9143) hS hM
  · refine qs_zi hS pl_1003 ts_1003 ?_
    refine qs_bp (qz_X9_lacksInput hS hM ei1) (fun v9145 S9145 w9145 h9145 hS9145 hM9145 => ?_)
    refine qs_ite (c_eq h9145 k_0) ?_ ?_
    · refine qs_zi hS9145 pl_1003 ts_1003 ?_
      refine qs_bp (qz_X9_inputOf hS9145 hM9145 ei1 k_0) (fun v9147 S9147 w9147 h9147 hS9147 hM9147 => ?_)
      refine qs_zi hS9147 pl_1003 ts_1003 ?_
      refine qs_bp (qz_X9_inputOf hS9147 hM9147 ei1 k_1) (fun v9149 S9149 w9149 h9149 hS9149 hM9149 => ?_)
      refine qs_ite (c_lt h9138 k_2) ?_ ?_
      · exact (qz_X9_reckon_J79 hS9149 hM9149 ei1 ei2 h9138 h9147 h9149)
      · refine qs_ite (c_lt k_14 h9138) ?_ ?_
        · exact (qz_X9_reckon_J79 hS9149 hM9149 ei1 ei2 h9138 h9147 h9149)
        · refine qs_zi hS9149 pl_1003 ts_1003 ?_
          refine qs_bp (qz_X9_inputOf hS9149 hM9149 ei1 k_2) (fun v9151 S9151 w9151 h9151 hS9151 hM9151 => ?_)
          refine qs_zi hS9151 pl_1003 ts_1003 ?_
          refine qs_b (qz_X9_reckonPlain hS9151 hM9151 h9138 h9147 h9149 h9151) (fun v9153 S9153 w9153 M9153 h9153 hS9153 hM9153 => ?_)
          exact qs_tr (show vi _ _ from h9153) hS9153 hM9153
    · refine qs_zi hS9145 pl_1003 ts_1003 ?_
      refine qs_b (qz_X9_fail hS9145 hM9145 k_3) (fun v9155 S9155 w9155 M9155 h9155 hS9155 hM9155 => ?_)
      exact qs_tr (show vi _ _ from h9155) hS9155 hM9155
set_option maxRecDepth 20000 in
theorem qz_X9_reckonBlock_J34 {P : Nat → Nat} {S : zm_S} {M : qm} {i1 : Int32} {qi1 : Int} {i3 : Int32} {qi3 : Int} (hS : Sh L xs P S) (hM : qM P S = M) (ei1 : i1.toInt = qi1) (ei3 : i3.toInt = qi3) : qs (zf_X9_reckonBlock_J34 20000 1003 i1 i3 S) (qf_X9_reckonBlock_J34 20000 qi1 qi3 M) (tO (rr L xs P vu)) := by
  unfold zf_X9_reckonBlock_J34 qf_X9_reckonBlock_J34
  refine qs_gr hS pl_1003 ts_1003 rfl ?_
  refine qs_gr hS pl_1003 ts_1003 rfl ?_
  refine qs_gd (fun g9159 => ?_)
  refine qs_xi hM (pa_p hS pl_1132 ts_1132) ei1 g9159 (fun v9158 h9158 => ?_)
  refine qs_ite (c_eq h9158 k_0) ?_ ?_
  · refine qs_gd (fun g9161 => ?_)
    refine qs_si hS hM (pa_p hS pl_1049 ts_1049) ei1 g9161 ei3 (fun S9160 M9160 hS9160 hM9160 => ?_)
    exact qs_tr (show vu _ _ from trivial) hS9160 hM9160
  · refine qs_gr hS pl_1003 ts_1003 rfl ?_
    refine qs_gd (fun g9164 => ?_)
    refine qs_xi hM (pa_p hS pl_1133 ts_1133) ei1 g9164 (fun v9163 h9163 => ?_)
    refine qs_gd (fun g9166 => ?_)
    refine qs_si hS hM (pa_p hS pl_1049 ts_1049) ei1 g9166 h9163 (fun S9165 M9165 hS9165 hM9165 => ?_)
    exact qs_tr (show vu _ _ from trivial) hS9165 hM9165
set_option maxRecDepth 20000 in
theorem qz_X9_countFailure {P : Nat → Nat} {S : zm_S} {M : qm} {i1 : Int32} {qi1 : Int} (hS : Sh L xs P S) (hM : qM P S = M) (ei1 : i1.toInt = qi1) : qs (zf_X9_countFailure 20000 1003 i1 S) (qf_X9_countFailure 20000 qi1 M) (tO (rr L xs P vu)) := by
  unfold zf_X9_countFailure qf_X9_countFailure
  refine qs_gr hS pl_1003 ts_1003 rfl ?_
  refine qs_gd (fun g9169 => ?_)
  refine qs_xi hM (pa_p hS pl_1138 ts_1138) ei1 g9169 (fun v9168 h9168 => ?_)
  refine qs_gd (fun g9171 => ?_)
  refine qs_si hS hM (pa_p hS pl_1138 ts_1138) ei1 g9171 (p_add h9168 k_1) (fun S9170 M9170 hS9170 hM9170 => ?_)
  refine qs_gr hS9170 pl_1003 ts_1003 rfl ?_
  refine qs_xi (i := 0) hM9170 (pa_p hS9170 pl_1138 ts_1138) k_0 (by decide) (fun v9173 h9173 => ?_)
  refine qs_si hS9170 hM9170 (pa_p hS9170 pl_1138 ts_1138) k_0 (by decide) (p_add h9173 k_1) (fun S9174 M9174 hS9174 hM9174 => ?_)
  exact qs_tr (show vu _ _ from trivial) hS9174 hM9174
set_option maxRecDepth 20000 in
theorem qz_X9_reckonBlock {P : Nat → Nat} {S : zm_S} {M : qm} {i1 : Int32} {qi1 : Int} {i2 : Int32} {qi2 : Int} (hS : Sh L xs P S) (hM : qM P S = M) (ei1 : i1.toInt = qi1) (ei2 : i2.toInt = qi2) : qs (zf_X9_reckonBlock 20000 1003 i1 i2 S) (qf_X9_reckonBlock 20000 qi1 qi2 M) (tO (rr L xs P vu)) := by
  unfold zf_X9_reckonBlock qf_X9_reckonBlock
  refine qs_pi hS hM pl_1003 ts_1003 (z := 19) rfl rfl k_0 (fun S9175 M9175 hS9175 hM9175 => ?_)
  refine qs_zi hS9175 pl_1003 ts_1003 ?_
  refine qs_b (qz_X9_reckon hS9175 hM9175 ei1 ei2) (fun v9177 S9177 w9177 M9177 h9177 hS9177 hM9177 => ?_)
  refine qs_gi hS9177 hM9177 pl_1003 ts_1003 (z := 19) rfl rfl (fun v9178 h9178 => ?_)
  refine qs_ite (c_eq h9178 k_0) ?_ ?_
  · exact (qz_X9_reckonBlock_J34 hS9177 hM9177 ei1 h9177)
  · refine qs_gi hS9177 hM9177 pl_1003 ts_1003 (z := 19) rfl rfl (fun v9179 h9179 => ?_)
    refine qs_zi hS9177 pl_1003 ts_1003 ?_
    refine qs_b (qz_X9_countFailure hS9177 hM9177 h9179) (fun v9181 S9181 w9181 M9181 h9181 hS9181 hM9181 => ?_)
    refine qs_gr hS9181 pl_1003 ts_1003 rfl ?_
    refine qs_gd (fun g9184 => ?_)
    refine qs_xi hM9181 (pa_p hS9181 pl_1007 ts_1007) ei1 g9184 (fun v9183 h9183 => ?_)
    exact (qz_X9_reckonBlock_J34 hS9181 hM9181 ei1 h9183)
set_option maxRecDepth 20000 in
theorem qz_X9_reckonBlocks_L25_b (n : Nat) {P : Nat → Nat} {S : zm_S} {M : qm} {i1 : Int32} {qi1 : Int} {i2 : Int32} {qi2 : Int} (hS : Sh L xs P S) (hM : qM P S = M) (ei1 : i1.toInt = qi1) (ei2 : i2.toInt = qi2) : qs (zf_X9_reckonBlocks_L25 20000 (n + 1) 1003 i1 i2 S) (qf_X9_reckonBlocks_L25_b 20000 qi1 qi2 M) (tk (vs (rr L xs P vu) (rr L xs P vu)) (qc_X9_reckonBlocks_L25 L xs P (zf_X9_reckonBlocks_L25 20000 n))) := by
  refine qs_eq (zf_X9_reckonBlocks_L25.eq_2 ..) ?_
  unfold qf_X9_reckonBlocks_L25_b
  refine qs_gi hS hM pl_1003 ts_1003 (z := 0) rfl rfl (fun v9185 h9185 => ?_)
  refine qs_ite (c_le h9185 ei2) ?_ ?_
  · exact qs_tr2 (show vu _ _ from trivial) hS hM
  · refine qs_gr hS pl_1003 ts_1003 rfl ?_
    refine qs_gd (fun g9188 => ?_)
    refine qs_xi hM (pa_p hS pl_1136 ts_1136) ei2 g9188 (fun v9187 h9187 => ?_)
    refine qs_zi hS pl_1003 ts_1003 ?_
    refine qs_b (qz_X9_reckonBlock hS hM h9187 ei1) (fun v9190 S9190 w9190 M9190 h9190 hS9190 hM9190 => ?_)
    exact qs_tk ⟨_, _, _, rfl, ei1, (p_add ei2 k_1), hS9190, hM9190⟩
theorem qz_X9_reckonBlocks_L25 (n : Nat) : ∀ {P : Nat → Nat} {S : zm_S} {M : qm} {i1 : Int32} {qi1 : Int} {i2 : Int32} {qi2 : Int} (hS : Sh L xs P S) (hM : qM P S = M) (ei1 : i1.toInt = qi1) (ei2 : i2.toInt = qi2), qs (zf_X9_reckonBlocks_L25 20000 n 1003 i1 i2 S) (qf_X9_reckonBlocks_L25 20000 n qi1 qi2 M) (tO (vs (rr L xs P vu) (rr L xs P vu))) := by
  induction n with
  | zero =>
    intros
    exact qs_none
  | succ n ih =>
    intro P S M i1 qi1 i2 qi2 hS hM ei1 ei2
    unfold qf_X9_reckonBlocks_L25
    refine qs_loop (C := (qc_X9_reckonBlocks_L25 L xs P (zf_X9_reckonBlocks_L25 20000 n))) (qz_X9_reckonBlocks_L25_b n hS hM ei1 ei2) ?_
    rintro x s ⟨_, _, _, rfl, u0, u1, hS2, hM2⟩
    exact ih hS2 hM2 u0 u1
set_option maxRecDepth 20000 in
theorem qz_X9_takeDelayed {P : Nat → Nat} {S : zm_S} {M : qm} {i1 : Int32} {qi1 : Int} (hS : Sh L xs P S) (hM : qM P S = M) (ei1 : i1.toInt = qi1) : qs (zf_X9_takeDelayed 20000 1003 i1 S) (qf_X9_takeDelayed 20000 qi1 M) (tO (rr L xs P vu)) := by
  unfold zf_X9_takeDelayed qf_X9_takeDelayed
  refine qs_gr hS pl_1003 ts_1003 rfl ?_
  refine qs_gd (fun g9193 => ?_)
  refine qs_xt hS pl_1008 ts_1008 (Or.inl rfl) ei1 g9193 (fun b9192 r9192 => ?_)
  refine qs_yi (j := 0) hS hM qt_1008 tq_1008 r9192 k_0 (by decide) (fun v9194 h9194 => ?_)
  refine qs_ite (c_eq h9194 k_m1) ?_ ?_
  · refine qs_zi hS pl_1003 ts_1003 ?_
    refine qs_b (qz_X9_countFailure hS hM k_3) (fun v9196 S9196 w9196 M9196 h9196 hS9196 hM9196 => ?_)
    refine qs_gr hS9196 pl_1003 ts_1003 rfl ?_
    refine qs_gd (fun g9199 => ?_)
    refine qs_xi hM9196 (pa_p hS9196 pl_1132 ts_1132) ei1 g9199 (fun v9198 h9198 => ?_)
    refine qs_ite (c_eq h9198 k_0) ?_ ?_
    · refine qs_gr hS9196 pl_1003 ts_1003 rfl ?_
      refine qs_gr hS9196 pl_1003 ts_1003 rfl ?_
      refine qs_gd (fun g9203 => ?_)
      refine qs_xi hM9196 (pa_p hS9196 pl_1007 ts_1007) ei1 g9203 (fun v9202 h9202 => ?_)
      refine qs_gd (fun g9205 => ?_)
      refine qs_si hS9196 hM9196 (pa_p hS9196 pl_1049 ts_1049) ei1 g9205 h9202 (fun S9204 M9204 hS9204 hM9204 => ?_)
      exact qs_tr (show vu _ _ from trivial) hS9204 hM9204
    · exact qs_tr (show vu _ _ from trivial) hS9196 hM9196
  · refine qs_gr hS pl_1003 ts_1003 rfl ?_
    refine qs_gd (fun g9208 => ?_)
    refine qs_xt hS pl_1050 ts_1050 (Or.inl rfl) ei1 g9208 (fun b9207 r9207 => ?_)
    refine qs_gr hS pl_1003 ts_1003 rfl ?_
    refine qs_gd (fun g9211 => ?_)
    refine qs_xi hM (pa_p hS pl_1049 ts_1049) h9194 g9211 (fun v9210 h9210 => ?_)
    refine qs_ysi hS hM qt_1050 tq_1050 r9207 k_0 (by decide) h9210 (fun S9212 M9212 hS9212 hM9212 => ?_)
    exact qs_tr (show vu _ _ from trivial) hS9212 hM9212
set_option maxRecDepth 20000 in
theorem qz_X9_reckonBlocks_L52_b (n : Nat) {P : Nat → Nat} {S : zm_S} {M : qm} {i2 : Int32} {qi2 : Int} (hS : Sh L xs P S) (hM : qM P S = M) (ei2 : i2.toInt = qi2) : qs (zf_X9_reckonBlocks_L52 20000 (n + 1) 1003 i2 S) (qf_X9_reckonBlocks_L52_b 20000 qi2 M) (tk (vs (rr L xs P vu) (rr L xs P vu)) (qc_X9_reckonBlocks_L52 L xs P (zf_X9_reckonBlocks_L52 20000 n))) := by
  refine qs_eq (zf_X9_reckonBlocks_L52.eq_2 ..) ?_
  unfold qf_X9_reckonBlocks_L52_b
  refine qs_gi hS hM pl_1003 ts_1003 (z := 0) rfl rfl (fun v9213 h9213 => ?_)
  refine qs_ite (c_le h9213 ei2) ?_ ?_
  · exact qs_tr2 (show vu _ _ from trivial) hS hM
  · refine qs_gr hS pl_1003 ts_1003 rfl ?_
    refine qs_gd (fun g9216 => ?_)
    refine qs_xi hM (pa_p hS pl_1004 ts_1004) ei2 g9216 (fun v9215 h9215 => ?_)
    refine qs_ite (c_eq h9215 k_16) ?_ ?_
    · refine qs_zi hS pl_1003 ts_1003 ?_
      refine qs_b (qz_X9_takeDelayed hS hM ei2) (fun v9218 S9218 w9218 M9218 h9218 hS9218 hM9218 => ?_)
      exact qs_tk ⟨_, _, rfl, (p_add ei2 k_1), hS9218, hM9218⟩
    · exact qs_tk ⟨_, _, rfl, (p_add ei2 k_1), hS, hM⟩
theorem qz_X9_reckonBlocks_L52 (n : Nat) : ∀ {P : Nat → Nat} {S : zm_S} {M : qm} {i2 : Int32} {qi2 : Int} (hS : Sh L xs P S) (hM : qM P S = M) (ei2 : i2.toInt = qi2), qs (zf_X9_reckonBlocks_L52 20000 n 1003 i2 S) (qf_X9_reckonBlocks_L52 20000 n qi2 M) (tO (vs (rr L xs P vu) (rr L xs P vu))) := by
  induction n with
  | zero =>
    intros
    exact qs_none
  | succ n ih =>
    intro P S M i2 qi2 hS hM ei2
    unfold qf_X9_reckonBlocks_L52
    refine qs_loop (C := (qc_X9_reckonBlocks_L52 L xs P (zf_X9_reckonBlocks_L52 20000 n))) (qz_X9_reckonBlocks_L52_b n hS hM ei2) ?_
    rintro x s ⟨_, _, rfl, u0, hS2, hM2⟩
    exact ih hS2 hM2 u0
set_option maxRecDepth 20000 in
theorem qz_X9_reckonBlocks {P : Nat → Nat} {S : zm_S} {M : qm} {i1 : Int32} {qi1 : Int} (hS : Sh L xs P S) (hM : qM P S = M) (ei1 : i1.toInt = qi1) : qs (zf_X9_reckonBlocks 20000 1003 i1 S) (qf_X9_reckonBlocks 20000 qi1 M) (tO (rr L xs P vu)) := by
  unfold zf_X9_reckonBlocks qf_X9_reckonBlocks
  refine qs_zi hS pl_1003 ts_1003 ?_
  refine qs_b (qz_X9_sortBlocks hS hM ) (fun v9220 S9220 w9220 M9220 h9220 hS9220 hM9220 => ?_)
  refine qs_gi hS9220 hM9220 pl_1003 ts_1003 (z := 18) rfl rfl (fun v9221 h9221 => ?_)
  refine qs_ite (c_eq h9221 k_0) ?_ ?_
  · refine qs_gi hS9220 hM9220 pl_1003 ts_1003 (z := 14) rfl rfl (fun v9222 h9222 => ?_)
    refine qs_gi hS9220 hM9220 pl_1003 ts_1003 (z := 0) rfl rfl (fun v9223 h9223 => ?_)
    refine qs_ite (c_le h9223 h9222) ?_ ?_
    · refine qs_lr (qz_X9_reckonBlocks_L25 20000 hS9220 hM9220 ei1 k_0) ?_ ?_
      · intro v9225 S9225 w9225 M9225 h9225 hS9225 hM9225
        dsimp only
        exact qs_tr h9225 hS9225 hM9225
      · intro v9225 S9225 w9225 M9225 h9225 hS9225 hM9225
        dsimp only
        refine qs_lr (qz_X9_reckonBlocks_L52 20000 hS9225 hM9225 k_0) ?_ ?_
        · intro v9227 S9227 w9227 M9227 h9227 hS9227 hM9227
          dsimp only
          exact qs_tr h9227 hS9227 hM9227
        · intro v9227 S9227 w9227 M9227 h9227 hS9227 hM9227
          dsimp only
          refine qs_gr hS9227 pl_1003 ts_1003 rfl ?_
          refine qs_xi (i := 0) hM9227 (pa_p hS9227 pl_1138 ts_1138) k_0 (by decide) (fun v9229 h9229 => ?_)
          refine qs_ite (c_lt h9229 k_20000) ?_ ?_
          · refine qs_pi hS9227 hM9227 pl_1003 ts_1003 (z := 18) rfl rfl k_0 (fun S9230 M9230 hS9230 hM9230 => ?_)
            exact qs_tr (show vu _ _ from trivial) hS9230 hM9230
          · refine qs_pi hS9227 hM9227 pl_1003 ts_1003 (z := 18) rfl rfl k_1 (fun S9231 M9231 hS9231 hM9231 => ?_)
            exact qs_tr (show vu _ _ from trivial) hS9231 hM9231
    · exact qs_tr (show vu _ _ from trivial) hS9220 hM9220
  · exact qs_tr (show vu _ _ from trivial) hS9220 hM9220
set_option maxRecDepth 20000 in
theorem qz_X1_spell_J137 {P : Nat → Nat} {S : zm_S} {M : qm} {a0 : Nat} {qa0 : Int} {a1 : Nat} {qa1 : Int} {i2 : Int32} {qi2 : Int} {i3 : Int32} {qi3 : Int} {i4 : Int32} {qi4 : Int} (hS : Sh L xs P S) (hM : qM P S = M) (ra0 : pr a0 1150 8 qa0) (ra1 : pr a1 1159 8 qa1) (ei2 : i2.toInt = qi2) (ei3 : i3.toInt = qi3) (ei4 : i4.toInt = qi4) {k : Nat → Nat → Int32 → Int32 → Int32 → zm_S → Option ((Unit × zm_S) ⊕ ((Int32) × zm_S))} : qs (zf_X1_spell_J137 20000 k a0 a1 i2 i3 i4 S) (qf_X1_spell_J137 20000 qa0 qa1 qi2 qi3 qi4 M) (tk (vs (rr L xs P vu) (rr L xs P vi)) (qc_X1_spell_L97 L xs P k)) := by
  unfold zf_X1_spell_J137 qf_X1_spell_J137
  refine qs_gd (fun g9233 => ?_)
  refine qs_yi hS hM qt_1158 tq_1158 ra1 ei4 g9233 (fun v9232 h9232 => ?_)
  exact qs_tk ⟨_, _, _, _, _, _, rfl, ra0, ra1, ei2, (p_xor ei3 h9232), (p_add ei4 k_1), hS, hM⟩
set_option maxRecDepth 20000 in
theorem qz_X1_spell_L97_b (n : Nat) {P : Nat → Nat} {S : zm_S} {M : qm} {a0 : Nat} {qa0 : Int} {a1 : Nat} {qa1 : Int} {i2 : Int32} {qi2 : Int} {i3 : Int32} {qi3 : Int} {i4 : Int32} {qi4 : Int} (hS : Sh L xs P S) (hM : qM P S = M) (ra0 : pr a0 1150 8 qa0) (ra1 : pr a1 1159 8 qa1) (ei2 : i2.toInt = qi2) (ei3 : i3.toInt = qi3) (ei4 : i4.toInt = qi4) : qs (zf_X1_spell_L97 20000 (n + 1) a0 a1 i2 i3 i4 S) (qf_X1_spell_L97_b 20000 qa0 qa1 qi2 qi3 qi4 M) (tk (vs (rr L xs P vu) (rr L xs P vi)) (qc_X1_spell_L97 L xs P (zf_X1_spell_L97 20000 n))) := by
  refine qs_eq (zf_X1_spell_L97.eq_2 ..) ?_
  unfold qf_X1_spell_L97_b
  refine qs_ite (c_le (p_add k_6 ei2) ei4) ?_ ?_
  · exact qs_tr2 (show vi _ _ from ei3) hS hM
  · refine qs_ite (c_le k_21 ei4) ?_ ?_
    · exact qs_tr2 (show vi _ _ from ei3) hS hM
    · refine qs_ite (c_lt ei4 k_6) ?_ ?_
      · exact (qz_X1_spell_J137 hS hM ra0 ra1 ei2 ei3 ei4)
      · refine qs_yi (j := 5) hS hM qt_1149 tq_1149 ra0 k_5 (by decide) (fun v9234 h9234 => ?_)
        refine qs_gd (fun g9236 => ?_)
        refine qs_ysi hS hM qt_1158 tq_1158 ra1 ei4 g9236 (p_mod (p_sub (p_add h9234 ei4) k_6) k_256) (fun S9235 M9235 hS9235 hM9235 => ?_)
        exact (qz_X1_spell_J137 hS9235 hM9235 ra0 ra1 ei2 ei3 ei4)
theorem qz_X1_spell_L97 (n : Nat) : ∀ {P : Nat → Nat} {S : zm_S} {M : qm} {a0 : Nat} {qa0 : Int} {a1 : Nat} {qa1 : Int} {i2 : Int32} {qi2 : Int} {i3 : Int32} {qi3 : Int} {i4 : Int32} {qi4 : Int} (hS : Sh L xs P S) (hM : qM P S = M) (ra0 : pr a0 1150 8 qa0) (ra1 : pr a1 1159 8 qa1) (ei2 : i2.toInt = qi2) (ei3 : i3.toInt = qi3) (ei4 : i4.toInt = qi4), qs (zf_X1_spell_L97 20000 n a0 a1 i2 i3 i4 S) (qf_X1_spell_L97 20000 n qa0 qa1 qi2 qi3 qi4 M) (tO (vs (rr L xs P vu) (rr L xs P vi))) := by
  induction n with
  | zero =>
    intros
    exact qs_none
  | succ n ih =>
    intro P S M a0 qa0 a1 qa1 i2 qi2 i3 qi3 i4 qi4 hS hM ra0 ra1 ei2 ei3 ei4
    unfold qf_X1_spell_L97
    refine qs_loop (C := (qc_X1_spell_L97 L xs P (zf_X1_spell_L97 20000 n))) (qz_X1_spell_L97_b n hS hM ra0 ra1 ei2 ei3 ei4) ?_
    rintro x s ⟨_, _, _, _, _, _, rfl, u0, u1, u2, u3, u4, hS2, hM2⟩
    exact ih hS2 hM2 u0 u1 u2 u3 u4
set_option maxRecDepth 20000 in
theorem qz_X1_spell_J150 {P : Nat → Nat} {S : zm_S} {M : qm} {a1 : Nat} {qa1 : Int} {i2 : Int32} {qi2 : Int} {i3 : Int32} {qi3 : Int} (hS : Sh L xs P S) (hM : qM P S = M) (ra1 : pr a1 1159 8 qa1) (ei2 : i2.toInt = qi2) (ei3 : i3.toInt = qi3) : qs (zf_X1_spell_J150 20000 a1 i2 i3 S) (qf_X1_spell_J150 20000 qa1 qi2 qi3 M) (tO (rr L xs P vu)) := by
  unfold zf_X1_spell_J150 qf_X1_spell_J150
  refine qs_gd (fun g9238 => ?_)
  refine qs_ysi hS hM qt_1158 tq_1158 ra1 (p_add k_6 ei2) g9238 ei3 (fun S9237 M9237 hS9237 hM9237 => ?_)
  exact qs_tr (show vu _ _ from trivial) hS9237 hM9237
set_option maxRecDepth 20000 in
theorem qz_X1_spell_J85 {P : Nat → Nat} {S : zm_S} {M : qm} {a0 : Nat} {qa0 : Int} {a1 : Nat} {qa1 : Int} {i2 : Int32} {qi2 : Int} {t0 : Nat} {qt0 : Int} {t1 : Int32} {qt1 : Int} {t2 : Int32} {qt2 : Int} (hS : Sh L xs P S) (hM : qM P S = M) (ra0 : pr a0 1150 8 qa0) (ra1 : pr a1 1159 8 qa1) (ei2 : i2.toInt = qi2) (rt0 : pr t0 1159 8 qt0) (et1 : t1.toInt = qt1) (et2 : t2.toInt = qt2) : qs (zf_X1_spell_J85 20000 a0 a1 i2 t0 t1 t2 S) (qf_X1_spell_J85 20000 qa0 qa1 qi2 qt0 qt1 qt2 M) (tO (rr L xs P vu)) := by
  unfold zf_X1_spell_J85 qf_X1_spell_J85
  refine qs_gd (fun g9240 => ?_)
  refine qs_ysi hS hM qt_1158 tq_1158 rt0 et1 g9240 (p_sub (p_add et2 ei2) k_1) (fun S9239 M9239 hS9239 hM9239 => ?_)
  refine qs_lr (qz_X1_spell_L97 20000 hS9239 hM9239 ra0 ra1 ei2 k_255 k_0) ?_ ?_
  · intro v9242 S9242 w9242 M9242 h9242 hS9242 hM9242
    dsimp only
    exact qs_tr h9242 hS9242 hM9242
  · intro v9242 S9242 w9242 M9242 h9242 hS9242 hM9242
    dsimp only
    exact (qz_X1_spell_J150 hS9242 hM9242 ra1 ei2 h9242)
set_option maxRecDepth 20000 in
theorem qz_X1_spell_J28 {P : Nat → Nat} {S : zm_S} {M : qm} {a0 : Nat} {qa0 : Int} {a1 : Nat} {qa1 : Int} {i2 : Int32} {qi2 : Int} {t0 : Nat} {qt0 : Int} {t1 : Int32} {qt1 : Int} {t2 : Int32} {qt2 : Int} {t3 : Int32} {qt3 : Int} (hS : Sh L xs P S) (hM : qM P S = M) (ra0 : pr a0 1150 8 qa0) (ra1 : pr a1 1159 8 qa1) (ei2 : i2.toInt = qi2) (rt0 : pr t0 1159 8 qt0) (et1 : t1.toInt = qt1) (et2 : t2.toInt = qt2) (et3 : t3.toInt = qt3) : qs (zf_X1_spell_J28 20000 a0 a1 i2 t0 t1 t2 t3 S) (qf_X1_spell_J28 20000 qa0 qa1 qi2 qt0 qt1 qt2 qt3 M) (tO (rr L xs P vu)) := by
  unfold zf_X1_spell_J28 qf_X1_spell_J28
  refine qs_gd (fun g9244 => ?_)
  refine qs_ysi hS hM qt_1158 tq_1158 rt0 et1 g9244 (p_sub et2 et3) (fun S9243 M9243 hS9243 hM9243 => ?_)
  refine qs_yi (j := 1) hS9243 hM9243 qt_1149 tq_1149 ra0 k_1 (by decide) (fun v9245 h9245 => ?_)
  refine qs_ysi hS9243 hM9243 qt_1158 tq_1158 ra1 k_1 (by decide) (p_div h9245 k_256 (by decide)) (fun S9246 M9246 hS9246 hM9246 => ?_)
  refine qs_yi (j := 1) hS9246 hM9246 qt_1149 tq_1149 ra0 k_1 (by decide) (fun v9247 h9247 => ?_)
  refine qs_ysi hS9246 hM9246 qt_1158 tq_1158 ra1 k_2 (by decide) (p_mod h9247 k_256) (fun S9248 M9248 hS9248 hM9248 => ?_)
  refine qs_yi (j := 2) hS9248 hM9248 qt_1149 tq_1149 ra0 k_2 (by decide) (fun v9249 h9249 => ?_)
  refine qs_ysi hS9248 hM9248 qt_1158 tq_1158 ra1 k_3 (by decide) (p_div h9249 k_256 (by decide)) (fun S9250 M9250 hS9250 hM9250 => ?_)
  refine qs_yi (j := 2) hS9250 hM9250 qt_1149 tq_1149 ra0 k_2 (by decide) (fun v9251 h9251 => ?_)
  refine qs_ysi hS9250 hM9250 qt_1158 tq_1158 ra1 k_4 (by decide) (p_mod h9251 k_256) (fun S9252 M9252 hS9252 hM9252 => ?_)
  refine qs_yi (j := 3) hS9252 hM9252 qt_1149 tq_1149 ra0 k_3 (by decide) (fun v9253 h9253 => ?_)
  refine qs_ite (c_eq h9253 k_0) ?_ ?_
  · exact (qz_X1_spell_J85 hS9252 hM9252 ra0 ra1 ei2 ra1 k_5 k_0)
  · exact (qz_X1_spell_J85 hS9252 hM9252 ra0 ra1 ei2 ra1 k_5 k_128)
set_option maxRecDepth 20000 in
theorem qz_X1_spell {P : Nat → Nat} {S : zm_S} {M : qm} {a0 : Nat} {qa0 : Int} {a1 : Nat} {qa1 : Int} (hS : Sh L xs P S) (hM : qM P S = M) (ra0 : pr a0 1150 8 qa0) (ra1 : pr a1 1159 8 qa1) : qs (zf_X1_spell 20000 a0 a1 S) (qf_X1_spell 20000 qa0 qa1 M) (tO (rr L xs P vu)) := by
  unfold zf_X1_spell qf_X1_spell
  refine qs_yi (j := 4) hS hM qt_1149 tq_1149 ra0 k_4 (by decide) (fun v9254 h9254 => ?_)
  refine qs_yi (j := 0) hS hM qt_1149 tq_1149 ra0 k_0 (by decide) (fun v9255 h9255 => ?_)
  refine qs_yi (j := 6) hS hM qt_1149 tq_1149 ra0 k_6 (by decide) (fun v9256 h9256 => ?_)
  refine qs_ite (c_le h9256 k_0) ?_ ?_
  · exact (qz_X1_spell_J28 hS hM ra0 ra1 h9254 ra1 k_0 (p_add k_176 (p_mul k_4 h9255)) k_0)
  · exact (qz_X1_spell_J28 hS hM ra0 ra1 h9254 ra1 k_0 (p_add k_176 (p_mul k_4 h9255)) k_32)
set_option maxRecDepth 20000 in
theorem qz_X1_beginSaying_J56 {P : Nat → Nat} {S : zm_S} {M : qm} {i1 : Int32} {qi1 : Int} {a2 : Nat} {qa2 : Int} {a3 : Nat} {qa3 : Int} {t0 : Int32} {qt0 : Int} (hS : Sh L xs P S) (hM : qM P S = M) (ei1 : i1.toInt = qi1) (ra2 : pr a2 1141 8 qa2) (ra3 : pr a3 1150 8 qa3) (et0 : t0.toInt = qt0) : qs (zf_X1_beginSaying_J56 20000 1139 i1 a2 a3 t0 S) (qf_X1_beginSaying_J56 20000 qi1 qa2 qa3 qt0 M) (tO (rr L xs P vu)) := by
  unfold zf_X1_beginSaying_J56 qf_X1_beginSaying_J56
  refine qs_gi hS hM pl_1139 ts_1139 (z := 6) rfl rfl (fun v9257 h9257 => ?_)
  refine qs_ite (c_lt h9257 et0) ?_ ?_
  · exact qs_tr (show vu _ _ from trivial) hS hM
  · refine qs_ysi hS hM qt_1140 tq_1140 ra2 k_1 (by decide) k_0 (fun S9258 M9258 hS9258 hM9258 => ?_)
    refine qs_gr hS9258 pl_1139 ts_1139 rfl ?_
    refine qs_gd (fun g9261 => ?_)
    refine qs_xt hS9258 pl_1158 ts_1158 (Or.inl rfl) ei1 g9261 (fun b9260 r9260 => ?_)
    refine qs_b (qz_X1_spell hS9258 hM9258 ra3 r9260) (fun v9262 S9262 w9262 M9262 h9262 hS9262 hM9262 => ?_)
    exact qs_tr (show vu _ _ from trivial) hS9262 hM9262
set_option maxRecDepth 20000 in
theorem qz_X1_beginSaying_J54 {P : Nat → Nat} {S : zm_S} {M : qm} {i1 : Int32} {qi1 : Int} {a2 : Nat} {qa2 : Int} {a3 : Nat} {qa3 : Int} (hS : Sh L xs P S) (hM : qM P S = M) (ei1 : i1.toInt = qi1) (ra2 : pr a2 1141 8 qa2) (ra3 : pr a3 1150 8 qa3) : qs (zf_X1_beginSaying_J54 20000 1139 i1 a2 a3 S) (qf_X1_beginSaying_J54 20000 qi1 qa2 qa3 M) (tO (rr L xs P vu)) := by
  unfold zf_X1_beginSaying_J54 qf_X1_beginSaying_J54
  exact (qz_X1_beginSaying_J56 hS hM ei1 ra2 ra3 k_50)
set_option maxRecDepth 20000 in
theorem qz_X1_beginSaying {P : Nat → Nat} {S : zm_S} {M : qm} {i1 : Int32} {qi1 : Int} (hS : Sh L xs P S) (hM : qM P S = M) (ei1 : i1.toInt = qi1) : qs (zf_X1_beginSaying 20000 1139 i1 S) (qf_X1_beginSaying 20000 qi1 M) (tO (rr L xs P vu)) := by
  unfold zf_X1_beginSaying qf_X1_beginSaying
  refine qs_gr hS pl_1139 ts_1139 rfl ?_
  refine qs_gd (fun g9265 => ?_)
  refine qs_xt hS pl_1140 ts_1140 (Or.inl rfl) ei1 g9265 (fun b9264 r9264 => ?_)
  refine qs_yi (j := 1) hS hM qt_1140 tq_1140 r9264 k_1 (by decide) (fun v9266 h9266 => ?_)
  refine qs_ite (c_eq h9266 k_m1) ?_ ?_
  · refine qs_yi (j := 2) hS hM qt_1140 tq_1140 r9264 k_2 (by decide) (fun v9267 h9267 => ?_)
    refine qs_ite (c_eq h9267 k_m1) ?_ ?_
    · refine qs_yi (j := 0) hS hM qt_1140 tq_1140 r9264 k_0 (by decide) (fun v9268 h9268 => ?_)
      refine qs_ite (c_eq h9268 k_0) ?_ ?_
      · exact qs_tr (show vu _ _ from trivial) hS hM
      · refine qs_gr hS pl_1139 ts_1139 rfl ?_
        refine qs_gd (fun g9271 => ?_)
        refine qs_xt hS pl_1149 ts_1149 (Or.inl rfl) ei1 g9271 (fun b9270 r9270 => ?_)
        refine qs_yi (j := 0) hS hM qt_1149 tq_1149 r9270 k_0 (by decide) (fun v9272 h9272 => ?_)
        refine qs_ite (c_lt h9272 k_2) ?_ ?_
        · exact (qz_X1_beginSaying_J54 hS hM ei1 r9264 r9270)
        · refine qs_yi (j := 6) hS hM qt_1149 tq_1149 r9270 k_6 (by decide) (fun v9273 h9273 => ?_)
          refine qs_ite (c_eq h9273 k_0) ?_ ?_
          · exact (qz_X1_beginSaying_J56 hS hM ei1 r9264 r9270 k_53)
          · exact (qz_X1_beginSaying_J54 hS hM ei1 r9264 r9270)
    · exact qs_tr (show vu _ _ from trivial) hS hM
  · exact qs_tr (show vu _ _ from trivial) hS hM
set_option maxRecDepth 20000 in
theorem qz_X1_runBitTime_L37_b (n : Nat) {P : Nat → Nat} {S : zm_S} {M : qm} {i1 : Int32} {qi1 : Int} (hS : Sh L xs P S) (hM : qM P S = M) (ei1 : i1.toInt = qi1) : qs (zf_X1_runBitTime_L37 20000 (n + 1) 1139 i1 S) (qf_X1_runBitTime_L37_b 20000 qi1 M) (tk (vs (rr L xs P vu) (rr L xs P vu)) (qc_X1_runBitTime_L37 L xs P (zf_X1_runBitTime_L37 20000 n))) := by
  refine qs_eq (zf_X1_runBitTime_L37.eq_2 ..) ?_
  unfold qf_X1_runBitTime_L37_b
  refine qs_ite (c_le k_8 ei1) ?_ ?_
  · exact qs_tr2 (show vu _ _ from trivial) hS hM
  · refine qs_zi hS pl_1139 ts_1139 ?_
    refine qs_b (qz_X1_beginSaying hS hM ei1) (fun v9275 S9275 w9275 M9275 h9275 hS9275 hM9275 => ?_)
    exact qs_tk ⟨_, _, rfl, (p_add ei1 k_1), hS9275, hM9275⟩
theorem qz_X1_runBitTime_L37 (n : Nat) : ∀ {P : Nat → Nat} {S : zm_S} {M : qm} {i1 : Int32} {qi1 : Int} (hS : Sh L xs P S) (hM : qM P S = M) (ei1 : i1.toInt = qi1), qs (zf_X1_runBitTime_L37 20000 n 1139 i1 S) (qf_X1_runBitTime_L37 20000 n qi1 M) (tO (vs (rr L xs P vu) (rr L xs P vu))) := by
  induction n with
  | zero =>
    intros
    exact qs_none
  | succ n ih =>
    intro P S M i1 qi1 hS hM ei1
    unfold qf_X1_runBitTime_L37
    refine qs_loop (C := (qc_X1_runBitTime_L37 L xs P (zf_X1_runBitTime_L37 20000 n))) (qz_X1_runBitTime_L37_b n hS hM ei1) ?_
    rintro x s ⟨_, _, rfl, u0, hS2, hM2⟩
    exact ih hS2 hM2 u0
set_option maxRecDepth 20000 in
theorem qz_X1_characterBit {P : Nat → Nat} {S : zm_S} {M : qm} {i0 : Int32} {qi0 : Int} {i1 : Int32} {qi1 : Int} (hS : Sh L xs P S) (hM : qM P S = M) (ei0 : i0.toInt = qi0) (ei1 : i1.toInt = qi1) : qs (zf_X1_characterBit 20000 i0 i1 S) (qf_X1_characterBit 20000 qi0 qi1 M) (tO (rp L xs P M vi)) := by
  unfold zf_X1_characterBit qf_X1_characterBit
  refine qs_ite (c_eq ei1 k_0) ?_ ?_
  · exact qs_tp (show vi _ _ from k_0) hS hM
  · refine qs_ite (c_lt k_8 ei1) ?_ ?_
    · refine qs_ite (c_eq ei1 k_9) ?_ ?_
      · refine qs_bp (qz_J6_bitCount_0f7a4 hS hM ei0) (fun v9276 S9276 w9276 h9276 hS9276 hM9276 => ?_)
        exact qs_tp (show vi _ _ from (p_and h9276 k_1)) hS9276 hM9276
      · exact qs_tp (show vi _ _ from k_1) hS hM
    · exact qs_tp (show vi _ _ from (p_and (p_shr ei0 (p_sub ei1 k_1)) k_1)) hS hM
set_option maxRecDepth 20000 in
theorem qz_X1_lineNow_J75 {P : Nat → Nat} {S : zm_S} {M : qm} {i1 : Int32} {qi1 : Int} {i3 : Int32} {qi3 : Int} {a4 : Nat} {qa4 : Int} (hS : Sh L xs P S) (hM : qM P S = M) (ei1 : i1.toInt = qi1) (ei3 : i3.toInt = qi3) (ra4 : pr a4 1141 8 qa4) {k : Nat → Int32 → Int32 → zm_S → Option ((Int32 × zm_S) ⊕ ((Int32) × zm_S))} : qs (zf_X1_lineNow_J75 20000 k 1139 i1 i3 a4 S) (qf_X1_lineNow_J75 20000 qi1 qi3 qa4 M) (tk (vs (rp L xs P M vi) (rp L xs P M vi)) (qc_X1_lineNow_L43 L xs P M k)) := by
  unfold zf_X1_lineNow_J75 qf_X1_lineNow_J75
  refine qs_yi (j := 9) hS hM qt_1140 tq_1140 ra4 k_9 (by decide) (fun v9277 h9277 => ?_)
  refine qs_ite (c_eq h9277 k_m1) ?_ ?_
  · exact qs_tk ⟨_, _, _, rfl, ei1, (p_add ei3 k_1), hS, hM⟩
  · refine qs_yi (j := 8) hS hM qt_1140 tq_1140 ra4 k_8 (by decide) (fun v9278 h9278 => ?_)
    refine qs_yi (j := 9) hS hM qt_1140 tq_1140 ra4 k_9 (by decide) (fun v9279 h9279 => ?_)
    refine qs_bp (qz_X1_characterBit hS hM h9278 h9279) (fun v9280 S9280 w9280 h9280 hS9280 hM9280 => ?_)
    refine qs_ite (c_eq h9280 k_0) ?_ ?_
    · exact qs_tk ⟨_, _, _, rfl, k_0, (p_add ei3 k_1), hS9280, hM9280⟩
    · exact qs_tk ⟨_, _, _, rfl, ei1, (p_add ei3 k_1), hS9280, hM9280⟩
set_option maxRecDepth 20000 in
theorem qz_X1_saidBit {P : Nat → Nat} {S : zm_S} {M : qm} {i1 : Int32} {qi1 : Int} (hS : Sh L xs P S) (hM : qM P S = M) (ei1 : i1.toInt = qi1) : qs (zf_X1_saidBit 20000 1139 i1 S) (qf_X1_saidBit 20000 qi1 M) (tO (rp L xs P M vi)) := by
  unfold zf_X1_saidBit qf_X1_saidBit
  refine qs_gr hS pl_1139 ts_1139 rfl ?_
  refine qs_gd (fun g9283 => ?_)
  refine qs_xt hS pl_1140 ts_1140 (Or.inl rfl) ei1 g9283 (fun b9282 r9282 => ?_)
  refine qs_yi (j := 1) hS hM qt_1140 tq_1140 r9282 k_1 (by decide) (fun v9284 h9284 => ?_)
  refine qs_gr hS pl_1139 ts_1139 rfl ?_
  refine qs_gd (fun g9287 => ?_)
  refine qs_xt hS pl_1158 ts_1158 (Or.inl rfl) ei1 g9287 (fun b9286 r9286 => ?_)
  refine qs_gd (fun g9289 => ?_)
  refine qs_yi hS hM qt_1158 tq_1158 r9286 (p_div h9284 k_13 (by decide)) g9289 (fun v9288 h9288 => ?_)
  refine qs_bp (qz_X1_characterBit hS hM h9288 (p_mod h9284 k_13)) (fun v9290 S9290 w9290 h9290 hS9290 hM9290 => ?_)
  exact qs_tp (show vi _ _ from h9290) hS9290 hM9290
set_option maxRecDepth 20000 in
theorem qz_X1_lineNow_L43_b (n : Nat) {P : Nat → Nat} {S : zm_S} {M : qm} {i1 : Int32} {qi1 : Int} {i3 : Int32} {qi3 : Int} (hS : Sh L xs P S) (hM : qM P S = M) (ei1 : i1.toInt = qi1) (ei3 : i3.toInt = qi3) : qs (zf_X1_lineNow_L43 20000 (n + 1) 1139 i1 i3 S) (qf_X1_lineNow_L43_b 20000 qi1 qi3 M) (tk (vs (rp L xs P M vi) (rp L xs P M vi)) (qc_X1_lineNow_L43 L xs P M (zf_X1_lineNow_L43 20000 n))) := by
  refine qs_eq (zf_X1_lineNow_L43.eq_2 ..) ?_
  unfold qf_X1_lineNow_L43_b
  refine qs_ite (c_le k_8 ei3) ?_ ?_
  · exact qs_tp2 (show vi _ _ from ei1) hS hM
  · refine qs_gr hS pl_1139 ts_1139 rfl ?_
    refine qs_gd (fun g9293 => ?_)
    refine qs_xt hS pl_1140 ts_1140 (Or.inl rfl) ei3 g9293 (fun b9292 r9292 => ?_)
    refine qs_yi (j := 1) hS hM qt_1140 tq_1140 r9292 k_1 (by decide) (fun v9294 h9294 => ?_)
    refine qs_ite (c_eq h9294 k_m1) ?_ ?_
    · exact (qz_X1_lineNow_J75 hS hM ei1 ei3 r9292)
    · refine qs_zi hS pl_1139 ts_1139 ?_
      refine qs_bp (qz_X1_saidBit hS hM ei3) (fun v9296 S9296 w9296 h9296 hS9296 hM9296 => ?_)
      refine qs_ite (c_eq h9296 k_0) ?_ ?_
      · exact (qz_X1_lineNow_J75 hS9296 hM9296 k_0 ei3 r9292)
      · exact (qz_X1_lineNow_J75 hS9296 hM9296 ei1 ei3 r9292)
theorem qz_X1_lineNow_L43 (n : Nat) : ∀ {P : Nat → Nat} {S : zm_S} {M : qm} {i1 : Int32} {qi1 : Int} {i3 : Int32} {qi3 : Int} (hS : Sh L xs P S) (hM : qM P S = M) (ei1 : i1.toInt = qi1) (ei3 : i3.toInt = qi3), qs (zf_X1_lineNow_L43 20000 n 1139 i1 i3 S) (qf_X1_lineNow_L43 20000 n qi1 qi3 M) (tO (vs (rp L xs P M vi) (rp L xs P M vi))) := by
  induction n with
  | zero =>
    intros
    exact qs_none
  | succ n ih =>
    intro P S M i1 qi1 i3 qi3 hS hM ei1 ei3
    unfold qf_X1_lineNow_L43
    refine qs_loop (C := (qc_X1_lineNow_L43 L xs P M (zf_X1_lineNow_L43 20000 n))) (qz_X1_lineNow_L43_b n hS hM ei1 ei3) ?_
    rintro x s ⟨_, _, _, rfl, u0, u1, hS2, hM2⟩
    exact ih hS2 hM2 u0 u1
set_option maxRecDepth 20000 in
theorem qz_X1_lineNow_J41 {P : Nat → Nat} {S : zm_S} {M : qm} {i1 : Int32} {qi1 : Int} (hS : Sh L xs P S) (hM : qM P S = M) (ei1 : i1.toInt = qi1) : qs (zf_X1_lineNow_J41 20000 1139 i1 S) (qf_X1_lineNow_J41 20000 qi1 M) (tO (rr L xs P vi)) := by
  unfold zf_X1_lineNow_J41 qf_X1_lineNow_J41
  refine qs_lp (qz_X1_lineNow_L43 20000 hS hM ei1 k_0) ?_ ?_
  · intro v9298 S9298 w9298 h9298 hS9298 hM9298
    dsimp only
    exact qs_tr h9298 hS9298 hM9298
  · intro v9298 S9298 w9298 h9298 hS9298 hM9298
    dsimp only
    exact qs_tr (show vi _ _ from h9298) hS9298 hM9298
set_option maxRecDepth 20000 in
theorem qz_X1_lineNow {P : Nat → Nat} {S : zm_S} {M : qm}  (hS : Sh L xs P S) (hM : qM P S = M)  : qs (zf_X1_lineNow 20000 1139 S) (qf_X1_lineNow 20000 M) (tO (rr L xs P vi)) := by
  unfold zf_X1_lineNow qf_X1_lineNow
  refine qs_gi hS hM pl_1139 ts_1139 (z := 5) rfl rfl (fun v9299 h9299 => ?_)
  refine qs_gr hS pl_1139 ts_1139 rfl ?_
  refine qs_n (pa_p hS pl_1168 ts_1168) (by decide) (x := 2001) (by decide) (fun v9301 h9301 => ?_)
  refine qs_ite (cN_eq (x := 2001) (y := 0) h9301 k_0) ?_ ?_
  · exact qs_none
  · refine qs_gr hS pl_1139 ts_1139 rfl ?_
    refine qs_gd (fun g9304 => ?_)
    refine qs_xi hM (pa_p hS pl_1168 ts_1168) (p_mod h9299 h9301) g9304 (fun v9303 h9303 => ?_)
    refine qs_ite (c_eq h9303 k_0) ?_ ?_
    · exact (qz_X1_lineNow_J41 hS hM k_1)
    · refine qs_gr hS pl_1139 ts_1139 rfl ?_
      refine qs_gd (fun g9307 => ?_)
      refine qs_sz hS hM (pa_p hS pl_1168 ts_1168) (p_mod h9299 h9301) g9307 k_0 (by decide) (fun S9306 M9306 hS9306 hM9306 => ?_)
      refine qs_gi hS9306 hM9306 pl_1139 ts_1139 (z := 8) rfl rfl (fun v9308 h9308 => ?_)
      refine qs_pi hS9306 hM9306 pl_1139 ts_1139 (z := 8) rfl rfl (p_sub h9308 k_1) (fun S9309 M9309 hS9309 hM9309 => ?_)
      exact (qz_X1_lineNow_J41 hS9309 hM9309 k_0)
set_option maxRecDepth 20000 in
theorem qz_X1_goOnSaying_J40 {P : Nat → Nat} {S : zm_S} {M : qm} {i1 : Int32} {qi1 : Int} {a3 : Nat} {qa3 : Int} (hS : Sh L xs P S) (hM : qM P S = M) (ei1 : i1.toInt = qi1) (ra3 : pr a3 1141 8 qa3) : qs (zf_X1_goOnSaying_J40 20000 1139 i1 a3 S) (qf_X1_goOnSaying_J40 20000 qi1 qa3 M) (tO (rr L xs P vu)) := by
  unfold zf_X1_goOnSaying_J40 qf_X1_goOnSaying_J40
  refine qs_yi (j := 1) hS hM qt_1140 tq_1140 ra3 k_1 (by decide) (fun v9310 h9310 => ?_)
  refine qs_ysi hS hM qt_1140 tq_1140 ra3 k_1 (by decide) (p_add h9310 k_1) (fun S9311 M9311 hS9311 hM9311 => ?_)
  refine qs_gr hS9311 pl_1139 ts_1139 rfl ?_
  refine qs_gd (fun g9314 => ?_)
  refine qs_xt hS9311 pl_1149 ts_1149 (Or.inl rfl) ei1 g9314 (fun b9313 r9313 => ?_)
  refine qs_yi (j := 4) hS9311 hM9311 qt_1149 tq_1149 r9313 k_4 (by decide) (fun v9315 h9315 => ?_)
  refine qs_yi (j := 1) hS9311 hM9311 qt_1140 tq_1140 ra3 k_1 (by decide) (fun v9316 h9316 => ?_)
  refine qs_ite (c_lt h9316 (p_sub (p_mul (p_add k_7 h9315) k_13) k_2)) ?_ ?_
  · exact qs_tr (show vu _ _ from trivial) hS9311 hM9311
  · refine qs_ysi hS9311 hM9311 qt_1140 tq_1140 ra3 k_1 (by decide) k_m1 (fun S9317 M9317 hS9317 hM9317 => ?_)
    refine qs_gi hS9317 hM9317 pl_1139 ts_1139 (z := 5) rfl rfl (fun v9318 h9318 => ?_)
    refine qs_ysi hS9317 hM9317 qt_1140 tq_1140 ra3 k_2 (by decide) (p_add h9318 k_28) (fun S9319 M9319 hS9319 hM9319 => ?_)
    refine qs_gr hS9319 pl_1139 ts_1139 rfl ?_
    refine qs_gd (fun g9322 => ?_)
    refine qs_xt hS9319 pl_1149 ts_1149 (Or.inl rfl) ei1 g9322 (fun b9321 r9321 => ?_)
    refine qs_yi (j := 6) hS9319 hM9319 qt_1149 tq_1149 r9321 k_6 (by decide) (fun v9323 h9323 => ?_)
    refine qs_ysi hS9319 hM9319 qt_1149 tq_1149 r9321 k_6 (by decide) (p_add h9323 k_1) (fun S9324 M9324 hS9324 hM9324 => ?_)
    exact qs_tr (show vu _ _ from trivial) hS9324 hM9324
set_option maxRecDepth 20000 in
theorem qz_X1_goOnSaying {P : Nat → Nat} {S : zm_S} {M : qm} {i1 : Int32} {qi1 : Int} {i2 : Int32} {qi2 : Int} (hS : Sh L xs P S) (hM : qM P S = M) (ei1 : i1.toInt = qi1) (ei2 : i2.toInt = qi2) : qs (zf_X1_goOnSaying 20000 1139 i1 i2 S) (qf_X1_goOnSaying 20000 qi1 qi2 M) (tO (rr L xs P vu)) := by
  unfold zf_X1_goOnSaying qf_X1_goOnSaying
  refine qs_gr hS pl_1139 ts_1139 rfl ?_
  refine qs_gd (fun g9327 => ?_)
  refine qs_xt hS pl_1140 ts_1140 (Or.inl rfl) ei1 g9327 (fun b9326 r9326 => ?_)
  refine qs_yi (j := 1) hS hM qt_1140 tq_1140 r9326 k_1 (by decide) (fun v9328 h9328 => ?_)
  refine qs_ite (c_eq h9328 k_m1) ?_ ?_
  · exact qs_tr (show vu _ _ from trivial) hS hM
  · refine qs_ite (c_eq ei2 k_0) ?_ ?_
    · refine qs_zi hS pl_1139 ts_1139 ?_
      refine qs_bp (qz_X1_saidBit hS hM ei1) (fun v9330 S9330 w9330 h9330 hS9330 hM9330 => ?_)
      refine qs_ite (c_eq h9330 k_1) ?_ ?_
      · refine qs_ysi hS9330 hM9330 qt_1140 tq_1140 r9326 k_1 (by decide) k_m1 (fun S9331 M9331 hS9331 hM9331 => ?_)
        refine qs_yi (j := 5) hS9331 hM9331 qt_1140 tq_1140 r9326 k_5 (by decide) (fun v9332 h9332 => ?_)
        refine qs_ysi hS9331 hM9331 qt_1140 tq_1140 r9326 k_5 (by decide) (p_add h9332 k_1) (fun S9333 M9333 hS9333 hM9333 => ?_)
        exact qs_tr (show vu _ _ from trivial) hS9333 hM9333
      · exact (qz_X1_goOnSaying_J40 hS9330 hM9330 ei1 r9326)
    · exact (qz_X1_goOnSaying_J40 hS hM ei1 r9326)
set_option maxRecDepth 20000 in
theorem qz_X1_goOnAnswering {P : Nat → Nat} {S : zm_S} {M : qm} {i1 : Int32} {qi1 : Int} (hS : Sh L xs P S) (hM : qM P S = M) (ei1 : i1.toInt = qi1) : qs (zf_X1_goOnAnswering 20000 1139 i1 S) (qf_X1_goOnAnswering 20000 qi1 M) (tO (rr L xs P vu)) := by
  unfold zf_X1_goOnAnswering qf_X1_goOnAnswering
  refine qs_gr hS pl_1139 ts_1139 rfl ?_
  refine qs_gd (fun g9336 => ?_)
  refine qs_xt hS pl_1140 ts_1140 (Or.inl rfl) ei1 g9336 (fun b9335 r9335 => ?_)
  refine qs_yi (j := 9) hS hM qt_1140 tq_1140 r9335 k_9 (by decide) (fun v9337 h9337 => ?_)
  refine qs_ite (c_eq h9337 k_m1) ?_ ?_
  · exact qs_tr (show vu _ _ from trivial) hS hM
  · refine qs_yi (j := 9) hS hM qt_1140 tq_1140 r9335 k_9 (by decide) (fun v9338 h9338 => ?_)
    refine qs_ite (c_le k_11 (p_add h9338 k_1)) ?_ ?_
    · refine qs_ysi hS hM qt_1140 tq_1140 r9335 k_9 (by decide) k_m1 (fun S9339 M9339 hS9339 hM9339 => ?_)
      exact qs_tr (show vu _ _ from trivial) hS9339 hM9339
    · refine qs_yi (j := 9) hS hM qt_1140 tq_1140 r9335 k_9 (by decide) (fun v9340 h9340 => ?_)
      refine qs_ysi hS hM qt_1140 tq_1140 r9335 k_9 (by decide) (p_add h9340 k_1) (fun S9341 M9341 hS9341 hM9341 => ?_)
      exact qs_tr (show vu _ _ from trivial) hS9341 hM9341
set_option maxRecDepth 20000 in
theorem qz_X1_runBitTime_L61_b (n : Nat) {P : Nat → Nat} {S : zm_S} {M : qm} {i1 : Int32} {qi1 : Int} {i2 : Int32} {qi2 : Int} (hS : Sh L xs P S) (hM : qM P S = M) (ei1 : i1.toInt = qi1) (ei2 : i2.toInt = qi2) : qs (zf_X1_runBitTime_L61 20000 (n + 1) 1139 i1 i2 S) (qf_X1_runBitTime_L61_b 20000 qi1 qi2 M) (tk (vs (rr L xs P vu) (rr L xs P vu)) (qc_X1_runBitTime_L61 L xs P (zf_X1_runBitTime_L61 20000 n))) := by
  refine qs_eq (zf_X1_runBitTime_L61.eq_2 ..) ?_
  unfold qf_X1_runBitTime_L61_b
  refine qs_ite (c_le k_8 ei2) ?_ ?_
  · exact qs_tr2 (show vu _ _ from trivial) hS hM
  · refine qs_zi hS pl_1139 ts_1139 ?_
    refine qs_b (qz_X1_goOnSaying hS hM ei2 ei1) (fun v9343 S9343 w9343 M9343 h9343 hS9343 hM9343 => ?_)
    refine qs_zi hS9343 pl_1139 ts_1139 ?_
    refine qs_b (qz_X1_goOnAnswering hS9343 hM9343 ei2) (fun v9345 S9345 w9345 M9345 h9345 hS9345 hM9345 => ?_)
    exact qs_tk ⟨_, _, _, rfl, ei1, (p_add ei2 k_1), hS9345, hM9345⟩
theorem qz_X1_runBitTime_L61 (n : Nat) : ∀ {P : Nat → Nat} {S : zm_S} {M : qm} {i1 : Int32} {qi1 : Int} {i2 : Int32} {qi2 : Int} (hS : Sh L xs P S) (hM : qM P S = M) (ei1 : i1.toInt = qi1) (ei2 : i2.toInt = qi2), qs (zf_X1_runBitTime_L61 20000 n 1139 i1 i2 S) (qf_X1_runBitTime_L61 20000 n qi1 qi2 M) (tO (vs (rr L xs P vu) (rr L xs P vu))) := by
  induction n with
  | zero =>
    intros
    exact qs_none
  | succ n ih =>
    intro P S M i1 qi1 i2 qi2 hS hM ei1 ei2
    unfold qf_X1_runBitTime_L61
    refine qs_loop (C := (qc_X1_runBitTime_L61 L xs P (zf_X1_runBitTime_L61 20000 n))) (qz_X1_runBitTime_L61_b n hS hM ei1 ei2) ?_
    rintro x s ⟨_, _, _, rfl, u0, u1, hS2, hM2⟩
    exact ih hS2 hM2 u0 u1
set_option maxRecDepth 20000 in
theorem qz_X1_beginCharacter {P : Nat → Nat} {S : zm_S} {M : qm}  (hS : Sh L xs P S) (hM : qM P S = M)  : qs (zf_X1_beginCharacter 20000 1139 S) (qf_X1_beginCharacter 20000 M) (tO (rr L xs P vu)) := by
  unfold zf_X1_beginCharacter qf_X1_beginCharacter
  refine qs_pi hS hM pl_1139 ts_1139 (z := 10) rfl rfl k_0 (fun S9346 M9346 hS9346 hM9346 => ?_)
  refine qs_pi hS9346 hM9346 pl_1139 ts_1139 (z := 9) rfl rfl k_1 (fun S9347 M9347 hS9347 hM9347 => ?_)
  exact qs_tr (show vu _ _ from trivial) hS9347 hM9347
set_option maxRecDepth 20000 in
theorem qz_X1_beginHearing {P : Nat → Nat} {S : zm_S} {M : qm}  (hS : Sh L xs P S) (hM : qM P S = M)  : qs (zf_X1_beginHearing 20000 1139 S) (qf_X1_beginHearing 20000 M) (tO (rr L xs P vu)) := by
  unfold zf_X1_beginHearing qf_X1_beginHearing
  refine qs_pi hS hM pl_1139 ts_1139 (z := 13) rfl rfl k_0 (fun S9348 M9348 hS9348 hM9348 => ?_)
  refine qs_pi hS9348 hM9348 pl_1139 ts_1139 (z := 11) rfl rfl k_0 (fun S9349 M9349 hS9349 hM9349 => ?_)
  refine qs_zi hS9349 pl_1139 ts_1139 ?_
  refine qs_b (qz_X1_beginCharacter hS9349 hM9349 ) (fun v9351 S9351 w9351 M9351 h9351 hS9351 hM9351 => ?_)
  exact qs_tr (show vu _ _ from trivial) hS9351 hM9351
set_option maxRecDepth 20000 in
theorem qz_X1_complete_J112 {P : Nat → Nat} {S : zm_S} {M : qm} {t1 : Int32} {qt1 : Int} (hS : Sh L xs P S) (hM : qM P S = M) (et1 : t1.toInt = qt1) : qs (zf_X1_complete_J112 20000 1171 t1 S) (qf_X1_complete_J112 20000 qt1 M) (tO (rr L xs P vu)) := by
  unfold zf_X1_complete_J112 qf_X1_complete_J112
  refine qs_gd (fun g9353 => ?_)
  refine qs_xi hM (pa_p hS pl_1171 ts_1171) et1 g9353 (fun v9352 h9352 => ?_)
  refine qs_gd (fun g9355 => ?_)
  refine qs_si hS hM (pa_p hS pl_1171 ts_1171) et1 g9355 (p_add h9352 k_1) (fun S9354 M9354 hS9354 hM9354 => ?_)
  exact qs_tr (show vu _ _ from trivial) hS9354 hM9354
set_option maxRecDepth 20000 in
theorem qz_X1_complete_J78 {P : Nat → Nat} {S : zm_S} {M : qm} {t0 : Int32} {qt0 : Int} (hS : Sh L xs P S) (hM : qM P S = M) (et0 : t0.toInt = qt0) : qs (zf_X1_complete_J78 20000 1139 t0 S) (qf_X1_complete_J78 20000 qt0 M) (tO (rr L xs P vu)) := by
  unfold zf_X1_complete_J78 qf_X1_complete_J78
  refine qs_ite (c_eq et0 k_0) ?_ ?_
  · refine qs_gr hS pl_1139 ts_1139 rfl ?_
    refine qs_xi (i := 2) hM (pa_p hS pl_1171 ts_1171) k_2 (by decide) (fun v9357 h9357 => ?_)
    refine qs_si hS hM (pa_p hS pl_1171 ts_1171) k_2 (by decide) (p_add h9357 k_1) (fun S9358 M9358 hS9358 hM9358 => ?_)
    exact qs_tr (show vu _ _ from trivial) hS9358 hM9358
  · refine qs_gr hS pl_1139 ts_1139 rfl ?_
    refine qs_xi (i := 0) hM (pa_p hS pl_1169 ts_1169) k_0 (by decide) (fun v9360 h9360 => ?_)
    refine qs_pi hS hM pl_1139 ts_1139 (z := 18) rfl rfl h9360 (fun S9361 M9361 hS9361 hM9361 => ?_)
    refine qs_gr hS9361 pl_1139 ts_1139 rfl ?_
    refine qs_gi hS9361 hM9361 pl_1139 ts_1139 (z := 18) rfl rfl (fun v9363 h9363 => ?_)
    refine qs_ite (c_eq h9363 k_204) ?_ ?_
    · exact (qz_X1_complete_J112 hS9361 hM9361 k_3)
    · exact (qz_X1_complete_J112 hS9361 hM9361 k_4)
set_option maxRecDepth 20000 in
theorem qz_X1_complete_J77 {P : Nat → Nat} {S : zm_S} {M : qm}  (hS : Sh L xs P S) (hM : qM P S = M)  : qs (zf_X1_complete_J77 20000 1139 S) (qf_X1_complete_J77 20000 M) (tO (rr L xs P vu)) := by
  unfold zf_X1_complete_J77 qf_X1_complete_J77
  exact (qz_X1_complete_J78 hS hM k_0)
set_option maxRecDepth 20000 in
theorem qz_X1_complete_J37 {P : Nat → Nat} {S : zm_S} {M : qm} {i1 : Int32} {qi1 : Int} (hS : Sh L xs P S) (hM : qM P S = M) (ei1 : i1.toInt = qi1) : qs (zf_X1_complete_J37 20000 1139 i1 S) (qf_X1_complete_J37 20000 qi1 M) (tO (rr L xs P vu)) := by
  unfold zf_X1_complete_J37 qf_X1_complete_J37
  refine qs_pi hS hM pl_1139 ts_1139 (z := 17) rfl rfl k_0 (fun S9364 M9364 hS9364 hM9364 => ?_)
  refine qs_gi hS9364 hM9364 pl_1139 ts_1139 (z := 13) rfl rfl (fun v9365 h9365 => ?_)
  refine qs_ite (c_eq h9365 k_1) ?_ ?_
  · refine qs_gi hS9364 hM9364 pl_1139 ts_1139 (z := 11) rfl rfl (fun v9366 h9366 => ?_)
    refine qs_ite (c_eq h9366 k_0) ?_ ?_
    · refine qs_gi hS9364 hM9364 pl_1139 ts_1139 (z := 16) rfl rfl (fun v9367 h9367 => ?_)
      refine qs_ite (c_eq ei1 (p_sub (p_add (p_add h9367 k_14) k_11) k_1)) ?_ ?_
      · exact (qz_X1_complete_J78 hS9364 hM9364 k_1)
      · exact (qz_X1_complete_J77 hS9364 hM9364 )
    · exact (qz_X1_complete_J77 hS9364 hM9364 )
  · exact (qz_X1_complete_J77 hS9364 hM9364 )
set_option maxRecDepth 20000 in
theorem qz_X1_isLatestRight_L6_b (n : Nat) {P : Nat → Nat} {S : zm_S} {M : qm} {i1 : Int32} {qi1 : Int} {i2 : Int32} {qi2 : Int} (hS : Sh L xs P S) (hM : qM P S = M) (ei1 : i1.toInt = qi1) (ei2 : i2.toInt = qi2) : qs (zf_X1_isLatestRight_L6 20000 (n + 1) 1139 i1 i2 S) (qf_X1_isLatestRight_L6_b 20000 qi1 qi2 M) (tk (vs (rp L xs P M vi) (rp L xs P M vi)) (qc_X1_isLatestRight_L6 L xs P M (zf_X1_isLatestRight_L6 20000 n))) := by
  refine qs_eq (zf_X1_isLatestRight_L6.eq_2 ..) ?_
  unfold qf_X1_isLatestRight_L6_b
  refine qs_gi hS hM pl_1139 ts_1139 (z := 15) rfl rfl (fun v9368 h9368 => ?_)
  refine qs_ite (c_le (p_sub h9368 k_1) ei2) ?_ ?_
  · exact qs_tp2 (show vi _ _ from ei1) hS hM
  · refine qs_gr hS pl_1139 ts_1139 rfl ?_
    refine qs_gd (fun g9371 => ?_)
    refine qs_xi hM (pa_p hS pl_1170 ts_1170) ei2 g9371 (fun v9370 h9370 => ?_)
    exact qs_tk ⟨_, _, _, rfl, (p_xor ei1 h9370), (p_add ei2 k_1), hS, hM⟩
theorem qz_X1_isLatestRight_L6 (n : Nat) : ∀ {P : Nat → Nat} {S : zm_S} {M : qm} {i1 : Int32} {qi1 : Int} {i2 : Int32} {qi2 : Int} (hS : Sh L xs P S) (hM : qM P S = M) (ei1 : i1.toInt = qi1) (ei2 : i2.toInt = qi2), qs (zf_X1_isLatestRight_L6 20000 n 1139 i1 i2 S) (qf_X1_isLatestRight_L6 20000 n qi1 qi2 M) (tO (vs (rp L xs P M vi) (rp L xs P M vi))) := by
  induction n with
  | zero =>
    intros
    exact qs_none
  | succ n ih =>
    intro P S M i1 qi1 i2 qi2 hS hM ei1 ei2
    unfold qf_X1_isLatestRight_L6
    refine qs_loop (C := (qc_X1_isLatestRight_L6 L xs P M (zf_X1_isLatestRight_L6 20000 n))) (qz_X1_isLatestRight_L6_b n hS hM ei1 ei2) ?_
    rintro x s ⟨_, _, _, rfl, u0, u1, hS2, hM2⟩
    exact ih hS2 hM2 u0 u1
set_option maxRecDepth 20000 in
theorem qz_X1_isLatestRight {P : Nat → Nat} {S : zm_S} {M : qm}  (hS : Sh L xs P S) (hM : qM P S = M)  : qs (zf_X1_isLatestRight 20000 1139 S) (qf_X1_isLatestRight 20000 M) (tO (rp L xs P M vi)) := by
  unfold zf_X1_isLatestRight qf_X1_isLatestRight
  refine qs_lp (qz_X1_isLatestRight_L6 20000 hS hM k_255 k_0) ?_ ?_
  · intro v9373 S9373 w9373 h9373 hS9373 hM9373
    dsimp only
    exact qs_tp h9373 hS9373 hM9373
  · intro v9373 S9373 w9373 h9373 hS9373 hM9373
    dsimp only
    refine qs_gi hS9373 hM9373 pl_1139 ts_1139 (z := 15) rfl rfl (fun v9374 h9374 => ?_)
    refine qs_gr hS9373 pl_1139 ts_1139 rfl ?_
    refine qs_xi (i := 5) hM9373 (pa_p hS9373 pl_1170 ts_1170) k_5 (by decide) (fun v9376 h9376 => ?_)
    refine qs_ite (c_eq h9374 (p_add k_8 (p_mod h9376 k_128))) ?_ ?_
    · refine qs_gr hS9373 pl_1139 ts_1139 rfl ?_
      refine qs_gi hS9373 hM9373 pl_1139 ts_1139 (z := 15) rfl rfl (fun v9378 h9378 => ?_)
      refine qs_gd (fun g9380 => ?_)
      refine qs_xi hM9373 (pa_p hS9373 pl_1170 ts_1170) (p_sub h9378 k_1) g9380 (fun v9379 h9379 => ?_)
      refine qs_ite (c_eq h9379 h9373) ?_ ?_
      · exact qs_tp (show vi _ _ from k_1) hS9373 hM9373
      · exact qs_tp (show vi _ _ from k_0) hS9373 hM9373
    · exact qs_tp (show vi _ _ from k_0) hS9373 hM9373
set_option maxRecDepth 20000 in
theorem qz_X1_latestAim {P : Nat → Nat} {S : zm_S} {M : qm}  (hS : Sh L xs P S) (hM : qM P S = M)  : qs (zf_X1_latestAim 20000 1139 S) (qf_X1_latestAim 20000 M) (tO (rp L xs P M vi)) := by
  unfold zf_X1_latestAim qf_X1_latestAim
  refine qs_gr hS pl_1139 ts_1139 rfl ?_
  refine qs_xi (i := 3) hM (pa_p hS pl_1170 ts_1170) k_3 (by decide) (fun v9382 h9382 => ?_)
  refine qs_gr hS pl_1139 ts_1139 rfl ?_
  refine qs_xi (i := 4) hM (pa_p hS pl_1170 ts_1170) k_4 (by decide) (fun v9384 h9384 => ?_)
  exact qs_tp (show vi _ _ from (p_add (p_mul h9382 k_256) h9384)) hS hM
set_option maxRecDepth 20000 in
theorem qz_X1_takeTelegram {P : Nat → Nat} {S : zm_S} {M : qm} {i1 : Int32} {qi1 : Int} (hS : Sh L xs P S) (hM : qM P S = M) (ei1 : i1.toInt = qi1) : qs (zf_X1_takeTelegram 20000 1139 i1 S) (qf_X1_takeTelegram 20000 qi1 M) (tO (rr L xs P vu)) := by
  unfold zf_X1_takeTelegram qf_X1_takeTelegram
  refine qs_gr hS pl_1139 ts_1139 rfl ?_
  refine qs_gr hS pl_1139 ts_1139 rfl ?_
  refine qs_gi hS hM pl_1139 ts_1139 (z := 13) rfl rfl (fun v9387 h9387 => ?_)
  refine qs_gd (fun g9389 => ?_)
  refine qs_cpi hS hM (pa_p hS pl_1169 ts_1169) (pa_p hS pl_1170 ts_1170) k_0 k_0 h9387 (by have q := g9389; omega) (fun S9388 M9388 hS9388 hM9388 => ?_)
  refine qs_gi hS9388 hM9388 pl_1139 ts_1139 (z := 13) rfl rfl (fun v9390 h9390 => ?_)
  refine qs_pi hS9388 hM9388 pl_1139 ts_1139 (z := 15) rfl rfl h9390 (fun S9391 M9391 hS9391 hM9391 => ?_)
  refine qs_pi hS9391 hM9391 pl_1139 ts_1139 (z := 16) rfl rfl ei1 (fun S9392 M9392 hS9392 hM9392 => ?_)
  refine qs_pi hS9392 hM9392 pl_1139 ts_1139 (z := 17) rfl rfl k_1 (fun S9393 M9393 hS9393 hM9393 => ?_)
  refine qs_pi hS9393 hM9393 pl_1139 ts_1139 (z := 18) rfl rfl k_m1 (fun S9394 M9394 hS9394 hM9394 => ?_)
  refine qs_gr hS9394 pl_1139 ts_1139 rfl ?_
  refine qs_xi (i := 0) hM9394 (pa_p hS9394 pl_1171 ts_1171) k_0 (by decide) (fun v9396 h9396 => ?_)
  refine qs_si hS9394 hM9394 (pa_p hS9394 pl_1171 ts_1171) k_0 (by decide) (p_add h9396 k_1) (fun S9397 M9397 hS9397 hM9397 => ?_)
  refine qs_zi hS9397 pl_1139 ts_1139 ?_
  refine qs_bp (qz_X1_isLatestRight hS9397 hM9397 ) (fun v9399 S9399 w9399 h9399 hS9399 hM9399 => ?_)
  refine qs_ite (c_eq h9399 k_0) ?_ ?_
  · exact qs_tr (show vu _ _ from trivial) hS9399 hM9399
  · refine qs_gr hS9399 pl_1139 ts_1139 rfl ?_
    refine qs_xi (i := 1) hM9399 (pa_p hS9399 pl_1171 ts_1171) k_1 (by decide) (fun v9401 h9401 => ?_)
    refine qs_si hS9399 hM9399 (pa_p hS9399 pl_1171 ts_1171) k_1 (by decide) (p_add h9401 k_1) (fun S9402 M9402 hS9402 hM9402 => ?_)
    refine qs_zi hS9402 pl_1139 ts_1139 ?_
    refine qs_bp (qz_X1_latestAim hS9402 hM9402 ) (fun v9404 S9404 w9404 h9404 hS9404 hM9404 => ?_)
    refine qs_gr hS9404 pl_1139 ts_1139 rfl ?_
    refine qs_xi (i := 5) hM9404 (pa_p hS9404 pl_1170 ts_1170) k_5 (by decide) (fun v9406 h9406 => ?_)
    refine qs_ite (c_lt h9406 k_128) ?_ ?_
    · exact qs_tr (show vu _ _ from trivial) hS9404 hM9404
    · refine qs_ite (c_lt h9404 k_4) ?_ ?_
      · exact qs_tr (show vu _ _ from trivial) hS9404 hM9404
      · refine qs_ite (c_le k_10 h9404) ?_ ?_
        · exact qs_tr (show vu _ _ from trivial) hS9404 hM9404
        · refine qs_gr hS9404 pl_1139 ts_1139 rfl ?_
          refine qs_gr hS9404 pl_1003 ts_1003 rfl ?_
          refine qs_gr hS9404 pl_1139 ts_1139 rfl ?_
          refine qs_xi (i := 6) hM9404 (pa_p hS9404 pl_1170 ts_1170) k_6 (by decide) (fun v9410 h9410 => ?_)
          refine qs_gd (fun g9412 => ?_)
          refine qs_si hS9404 hM9404 (pa_p hS9404 pl_1135 ts_1135) h9404 g9412 h9410 (fun S9411 M9411 hS9411 hM9411 => ?_)
          exact qs_tr (show vu _ _ from trivial) hS9411 hM9411
set_option maxRecDepth 20000 in
theorem qz_X1_complete {P : Nat → Nat} {S : zm_S} {M : qm}  (hS : Sh L xs P S) (hM : qM P S = M)  : qs (zf_X1_complete 20000 1139 S) (qf_X1_complete 20000 M) (tO (rr L xs P vu)) := by
  unfold zf_X1_complete qf_X1_complete
  refine qs_gi hS hM pl_1139 ts_1139 (z := 5) rfl rfl (fun v9413 h9413 => ?_)
  refine qs_gi hS hM pl_1139 ts_1139 (z := 9) rfl rfl (fun v9414 h9414 => ?_)
  refine qs_gi hS hM pl_1139 ts_1139 (z := 13) rfl rfl (fun v9415 h9415 => ?_)
  refine qs_ite (c_lt h9415 k_8) ?_ ?_
  · exact (qz_X1_complete_J37 hS hM (p_sub h9413 (p_add (p_sub h9414 k_11) k_1)))
  · refine qs_gi hS hM pl_1139 ts_1139 (z := 11) rfl rfl (fun v9416 h9416 => ?_)
    refine qs_ite (c_eq h9416 k_0) ?_ ?_
    · refine qs_zi hS pl_1139 ts_1139 ?_
      refine qs_b (qz_X1_takeTelegram hS hM (p_sub h9413 (p_add (p_sub h9414 k_11) k_1))) (fun v9418 S9418 w9418 M9418 h9418 hS9418 hM9418 => ?_)
      exact qs_tr (show vu _ _ from trivial) hS9418 hM9418
    · exact (qz_X1_complete_J37 hS hM (p_sub h9413 (p_add (p_sub h9414 k_11) k_1)))
set_option maxRecDepth 20000 in
theorem qz_X1_takeCharacter_J56 {P : Nat → Nat} {S : zm_S} {M : qm} {i1 : Int32} {qi1 : Int} (hS : Sh L xs P S) (hM : qM P S = M) (ei1 : i1.toInt = qi1) : qs (zf_X1_takeCharacter_J56 20000 1139 i1 S) (qf_X1_takeCharacter_J56 20000 qi1 M) (tO (rr L xs P vu)) := by
  unfold zf_X1_takeCharacter_J56 qf_X1_takeCharacter_J56
  refine qs_gi hS hM pl_1139 ts_1139 (z := 13) rfl rfl (fun v9419 h9419 => ?_)
  refine qs_ite (c_le k_600 h9419) ?_ ?_
  · exact qs_tr (show vu _ _ from trivial) hS hM
  · refine qs_gr hS pl_1139 ts_1139 rfl ?_
    refine qs_gi hS hM pl_1139 ts_1139 (z := 13) rfl rfl (fun v9421 h9421 => ?_)
    refine qs_gd (fun g9423 => ?_)
    refine qs_si hS hM (pa_p hS pl_1169 ts_1169) h9421 g9423 ei1 (fun S9422 M9422 hS9422 hM9422 => ?_)
    refine qs_gi hS9422 hM9422 pl_1139 ts_1139 (z := 13) rfl rfl (fun v9424 h9424 => ?_)
    refine qs_pi hS9422 hM9422 pl_1139 ts_1139 (z := 13) rfl rfl (p_add h9424 k_1) (fun S9425 M9425 hS9425 hM9425 => ?_)
    exact qs_tr (show vu _ _ from trivial) hS9425 hM9425
end QZ
