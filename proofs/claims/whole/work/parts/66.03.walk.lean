/-! ===== each function over memories is the one over plain states, by program (wip/tools/q) ===== -/
section QZ
variable {L : Nat} {xs : Nat → Int32}
set_option maxRecDepth 20000 in
theorem qz_X7_firstRefusing {P : Nat → Nat} {S : zm_S} {M : qm}  (hS : Sh L xs P S) (hM : qM P S = M)  : qs (zf_X7_firstRefusing 20000 735 S) (qf_X7_firstRefusing 20000 M) (tO (rp L xs P M vi)) := by
  unfold zf_X7_firstRefusing qf_X7_firstRefusing
  refine qs_lp (qz_X7_firstRefusing_L2 20000 hS hM k_0) ?_ ?_
  · intro v3358 S3358 w3358 h3358 hS3358 hM3358
    dsimp only
    exact qs_tp h3358 hS3358 hM3358
  · intro v3358 S3358 w3358 h3358 hS3358 hM3358
    dsimp only
    exact qs_tp (show vi _ _ from k_m1) hS3358 hM3358
set_option maxRecDepth 20000 in
theorem qz_X10_isInSpace {P : Nat → Nat} {S : zm_S} {M : qm} {i1 : Int32} {qi1 : Int} (hS : Sh L xs P S) (hM : qM P S = M) (ei1 : i1.toInt = qi1) : qs (zf_X10_isInSpace 20000 756 i1 S) (qf_X10_isInSpace 20000 qi1 M) (tO (rp L xs P M vi)) := by
  unfold zf_X10_isInSpace qf_X10_isInSpace
  refine qs_ite (c_lt ei1 k_0) ?_ ?_
  · exact qs_tp (show vi _ _ from k_0) hS hM
  · refine qs_ite (c_le k_576 ei1) ?_ ?_
    · exact qs_tp (show vi _ _ from k_0) hS hM
    · refine qs_gr hS pl_756 ts_756 rfl ?_
      refine qs_gr hS pl_51 ts_51 rfl ?_
      refine qs_gd (fun g3362 => ?_)
      refine qs_xi hM (pa_s hS (d := 56) rfl (by decide) (by decide) sf_56) ei1 g3362 (fun v3361 h3361 => ?_)
      refine qs_ite (c_eq h3361 k_m1) ?_ ?_
      · exact qs_tp (show vi _ _ from k_0) hS hM
      · exact qs_tp (show vi _ _ from k_1) hS hM
set_option maxRecDepth 20000 in
theorem qz_X8_distanceTo {P : Nat → Nat} {S : zm_S} {M : qm} {i1 : Int32} {qi1 : Int} {i2 : Int32} {qi2 : Int} {i3 : Int32} {qi3 : Int} (hS : Sh L xs P S) (hM : qM P S = M) (ei1 : i1.toInt = qi1) (ei2 : i2.toInt = qi2) (ei3 : i3.toInt = qi3) : qs (zf_X8_distanceTo 20000 7 i1 i2 i3 S) (qf_X8_distanceTo 20000 qi1 qi2 qi3 M) (tO (rp L xs P M vi)) := by
  unfold zf_X8_distanceTo qf_X8_distanceTo
  refine qs_gr hS pl_7 ts_7 rfl ?_
  refine qs_gd (fun g3365 => ?_)
  refine qs_xt hS pl_8 ts_8 (Or.inl rfl) ei1 g3365 (fun b3364 r3364 => ?_)
  refine qs_yi (j := 0) hS hM qt_8 tq_8 r3364 k_0 (by decide) (fun v3366 h3366 => ?_)
  refine qs_gr hS pl_7 ts_7 rfl ?_
  refine qs_gd (fun g3369 => ?_)
  refine qs_xt hS pl_8 ts_8 (Or.inl rfl) ei1 g3369 (fun b3368 r3368 => ?_)
  refine qs_yi (j := 1) hS hM qt_8 tq_8 r3368 k_1 (by decide) (fun v3370 h3370 => ?_)
  exact qs_tp (show vi _ _ from (p_sub (p_add (p_sub ei2 h3366) ei3) h3370)) hS hM
set_option maxRecDepth 20000 in
theorem qz_X2_distanceBeside {P : Nat → Nat} {S : zm_S} {M : qm} {i1 : Int32} {qi1 : Int} {i2 : Int32} {qi2 : Int} {i3 : Int32} {qi3 : Int} (hS : Sh L xs P S) (hM : qM P S = M) (ei1 : i1.toInt = qi1) (ei2 : i2.toInt = qi2) (ei3 : i3.toInt = qi3) : qs (zf_X2_distanceBeside 20000 51 i1 i2 i3 S) (qf_X2_distanceBeside 20000 qi1 qi2 qi3 M) (tO (rp L xs P M vi)) := by
  unfold zf_X2_distanceBeside qf_X2_distanceBeside
  refine qs_zi hS pl_51 ts_51 ?_
  refine qs_bp (qz_X2_placeBeside hS hM ei1 ei2) (fun v3372 S3372 w3372 h3372 hS3372 hM3372 => ?_)
  refine qs_gr hS3372 pl_51 ts_51 rfl ?_
  refine qs_zi hS3372 pl_7 ts_7 ?_
  refine qs_bp (qz_X8_distanceTo hS3372 hM3372 ei3 (p_div h3372 k_25 (by decide)) (p_mod h3372 k_25)) (fun v3375 S3375 w3375 h3375 hS3375 hM3375 => ?_)
  exact qs_tp (show vi _ _ from h3375) hS3375 hM3375
set_option maxRecDepth 20000 in
theorem qz_X8_isDoorAt {P : Nat → Nat} {S : zm_S} {M : qm} {i1 : Int32} {qi1 : Int} {i2 : Int32} {qi2 : Int} {i3 : Int32} {qi3 : Int} (hS : Sh L xs P S) (hM : qM P S = M) (ei1 : i1.toInt = qi1) (ei2 : i2.toInt = qi2) (ei3 : i3.toInt = qi3) : qs (zf_X8_isDoorAt 20000 7 i1 i2 i3 S) (qf_X8_isDoorAt 20000 qi1 qi2 qi3 M) (tO (rp L xs P M vi)) := by
  unfold zf_X8_isDoorAt qf_X8_isDoorAt
  refine qs_zi hS pl_7 ts_7 ?_
  refine qs_bp (qz_X8_fromOf hS hM ei1 ei2) (fun v3377 S3377 w3377 h3377 hS3377 hM3377 => ?_)
  refine qs_ite (c_lt ei3 h3377) ?_ ?_
  · exact qs_tp (show vi _ _ from k_0) hS3377 hM3377
  · refine qs_zi hS3377 pl_7 ts_7 ?_
    refine qs_bp (qz_X8_toOf hS3377 hM3377 ei1 ei2) (fun v3379 S3379 w3379 h3379 hS3379 hM3379 => ?_)
    refine qs_ite (c_le h3379 ei3) ?_ ?_
    · exact qs_tp (show vi _ _ from k_0) hS3379 hM3379
    · exact qs_tp (show vi _ _ from k_1) hS3379 hM3379
set_option maxRecDepth 20000 in
theorem qz_X8_hasDoorAt_L2_b (n : Nat) {P : Nat → Nat} {S : zm_S} {M : qm} {i1 : Int32} {qi1 : Int} {i2 : Int32} {qi2 : Int} {i3 : Int32} {qi3 : Int} (hS : Sh L xs P S) (hM : qM P S = M) (ei1 : i1.toInt = qi1) (ei2 : i2.toInt = qi2) (ei3 : i3.toInt = qi3) : qs (zf_X8_hasDoorAt_L2 20000 (n + 1) 7 i1 i2 i3 S) (qf_X8_hasDoorAt_L2_b 20000 qi1 qi2 qi3 M) (tk (vs (rp L xs P M vi) (rp L xs P M vu)) (qc_X8_hasDoorAt_L2 L xs P M (zf_X8_hasDoorAt_L2 20000 n))) := by
  refine qs_eq (zf_X8_hasDoorAt_L2.eq_2 ..) ?_
  unfold qf_X8_hasDoorAt_L2_b
  refine qs_gr hS pl_7 ts_7 rfl ?_
  refine qs_gd (fun g3382 => ?_)
  refine qs_xi hM (pa_p hS pl_29 ts_29) ei1 g3382 (fun v3381 h3381 => ?_)
  refine qs_ite (c_le h3381 ei3) ?_ ?_
  · exact qs_tp2 (show vu _ _ from trivial) hS hM
  · refine qs_zi hS pl_7 ts_7 ?_
    refine qs_bp (qz_X8_isDoorAt hS hM ei1 ei3 ei2) (fun v3384 S3384 w3384 h3384 hS3384 hM3384 => ?_)
    refine qs_ite (c_eq h3384 k_0) ?_ ?_
    · exact qs_tk ⟨_, _, _, _, rfl, ei1, ei2, (p_add ei3 k_1), hS3384, hM3384⟩
    · exact qs_tp1 (show vi _ _ from k_1) hS3384 hM3384
theorem qz_X8_hasDoorAt_L2 (n : Nat) : ∀ {P : Nat → Nat} {S : zm_S} {M : qm} {i1 : Int32} {qi1 : Int} {i2 : Int32} {qi2 : Int} {i3 : Int32} {qi3 : Int} (hS : Sh L xs P S) (hM : qM P S = M) (ei1 : i1.toInt = qi1) (ei2 : i2.toInt = qi2) (ei3 : i3.toInt = qi3), qs (zf_X8_hasDoorAt_L2 20000 n 7 i1 i2 i3 S) (qf_X8_hasDoorAt_L2 20000 n qi1 qi2 qi3 M) (tO (vs (rp L xs P M vi) (rp L xs P M vu))) := by
  induction n with
  | zero =>
    intros
    exact qs_none
  | succ n ih =>
    intro P S M i1 qi1 i2 qi2 i3 qi3 hS hM ei1 ei2 ei3
    unfold qf_X8_hasDoorAt_L2
    refine qs_loop (C := (qc_X8_hasDoorAt_L2 L xs P M (zf_X8_hasDoorAt_L2 20000 n))) (qz_X8_hasDoorAt_L2_b n hS hM ei1 ei2 ei3) ?_
    rintro x s ⟨_, _, _, _, rfl, u0, u1, u2, hS2, hM2⟩
    exact ih hS2 hM2 u0 u1 u2
set_option maxRecDepth 20000 in
theorem qz_X8_hasDoorAt {P : Nat → Nat} {S : zm_S} {M : qm} {i1 : Int32} {qi1 : Int} {i2 : Int32} {qi2 : Int} (hS : Sh L xs P S) (hM : qM P S = M) (ei1 : i1.toInt = qi1) (ei2 : i2.toInt = qi2) : qs (zf_X8_hasDoorAt 20000 7 i1 i2 S) (qf_X8_hasDoorAt 20000 qi1 qi2 M) (tO (rp L xs P M vi)) := by
  unfold zf_X8_hasDoorAt qf_X8_hasDoorAt
  refine qs_lp (qz_X8_hasDoorAt_L2 20000 hS hM ei1 ei2 k_0) ?_ ?_
  · intro v3386 S3386 w3386 h3386 hS3386 hM3386
    dsimp only
    exact qs_tp h3386 hS3386 hM3386
  · intro v3386 S3386 w3386 h3386 hS3386 hM3386
    dsimp only
    exact qs_tp (show vi _ _ from k_0) hS3386 hM3386
set_option maxRecDepth 20000 in
theorem qz_X10_canGo {P : Nat → Nat} {S : zm_S} {M : qm} {i1 : Int32} {qi1 : Int} {i2 : Int32} {qi2 : Int} (hS : Sh L xs P S) (hM : qM P S = M) (ei1 : i1.toInt = qi1) (ei2 : i2.toInt = qi2) : qs (zf_X10_canGo 20000 756 i1 i2 S) (qf_X10_canGo 20000 qi1 qi2 M) (tO (rp L xs P M vi)) := by
  unfold zf_X10_canGo qf_X10_canGo
  refine qs_gr hS pl_756 ts_756 rfl ?_
  refine qs_zi hS pl_51 ts_51 ?_
  refine qs_bp (qz_X2_wallBeside hS hM ei1 ei2) (fun v3389 S3389 w3389 h3389 hS3389 hM3389 => ?_)
  refine qs_ite (c_eq h3389 k_m1) ?_ ?_
  · exact qs_tp (show vi _ _ from k_1) hS3389 hM3389
  · refine qs_gr hS3389 pl_756 ts_756 rfl ?_
    refine qs_gr hS3389 pl_756 ts_756 rfl ?_
    refine qs_zi hS3389 pl_51 ts_51 ?_
    refine qs_bp (qz_X2_distanceBeside hS3389 hM3389 ei1 ei2 h3389) (fun v3393 S3393 w3393 h3393 hS3393 hM3393 => ?_)
    refine qs_zi hS3393 pl_7 ts_7 ?_
    refine qs_bp (qz_X8_hasDoorAt hS3393 hM3393 h3389 h3393) (fun v3395 S3395 w3395 h3395 hS3395 hM3395 => ?_)
    refine qs_ite (c_eq h3395 k_0) ?_ ?_
    · exact qs_tp (show vi _ _ from k_0) hS3395 hM3395
    · exact qs_tp (show vi _ _ from k_1) hS3395 hM3395
set_option maxRecDepth 20000 in
theorem qz_X10_isBesideOutside_L2_b (n : Nat) {P : Nat → Nat} {S : zm_S} {M : qm} {i1 : Int32} {qi1 : Int} {i2 : Int32} {qi2 : Int} (hS : Sh L xs P S) (hM : qM P S = M) (ei1 : i1.toInt = qi1) (ei2 : i2.toInt = qi2) : qs (zf_X10_isBesideOutside_L2 20000 (n + 1) 756 i1 i2 S) (qf_X10_isBesideOutside_L2_b 20000 qi1 qi2 M) (tk (vs (rp L xs P M vi) (rp L xs P M vu)) (qc_X10_isBesideOutside_L2 L xs P M (zf_X10_isBesideOutside_L2 20000 n))) := by
  refine qs_eq (zf_X10_isBesideOutside_L2.eq_2 ..) ?_
  unfold qf_X10_isBesideOutside_L2_b
  refine qs_ite (c_le k_4 ei2) ?_ ?_
  · exact qs_tp2 (show vu _ _ from trivial) hS hM
  · refine qs_gr hS pl_756 ts_756 rfl ?_
    refine qs_zi hS pl_51 ts_51 ?_
    refine qs_bp (qz_X2_cellBeside hS hM ei1 ei2) (fun v3398 S3398 w3398 h3398 hS3398 hM3398 => ?_)
    refine qs_zi hS3398 pl_756 ts_756 ?_
    refine qs_bp (qz_X10_isInSpace hS3398 hM3398 h3398) (fun v3400 S3400 w3400 h3400 hS3400 hM3400 => ?_)
    refine qs_ite (c_eq h3400 k_0) ?_ ?_
    · refine qs_zi hS3400 pl_756 ts_756 ?_
      refine qs_bp (qz_X10_canGo hS3400 hM3400 ei1 ei2) (fun v3402 S3402 w3402 h3402 hS3402 hM3402 => ?_)
      refine qs_ite (c_eq h3402 k_0) ?_ ?_
      · exact qs_tk ⟨_, _, _, rfl, ei1, (p_add ei2 k_1), hS3402, hM3402⟩
      · exact qs_tp1 (show vi _ _ from k_1) hS3402 hM3402
    · exact qs_tk ⟨_, _, _, rfl, ei1, (p_add ei2 k_1), hS3400, hM3400⟩
theorem qz_X10_isBesideOutside_L2 (n : Nat) : ∀ {P : Nat → Nat} {S : zm_S} {M : qm} {i1 : Int32} {qi1 : Int} {i2 : Int32} {qi2 : Int} (hS : Sh L xs P S) (hM : qM P S = M) (ei1 : i1.toInt = qi1) (ei2 : i2.toInt = qi2), qs (zf_X10_isBesideOutside_L2 20000 n 756 i1 i2 S) (qf_X10_isBesideOutside_L2 20000 n qi1 qi2 M) (tO (vs (rp L xs P M vi) (rp L xs P M vu))) := by
  induction n with
  | zero =>
    intros
    exact qs_none
  | succ n ih =>
    intro P S M i1 qi1 i2 qi2 hS hM ei1 ei2
    unfold qf_X10_isBesideOutside_L2
    refine qs_loop (C := (qc_X10_isBesideOutside_L2 L xs P M (zf_X10_isBesideOutside_L2 20000 n))) (qz_X10_isBesideOutside_L2_b n hS hM ei1 ei2) ?_
    rintro x s ⟨_, _, _, rfl, u0, u1, hS2, hM2⟩
    exact ih hS2 hM2 u0 u1
set_option maxRecDepth 20000 in
theorem qz_X10_isBesideOutside {P : Nat → Nat} {S : zm_S} {M : qm} {i1 : Int32} {qi1 : Int} (hS : Sh L xs P S) (hM : qM P S = M) (ei1 : i1.toInt = qi1) : qs (zf_X10_isBesideOutside 20000 756 i1 S) (qf_X10_isBesideOutside 20000 qi1 M) (tO (rp L xs P M vi)) := by
  unfold zf_X10_isBesideOutside qf_X10_isBesideOutside
  refine qs_lp (qz_X10_isBesideOutside_L2 20000 hS hM ei1 k_0) ?_ ?_
  · intro v3404 S3404 w3404 h3404 hS3404 hM3404
    dsimp only
    exact qs_tp h3404 hS3404 hM3404
  · intro v3404 S3404 w3404 h3404 hS3404 hM3404
    dsimp only
    exact qs_tp (show vi _ _ from k_0) hS3404 hM3404
set_option maxRecDepth 20000 in
theorem qz_X10_numberCells_L4_b (n : Nat) {P : Nat → Nat} {S : zm_S} {M : qm} {i1 : Int32} {qi1 : Int} {i2 : Int32} {qi2 : Int} (hS : Sh L xs P S) (hM : qM P S = M) (ei1 : i1.toInt = qi1) (ei2 : i2.toInt = qi2) : qs (zf_X10_numberCells_L4 20000 (n + 1) 756 i1 i2 S) (qf_X10_numberCells_L4_b 20000 qi1 qi2 M) (tk (vs (rr L xs P vu) (rr L xs P vi)) (qc_X10_numberCells_L4 L xs P (zf_X10_numberCells_L4 20000 n))) := by
  refine qs_eq (zf_X10_numberCells_L4.eq_2 ..) ?_
  unfold qf_X10_numberCells_L4_b
  refine qs_ite (c_le k_576 ei2) ?_ ?_
  · exact qs_tr2 (show vi _ _ from ei1) hS hM
  · refine qs_gr hS pl_756 ts_756 rfl ?_
    refine qs_gd (fun g3407 => ?_)
    refine qs_si hS hM (pa_p hS pl_759 ts_759) ei2 g3407 k_m1 (fun S3406 M3406 hS3406 hM3406 => ?_)
    refine qs_zi hS3406 pl_756 ts_756 ?_
    refine qs_bp (qz_X10_isInSpace hS3406 hM3406 ei2) (fun v3409 S3409 w3409 h3409 hS3409 hM3409 => ?_)
    refine qs_ite (c_eq h3409 k_0) ?_ ?_
    · exact qs_tk ⟨_, _, _, rfl, ei1, (p_add ei2 k_1), hS3409, hM3409⟩
    · refine qs_zi hS3409 pl_756 ts_756 ?_
      refine qs_bp (qz_X10_isBesideOutside hS3409 hM3409 ei2) (fun v3411 S3411 w3411 h3411 hS3411 hM3411 => ?_)
      refine qs_ite (c_eq h3411 k_0) ?_ ?_
      · exact qs_tk ⟨_, _, _, rfl, ei1, (p_add ei2 k_1), hS3411, hM3411⟩
      · refine qs_gr hS3411 pl_756 ts_756 rfl ?_
        refine qs_gd (fun g3414 => ?_)
        refine qs_si hS3411 hM3411 (pa_p hS3411 pl_759 ts_759) ei2 g3414 k_1 (fun S3413 M3413 hS3413 hM3413 => ?_)
        refine qs_gr hS3413 pl_756 ts_756 rfl ?_
        refine qs_gd (fun g3417 => ?_)
        refine qs_si hS3413 hM3413 (pa_p hS3413 pl_760 ts_760) ei1 g3417 ei2 (fun S3416 M3416 hS3416 hM3416 => ?_)
        exact qs_tk ⟨_, _, _, rfl, (p_add ei1 k_1), (p_add ei2 k_1), hS3416, hM3416⟩
theorem qz_X10_numberCells_L4 (n : Nat) : ∀ {P : Nat → Nat} {S : zm_S} {M : qm} {i1 : Int32} {qi1 : Int} {i2 : Int32} {qi2 : Int} (hS : Sh L xs P S) (hM : qM P S = M) (ei1 : i1.toInt = qi1) (ei2 : i2.toInt = qi2), qs (zf_X10_numberCells_L4 20000 n 756 i1 i2 S) (qf_X10_numberCells_L4 20000 n qi1 qi2 M) (tO (vs (rr L xs P vu) (rr L xs P vi))) := by
  induction n with
  | zero =>
    intros
    exact qs_none
  | succ n ih =>
    intro P S M i1 qi1 i2 qi2 hS hM ei1 ei2
    unfold qf_X10_numberCells_L4
    refine qs_loop (C := (qc_X10_numberCells_L4 L xs P (zf_X10_numberCells_L4 20000 n))) (qz_X10_numberCells_L4_b n hS hM ei1 ei2) ?_
    rintro x s ⟨_, _, _, rfl, u0, u1, hS2, hM2⟩
    exact ih hS2 hM2 u0 u1
set_option maxRecDepth 20000 in
theorem qz_X10_numberCells_J119 {P : Nat → Nat} {S : zm_S} {M : qm} {i1 : Int32} {qi1 : Int} {i2 : Int32} {qi2 : Int} {i3 : Int32} {qi3 : Int} {i4 : Int32} {qi4 : Int} {t0 : Int32} {qt0 : Int} (hS : Sh L xs P S) (hM : qM P S = M) (ei1 : i1.toInt = qi1) (ei2 : i2.toInt = qi2) (ei3 : i3.toInt = qi3) (ei4 : i4.toInt = qi4) (et0 : t0.toInt = qt0) {k : Nat → Int32 → Int32 → Int32 → zm_S → Option ((Unit × zm_S) ⊕ ((Int32) × zm_S))} : qs (zf_X10_numberCells_J119 20000 k 756 i1 i2 i3 i4 t0 S) (qf_X10_numberCells_J119 20000 qi1 qi2 qi3 qi4 qt0 M) (tk (vs (rr L xs P vu) (rr L xs P vi)) (qc_X10_numberCells_L66 L xs P k)) := by
  unfold zf_X10_numberCells_J119 qf_X10_numberCells_J119
  refine qs_ite (c_eq et0 k_0) ?_ ?_
  · exact qs_tk ⟨_, _, _, _, rfl, ei1, ei2, (p_add ei3 k_1), hS, hM⟩
  · refine qs_gr hS pl_756 ts_756 rfl ?_
    refine qs_gd (fun g3420 => ?_)
    refine qs_xi hM (pa_p hS pl_760 ts_760) ei2 g3420 (fun v3419 h3419 => ?_)
    refine qs_zi hS pl_756 ts_756 ?_
    refine qs_bp (qz_X10_canGo hS hM h3419 ei3) (fun v3422 S3422 w3422 h3422 hS3422 hM3422 => ?_)
    refine qs_ite (c_eq h3422 k_0) ?_ ?_
    · exact qs_tk ⟨_, _, _, _, rfl, ei1, ei2, (p_add ei3 k_1), hS3422, hM3422⟩
    · refine qs_gr hS3422 pl_756 ts_756 rfl ?_
      refine qs_gr hS3422 pl_756 ts_756 rfl ?_
      refine qs_gr hS3422 pl_756 ts_756 rfl ?_
      refine qs_gd (fun g3427 => ?_)
      refine qs_xi hM3422 (pa_p hS3422 pl_760 ts_760) ei2 g3427 (fun v3426 h3426 => ?_)
      refine qs_gd (fun g3429 => ?_)
      refine qs_xi hM3422 (pa_p hS3422 pl_759 ts_759) h3426 g3429 (fun v3428 h3428 => ?_)
      refine qs_gd (fun g3431 => ?_)
      refine qs_si hS3422 hM3422 (pa_p hS3422 pl_759 ts_759) ei4 g3431 (p_add h3428 k_1) (fun S3430 M3430 hS3430 hM3430 => ?_)
      refine qs_gr hS3430 pl_756 ts_756 rfl ?_
      refine qs_gd (fun g3434 => ?_)
      refine qs_si hS3430 hM3430 (pa_p hS3430 pl_760 ts_760) ei1 g3434 ei4 (fun S3433 M3433 hS3433 hM3433 => ?_)
      exact qs_tk ⟨_, _, _, _, rfl, (p_add ei1 k_1), ei2, (p_add ei3 k_1), hS3433, hM3433⟩
set_option maxRecDepth 20000 in
theorem qz_X10_numberCells_J118 {P : Nat → Nat} {S : zm_S} {M : qm} {i1 : Int32} {qi1 : Int} {i2 : Int32} {qi2 : Int} {i3 : Int32} {qi3 : Int} {i4 : Int32} {qi4 : Int} (hS : Sh L xs P S) (hM : qM P S = M) (ei1 : i1.toInt = qi1) (ei2 : i2.toInt = qi2) (ei3 : i3.toInt = qi3) (ei4 : i4.toInt = qi4) {k : Nat → Int32 → Int32 → Int32 → zm_S → Option ((Unit × zm_S) ⊕ ((Int32) × zm_S))} : qs (zf_X10_numberCells_J118 20000 k 756 i1 i2 i3 i4 S) (qf_X10_numberCells_J118 20000 qi1 qi2 qi3 qi4 M) (tk (vs (rr L xs P vu) (rr L xs P vi)) (qc_X10_numberCells_L66 L xs P k)) := by
  unfold zf_X10_numberCells_J118 qf_X10_numberCells_J118
  exact (qz_X10_numberCells_J119 hS hM ei1 ei2 ei3 ei4 k_0)
set_option maxRecDepth 20000 in
theorem qz_X10_numberCells_L66_b (n : Nat) {P : Nat → Nat} {S : zm_S} {M : qm} {i1 : Int32} {qi1 : Int} {i2 : Int32} {qi2 : Int} {i3 : Int32} {qi3 : Int} (hS : Sh L xs P S) (hM : qM P S = M) (ei1 : i1.toInt = qi1) (ei2 : i2.toInt = qi2) (ei3 : i3.toInt = qi3) : qs (zf_X10_numberCells_L66 20000 (n + 1) 756 i1 i2 i3 S) (qf_X10_numberCells_L66_b 20000 qi1 qi2 qi3 M) (tk (vs (rr L xs P vu) (rr L xs P vi)) (qc_X10_numberCells_L66 L xs P (zf_X10_numberCells_L66 20000 n))) := by
  refine qs_eq (zf_X10_numberCells_L66.eq_2 ..) ?_
  unfold qf_X10_numberCells_L66_b
  refine qs_ite (c_le k_4 ei3) ?_ ?_
  · exact qs_tr2 (show vi _ _ from ei1) hS hM
  · refine qs_gr hS pl_756 ts_756 rfl ?_
    refine qs_gr hS pl_756 ts_756 rfl ?_
    refine qs_gd (fun g3438 => ?_)
    refine qs_xi hM (pa_p hS pl_760 ts_760) ei2 g3438 (fun v3437 h3437 => ?_)
    refine qs_zi hS pl_51 ts_51 ?_
    refine qs_bp (qz_X2_cellBeside hS hM h3437 ei3) (fun v3440 S3440 w3440 h3440 hS3440 hM3440 => ?_)
    refine qs_zi hS3440 pl_756 ts_756 ?_
    refine qs_bp (qz_X10_isInSpace hS3440 hM3440 h3440) (fun v3442 S3442 w3442 h3442 hS3442 hM3442 => ?_)
    refine qs_ite (c_eq h3442 k_0) ?_ ?_
    · exact (qz_X10_numberCells_J118 hS3442 hM3442 ei1 ei2 ei3 h3440)
    · refine qs_gr hS3442 pl_756 ts_756 rfl ?_
      refine qs_gd (fun g3445 => ?_)
      refine qs_xi hM3442 (pa_p hS3442 pl_759 ts_759) h3440 g3445 (fun v3444 h3444 => ?_)
      refine qs_ite (c_eq h3444 k_m1) ?_ ?_
      · refine qs_ite (c_le k_576 ei1) ?_ ?_
        · exact (qz_X10_numberCells_J118 hS3442 hM3442 ei1 ei2 ei3 h3440)
        · exact (qz_X10_numberCells_J119 hS3442 hM3442 ei1 ei2 ei3 h3440 k_1)
      · exact (qz_X10_numberCells_J118 hS3442 hM3442 ei1 ei2 ei3 h3440)
theorem qz_X10_numberCells_L66 (n : Nat) : ∀ {P : Nat → Nat} {S : zm_S} {M : qm} {i1 : Int32} {qi1 : Int} {i2 : Int32} {qi2 : Int} {i3 : Int32} {qi3 : Int} (hS : Sh L xs P S) (hM : qM P S = M) (ei1 : i1.toInt = qi1) (ei2 : i2.toInt = qi2) (ei3 : i3.toInt = qi3), qs (zf_X10_numberCells_L66 20000 n 756 i1 i2 i3 S) (qf_X10_numberCells_L66 20000 n qi1 qi2 qi3 M) (tO (vs (rr L xs P vu) (rr L xs P vi))) := by
  induction n with
  | zero =>
    intros
    exact qs_none
  | succ n ih =>
    intro P S M i1 qi1 i2 qi2 i3 qi3 hS hM ei1 ei2 ei3
    unfold qf_X10_numberCells_L66
    refine qs_loop (C := (qc_X10_numberCells_L66 L xs P (zf_X10_numberCells_L66 20000 n))) (qz_X10_numberCells_L66_b n hS hM ei1 ei2 ei3) ?_
    rintro x s ⟨_, _, _, _, rfl, u0, u1, u2, hS2, hM2⟩
    exact ih hS2 hM2 u0 u1 u2
set_option maxRecDepth 20000 in
theorem qz_X10_numberCells_L59_b (n : Nat) {P : Nat → Nat} {S : zm_S} {M : qm} {i1 : Int32} {qi1 : Int} {i2 : Int32} {qi2 : Int} (hS : Sh L xs P S) (hM : qM P S = M) (ei1 : i1.toInt = qi1) (ei2 : i2.toInt = qi2) : qs (zf_X10_numberCells_L59 20000 (n + 1) 756 i1 i2 S) (qf_X10_numberCells_L59_b 20000 qi1 qi2 M) (tk (vs (rr L xs P vu) (rr L xs P vu)) (qc_X10_numberCells_L59 L xs P (zf_X10_numberCells_L59 20000 n))) := by
  refine qs_eq (zf_X10_numberCells_L59.eq_2 ..) ?_
  unfold qf_X10_numberCells_L59_b
  refine qs_ite (c_le ei1 ei2) ?_ ?_
  · exact qs_tr2 (show vu _ _ from trivial) hS hM
  · refine qs_lr (qz_X10_numberCells_L66 20000 hS hM ei1 ei2 k_0) ?_ ?_
    · intro v3447 S3447 w3447 M3447 h3447 hS3447 hM3447
      dsimp only
      exact qs_tr1 h3447 hS3447 hM3447
    · intro v3447 S3447 w3447 M3447 h3447 hS3447 hM3447
      dsimp only
      exact qs_tk ⟨_, _, _, rfl, h3447, (p_add ei2 k_1), hS3447, hM3447⟩
theorem qz_X10_numberCells_L59 (n : Nat) : ∀ {P : Nat → Nat} {S : zm_S} {M : qm} {i1 : Int32} {qi1 : Int} {i2 : Int32} {qi2 : Int} (hS : Sh L xs P S) (hM : qM P S = M) (ei1 : i1.toInt = qi1) (ei2 : i2.toInt = qi2), qs (zf_X10_numberCells_L59 20000 n 756 i1 i2 S) (qf_X10_numberCells_L59 20000 n qi1 qi2 M) (tO (vs (rr L xs P vu) (rr L xs P vu))) := by
  induction n with
  | zero =>
    intros
    exact qs_none
  | succ n ih =>
    intro P S M i1 qi1 i2 qi2 hS hM ei1 ei2
    unfold qf_X10_numberCells_L59
    refine qs_loop (C := (qc_X10_numberCells_L59 L xs P (zf_X10_numberCells_L59 20000 n))) (qz_X10_numberCells_L59_b n hS hM ei1 ei2) ?_
    rintro x s ⟨_, _, _, rfl, u0, u1, hS2, hM2⟩
    exact ih hS2 hM2 u0 u1
set_option maxRecDepth 20000 in
theorem qz_X10_numberCells {P : Nat → Nat} {S : zm_S} {M : qm}  (hS : Sh L xs P S) (hM : qM P S = M)  : qs (zf_X10_numberCells 20000 756 S) (qf_X10_numberCells 20000 M) (tO (rr L xs P vu)) := by
  unfold zf_X10_numberCells qf_X10_numberCells
  refine qs_lr (qz_X10_numberCells_L4 20000 hS hM k_0 k_0) ?_ ?_
  · intro v3449 S3449 w3449 M3449 h3449 hS3449 hM3449
    dsimp only
    exact qs_tr h3449 hS3449 hM3449
  · intro v3449 S3449 w3449 M3449 h3449 hS3449 hM3449
    dsimp only
    refine qs_lr (qz_X10_numberCells_L59 20000 hS3449 hM3449 h3449 k_0) ?_ ?_
    · intro v3451 S3451 w3451 M3451 h3451 hS3451 hM3451
      dsimp only
      exact qs_tr h3451 hS3451 hM3451
    · intro v3451 S3451 w3451 M3451 h3451 hS3451 hM3451
      dsimp only
      exact qs_tr (show vu _ _ from trivial) hS3451 hM3451
set_option maxRecDepth 20000 in
theorem qz_X0_notePortal_J121 {P : Nat → Nat} {S : zm_S} {M : qm} {i4 : Int32} {qi4 : Int} {t1 : Int32} {qt1 : Int} {t2 : Int32} {qt2 : Int} (hS : Sh L xs P S) (hM : qM P S = M) (ei4 : i4.toInt = qi4) (et1 : t1.toInt = qt1) (et2 : t2.toInt = qt2) : qs (zf_X0_notePortal_J121 20000 824 i4 (P 825) t1 t2 S) (qf_X0_notePortal_J121 20000 qi4 qt1 qt2 M) (tO (rr L xs P vu)) := by
  unfold zf_X0_notePortal_J121 qf_X0_notePortal_J121
  refine qs_gd (fun g3453 => ?_)
  refine qs_sid hS hM (Or.inl rfl) et1 g3453 et2 (fun S3452 M3452 hS3452 hM3452 => ?_)
  refine qs_gr hS3452 pl_824 ts_824 rfl ?_
  refine qs_gd (fun g3456 => ?_)
  refine qs_sid hS3452 hM3452 (Or.inl rfl) (p_add ei4 k_11) g3456 k_m1 (fun S3455 M3455 hS3455 hM3455 => ?_)
  exact qs_tr (show vu _ _ from trivial) hS3455 hM3455
set_option maxRecDepth 20000 in
theorem qz_X0_notePortal_J70 {P : Nat → Nat} {S : zm_S} {M : qm} {i4 : Int32} {qi4 : Int} {i5 : Int32} {qi5 : Int} {i6 : Int32} {qi6 : Int} {i7 : Int32} {qi7 : Int} {t1 : Int32} {qt1 : Int} {t2 : Int32} {qt2 : Int} (hS : Sh L xs P S) (hM : qM P S = M) (ei4 : i4.toInt = qi4) (ei5 : i5.toInt = qi5) (ei6 : i6.toInt = qi6) (ei7 : i7.toInt = qi7) (et1 : t1.toInt = qt1) (et2 : t2.toInt = qt2) : qs (zf_X0_notePortal_J70 20000 824 i4 i5 i6 i7 (P 825) t1 t2 S) (qf_X0_notePortal_J70 20000 qi4 qi5 qi6 qi7 qt1 qt2 M) (tO (rr L xs P vu)) := by
  unfold zf_X0_notePortal_J70 qf_X0_notePortal_J70
  refine qs_gd (fun g3458 => ?_)
  refine qs_sid hS hM (Or.inl rfl) et1 g3458 et2 (fun S3457 M3457 hS3457 hM3457 => ?_)
  refine qs_gr hS3457 pl_824 ts_824 rfl ?_
  refine qs_gd (fun g3461 => ?_)
  refine qs_sid hS3457 hM3457 (Or.inl rfl) (p_add (p_add ei4 k_4) k_1) g3461 ei7 (fun S3460 M3460 hS3460 hM3460 => ?_)
  refine qs_gr hS3460 pl_824 ts_824 rfl ?_
  refine qs_gd (fun g3464 => ?_)
  refine qs_sid hS3460 hM3460 (Or.inl rfl) (p_add ei4 k_6) g3464 ei6 (fun S3463 M3463 hS3463 hM3463 => ?_)
  refine qs_gr hS3463 pl_824 ts_824 rfl ?_
  refine qs_ite (c_eq ei5 k_0) ?_ ?_
  · exact (qz_X0_notePortal_J121 hS3463 hM3463 ei4 (p_add (p_add ei4 k_6) k_1) ei7)
  · exact (qz_X0_notePortal_J121 hS3463 hM3463 ei4 (p_add (p_add ei4 k_6) k_1) (p_sub ei7 k_1))
set_option maxRecDepth 20000 in
theorem qz_X0_notePortal {P : Nat → Nat} {S : zm_S} {M : qm} {i1 : Int32} {qi1 : Int} {i2 : Int32} {qi2 : Int} {i3 : Int32} {qi3 : Int} (hS : Sh L xs P S) (hM : qM P S = M) (ei1 : i1.toInt = qi1) (ei2 : i2.toInt = qi2) (ei3 : i3.toInt = qi3) : qs (zf_X0_notePortal 20000 824 i1 i2 i3 S) (qf_X0_notePortal 20000 qi1 qi2 qi3 M) (tO (rr L xs P vu)) := by
  unfold zf_X0_notePortal qf_X0_notePortal
  refine qs_gr hS pl_824 ts_824 rfl ?_
  refine qs_zi hS pl_7 ts_7 ?_
  refine qs_bp (qz_X8_isLevel hS hM ei2) (fun v3468 S3468 w3468 h3468 hS3468 hM3468 => ?_)
  refine qs_gr hS3468 pl_824 ts_824 rfl ?_
  refine qs_zi hS3468 pl_51 ts_51 ?_
  refine qs_bp (qz_X2_unitX hS3468 hM3468 ei2 ei3) (fun v3471 S3471 w3471 h3471 hS3471 hM3471 => ?_)
  refine qs_gr hS3471 pl_824 ts_824 rfl ?_
  refine qs_zi hS3471 pl_51 ts_51 ?_
  refine qs_bp (qz_X2_unitY hS3471 hM3471 ei2 ei3) (fun v3474 S3474 w3474 h3474 hS3474 hM3474 => ?_)
  refine qs_gr hS3474 pl_824 ts_824 rfl ?_
  refine qs_gd (fun g3477 => ?_)
  refine qs_sid hS3474 hM3474 (Or.inl rfl) (p_add (p_mul ei1 k_13) k_2) g3477 ei2 (fun S3476 M3476 hS3476 hM3476 => ?_)
  refine qs_gr hS3476 pl_824 ts_824 rfl ?_
  refine qs_ite (c_eq h3468 k_0) ?_ ?_
  · exact (qz_X0_notePortal_J70 hS3476 hM3476 (p_mul ei1 k_13) h3468 h3471 h3474 (p_add (p_mul ei1 k_13) k_4) (p_sub h3471 k_1))
  · exact (qz_X0_notePortal_J70 hS3476 hM3476 (p_mul ei1 k_13) h3468 h3471 h3474 (p_add (p_mul ei1 k_13) k_4) h3471)
set_option maxRecDepth 20000 in
theorem qz_X0_setFact {P : Nat → Nat} {S : zm_S} {M : qm} {i1 : Int32} {qi1 : Int} {i2 : Int32} {qi2 : Int} {i3 : Int32} {qi3 : Int} (hS : Sh L xs P S) (hM : qM P S = M) (ei1 : i1.toInt = qi1) (ei2 : i2.toInt = qi2) (ei3 : i3.toInt = qi3) : qs (zf_X0_setFact 20000 824 i1 i2 i3 S) (qf_X0_setFact 20000 qi1 qi2 qi3 M) (tO (rr L xs P vu)) := by
  unfold zf_X0_setFact qf_X0_setFact
  refine qs_gr hS pl_824 ts_824 rfl ?_
  refine qs_gd (fun g3481 => ?_)
  refine qs_sid hS hM (Or.inl rfl) (p_add (p_mul ei1 k_13) ei2) g3481 ei3 (fun S3480 M3480 hS3480 hM3480 => ?_)
  exact qs_tr (show vu _ _ from trivial) hS3480 hM3480
set_option maxRecDepth 20000 in
theorem qz_X10_outside {P : Nat → Nat} {S : zm_S} {M : qm}  (hS : Sh L xs P S) (hM : qM P S = M)  : qs (zf_X10_outside 20000 756 S) (qf_X10_outside 20000 M) (tO (rp L xs P M vi)) := by
  unfold zf_X10_outside qf_X10_outside
  refine qs_gr hS pl_756 ts_756 rfl ?_
  refine qs_gi hS hM pl_51 ts_51 (z := 3) rfl rfl (fun v3483 h3483 => ?_)
  exact qs_tp (show vi _ _ from h3483) hS hM
set_option maxRecDepth 20000 in
theorem qz_X0_roomFor {P : Nat → Nat} {S : zm_S} {M : qm} {i1 : Int32} {qi1 : Int} (hS : Sh L xs P S) (hM : qM P S = M) (ei1 : i1.toInt = qi1) : qs (zf_X0_roomFor 20000 824 i1 S) (qf_X0_roomFor 20000 qi1 M) (tO (rp L xs P M vi)) := by
  unfold zf_X0_roomFor qf_X0_roomFor
  refine qs_ite (c_eq ei1 k_m1) ?_ ?_
  · refine qs_gr hS pl_824 ts_824 rfl ?_
    refine qs_zi hS pl_756 ts_756 ?_
    refine qs_bp (qz_X10_outside hS hM ) (fun v3486 S3486 w3486 h3486 hS3486 hM3486 => ?_)
    exact qs_tp (show vi _ _ from h3486) hS3486 hM3486
  · exact qs_tp (show vi _ _ from ei1) hS hM
set_option maxRecDepth 20000 in
theorem qz_X0_scanDoor_J58 {P : Nat → Nat} {S : zm_S} {M : qm} {i1 : Int32} {qi1 : Int} {i2 : Int32} {qi2 : Int} {i3 : Int32} {qi3 : Int} {i4 : Int32} {qi4 : Int} {i5 : Int32} {qi5 : Int} {i6 : Int32} {qi6 : Int} {i7 : Int32} {qi7 : Int} {t0 : Int32} {qt0 : Int} (hS : Sh L xs P S) (hM : qM P S = M) (ei1 : i1.toInt = qi1) (ei2 : i2.toInt = qi2) (ei3 : i3.toInt = qi3) (ei4 : i4.toInt = qi4) (ei5 : i5.toInt = qi5) (ei6 : i6.toInt = qi6) (ei7 : i7.toInt = qi7) (et0 : t0.toInt = qt0) {k : Nat → Int32 → Int32 → Int32 → Int32 → Int32 → Int32 → Int32 → zm_S → Option ((Int32 × zm_S) ⊕ ((Int32) × zm_S))} : qs (zf_X0_scanDoor_J58 20000 k 824 i1 i2 i3 i4 i5 i6 i7 t0 S) (qf_X0_scanDoor_J58 20000 qi1 qi2 qi3 qi4 qi5 qi6 qi7 qt0 M) (tk (vs (rr L xs P vi) (rr L xs P vi)) (qc_X0_scanDoor_L26 L xs P k)) := by
  unfold zf_X0_scanDoor_J58 qf_X0_scanDoor_J58
  refine qs_gr hS pl_824 ts_824 rfl ?_
  refine qs_zi hS pl_51 ts_51 ?_
  refine qs_bp (qz_X2_roomLeft hS hM ei1 ei7) (fun v3489 S3489 w3489 h3489 hS3489 hM3489 => ?_)
  refine qs_gr hS3489 pl_824 ts_824 rfl ?_
  refine qs_zi hS3489 pl_51 ts_51 ?_
  refine qs_bp (qz_X2_roomRight hS3489 hM3489 ei1 ei7) (fun v3492 S3492 w3492 h3492 hS3492 hM3492 => ?_)
  refine qs_ite (c_eq et0 k_0) ?_ ?_
  · exact qs_tk ⟨_, _, _, _, _, _, _, _, rfl, ei1, ei2, ei3, ei4, ei5, ei6, (p_add ei7 k_1), hS3492, hM3492⟩
  · refine qs_ite (c_eq h3489 h3492) ?_ ?_
    · exact qs_tk ⟨_, _, _, _, _, _, _, _, rfl, ei1, ei2, ei3, ei4, ei5, ei6, (p_add ei7 k_1), hS3492, hM3492⟩
    · refine qs_ite (c_eq ei4 k_0) ?_ ?_
      · exact qs_tk ⟨_, _, _, _, _, _, _, _, rfl, ei1, ei2, (p_add ei3 k_1), ei4, ei5, ei6, (p_add ei7 k_1), hS3492, hM3492⟩
      · refine qs_gi hS3492 hM3492 pl_824 ts_824 (z := 3) rfl rfl (fun v3493 h3493 => ?_)
        refine qs_ite (c_le h3493 ei3) ?_ ?_
        · exact qs_tk ⟨_, _, _, _, _, _, _, _, rfl, ei1, ei2, (p_add ei3 k_1), ei4, ei5, ei6, (p_add ei7 k_1), hS3492, hM3492⟩
        · refine qs_zi hS3492 pl_824 ts_824 ?_
          refine qs_b (qz_X0_notePortal hS3492 hM3492 ei3 ei1 ei7) (fun v3495 S3495 w3495 M3495 h3495 hS3495 hM3495 => ?_)
          refine qs_zi hS3495 pl_824 ts_824 ?_
          refine qs_b (qz_X0_setFact hS3495 hM3495 ei3 k_3 ei2) (fun v3497 S3497 w3497 M3497 h3497 hS3497 hM3497 => ?_)
          refine qs_zi hS3497 pl_824 ts_824 ?_
          refine qs_bp (qz_X0_roomFor hS3497 hM3497 h3489) (fun v3499 S3499 w3499 h3499 hS3499 hM3499 => ?_)
          refine qs_zi hS3499 pl_824 ts_824 ?_
          refine qs_b (qz_X0_setFact hS3499 hM3499 ei3 k_0 h3499) (fun v3501 S3501 w3501 M3501 h3501 hS3501 hM3501 => ?_)
          refine qs_zi hS3501 pl_824 ts_824 ?_
          refine qs_bp (qz_X0_roomFor hS3501 hM3501 h3492) (fun v3503 S3503 w3503 h3503 hS3503 hM3503 => ?_)
          refine qs_zi hS3503 pl_824 ts_824 ?_
          refine qs_b (qz_X0_setFact hS3503 hM3503 ei3 k_1 h3503) (fun v3505 S3505 w3505 M3505 h3505 hS3505 hM3505 => ?_)
          exact qs_tk ⟨_, _, _, _, _, _, _, _, rfl, ei1, ei2, (p_add ei3 k_1), ei4, ei5, ei6, (p_add ei7 k_1), hS3505, hM3505⟩
set_option maxRecDepth 20000 in
theorem qz_X0_scanDoor_J53 {P : Nat → Nat} {S : zm_S} {M : qm} {i1 : Int32} {qi1 : Int} {i2 : Int32} {qi2 : Int} {i3 : Int32} {qi3 : Int} {i4 : Int32} {qi4 : Int} {i5 : Int32} {qi5 : Int} {i6 : Int32} {qi6 : Int} {i7 : Int32} {qi7 : Int} (hS : Sh L xs P S) (hM : qM P S = M) (ei1 : i1.toInt = qi1) (ei2 : i2.toInt = qi2) (ei3 : i3.toInt = qi3) (ei4 : i4.toInt = qi4) (ei5 : i5.toInt = qi5) (ei6 : i6.toInt = qi6) (ei7 : i7.toInt = qi7) {k : Nat → Int32 → Int32 → Int32 → Int32 → Int32 → Int32 → Int32 → zm_S → Option ((Int32 × zm_S) ⊕ ((Int32) × zm_S))} : qs (zf_X0_scanDoor_J53 20000 k 824 i1 i2 i3 i4 i5 i6 i7 S) (qf_X0_scanDoor_J53 20000 qi1 qi2 qi3 qi4 qi5 qi6 qi7 M) (tk (vs (rr L xs P vi) (rr L xs P vi)) (qc_X0_scanDoor_L26 L xs P k)) := by
  unfold zf_X0_scanDoor_J53 qf_X0_scanDoor_J53
  exact (qz_X0_scanDoor_J58 hS hM ei1 ei2 ei3 ei4 ei5 ei6 ei7 k_1)
set_option maxRecDepth 20000 in
theorem qz_X2_isPointOn {P : Nat → Nat} {S : zm_S} {M : qm} {i1 : Int32} {qi1 : Int} {i2 : Int32} {qi2 : Int} (hS : Sh L xs P S) (hM : qM P S = M) (ei1 : i1.toInt = qi1) (ei2 : i2.toInt = qi2) : qs (zf_X2_isPointOn 20000 51 i1 i2 S) (qf_X2_isPointOn 20000 qi1 qi2 M) (tO (rp L xs P M vi)) := by
  unfold zf_X2_isPointOn qf_X2_isPointOn
  refine qs_gr hS pl_51 ts_51 rfl ?_
  refine qs_zi hS pl_51 ts_51 ?_
  refine qs_bp (qz_X2_unitX hS hM ei1 ei2) (fun v3508 S3508 w3508 h3508 hS3508 hM3508 => ?_)
  refine qs_zi hS3508 pl_51 ts_51 ?_
  refine qs_bp (qz_X2_unitY hS3508 hM3508 ei1 ei2) (fun v3510 S3510 w3510 h3510 hS3510 hM3510 => ?_)
  refine qs_gd (fun g3512 => ?_)
  refine qs_xi hM3510 (pa_p hS3510 pl_55 ts_55) (p_add (p_mul h3508 k_25) h3510) g3512 (fun v3511 h3511 => ?_)
  refine qs_ite (or_congr (c_eq h3511 k_0) (c_eq h3511 k_1)) ?_ ?_
  · exact qs_tp (show vi _ _ from h3511) hS3510 hM3510
  · exact qs_none
set_option maxRecDepth 20000 in
theorem qz_X0_scanDoor_L26_b (n : Nat) {P : Nat → Nat} {S : zm_S} {M : qm} {i1 : Int32} {qi1 : Int} {i2 : Int32} {qi2 : Int} {i3 : Int32} {qi3 : Int} {i4 : Int32} {qi4 : Int} {i5 : Int32} {qi5 : Int} {i6 : Int32} {qi6 : Int} {i7 : Int32} {qi7 : Int} (hS : Sh L xs P S) (hM : qM P S = M) (ei1 : i1.toInt = qi1) (ei2 : i2.toInt = qi2) (ei3 : i3.toInt = qi3) (ei4 : i4.toInt = qi4) (ei5 : i5.toInt = qi5) (ei6 : i6.toInt = qi6) (ei7 : i7.toInt = qi7) : qs (zf_X0_scanDoor_L26 20000 (n + 1) 824 i1 i2 i3 i4 i5 i6 i7 S) (qf_X0_scanDoor_L26_b 20000 qi1 qi2 qi3 qi4 qi5 qi6 qi7 M) (tk (vs (rr L xs P vi) (rr L xs P vi)) (qc_X0_scanDoor_L26 L xs P (zf_X0_scanDoor_L26 20000 n))) := by
  refine qs_eq (zf_X0_scanDoor_L26.eq_2 ..) ?_
  unfold qf_X0_scanDoor_L26_b
  refine qs_ite (c_le ei6 ei7) ?_ ?_
  · exact qs_tr2 (show vi _ _ from ei3) hS hM
  · refine qs_ite (c_eq ei7 ei5) ?_ ?_
    · exact (qz_X0_scanDoor_J53 hS hM ei1 ei2 ei3 ei4 ei5 ei6 ei7)
    · refine qs_gr hS pl_824 ts_824 rfl ?_
      refine qs_zi hS pl_51 ts_51 ?_
      refine qs_bp (qz_X2_isPointOn hS hM ei1 ei7) (fun v3515 S3515 w3515 h3515 hS3515 hM3515 => ?_)
      refine qs_ite (c_eq h3515 k_0) ?_ ?_
      · exact (qz_X0_scanDoor_J58 hS3515 hM3515 ei1 ei2 ei3 ei4 ei5 ei6 ei7 k_0)
      · exact (qz_X0_scanDoor_J53 hS3515 hM3515 ei1 ei2 ei3 ei4 ei5 ei6 ei7)
theorem qz_X0_scanDoor_L26 (n : Nat) : ∀ {P : Nat → Nat} {S : zm_S} {M : qm} {i1 : Int32} {qi1 : Int} {i2 : Int32} {qi2 : Int} {i3 : Int32} {qi3 : Int} {i4 : Int32} {qi4 : Int} {i5 : Int32} {qi5 : Int} {i6 : Int32} {qi6 : Int} {i7 : Int32} {qi7 : Int} (hS : Sh L xs P S) (hM : qM P S = M) (ei1 : i1.toInt = qi1) (ei2 : i2.toInt = qi2) (ei3 : i3.toInt = qi3) (ei4 : i4.toInt = qi4) (ei5 : i5.toInt = qi5) (ei6 : i6.toInt = qi6) (ei7 : i7.toInt = qi7), qs (zf_X0_scanDoor_L26 20000 n 824 i1 i2 i3 i4 i5 i6 i7 S) (qf_X0_scanDoor_L26 20000 n qi1 qi2 qi3 qi4 qi5 qi6 qi7 M) (tO (vs (rr L xs P vi) (rr L xs P vi))) := by
  induction n with
  | zero =>
    intros
    exact qs_none
  | succ n ih =>
    intro P S M i1 qi1 i2 qi2 i3 qi3 i4 qi4 i5 qi5 i6 qi6 i7 qi7 hS hM ei1 ei2 ei3 ei4 ei5 ei6 ei7
    unfold qf_X0_scanDoor_L26
    refine qs_loop (C := (qc_X0_scanDoor_L26 L xs P (zf_X0_scanDoor_L26 20000 n))) (qz_X0_scanDoor_L26_b n hS hM ei1 ei2 ei3 ei4 ei5 ei6 ei7) ?_
    rintro x s ⟨_, _, _, _, _, _, _, _, rfl, u0, u1, u2, u3, u4, u5, u6, hS2, hM2⟩
    exact ih hS2 hM2 u0 u1 u2 u3 u4 u5 u6
set_option maxRecDepth 20000 in
theorem qz_X0_scanDoor {P : Nat → Nat} {S : zm_S} {M : qm} {i1 : Int32} {qi1 : Int} {i2 : Int32} {qi2 : Int} {i3 : Int32} {qi3 : Int} {i4 : Int32} {qi4 : Int} (hS : Sh L xs P S) (hM : qM P S = M) (ei1 : i1.toInt = qi1) (ei2 : i2.toInt = qi2) (ei3 : i3.toInt = qi3) (ei4 : i4.toInt = qi4) : qs (zf_X0_scanDoor 20000 824 i1 i2 i3 i4 S) (qf_X0_scanDoor 20000 qi1 qi2 qi3 qi4 M) (tO (rr L xs P vi)) := by
  unfold zf_X0_scanDoor qf_X0_scanDoor
  refine qs_gr hS pl_824 ts_824 rfl ?_
  refine qs_zi hS pl_7 ts_7 ?_
  refine qs_bp (qz_X8_fromOf hS hM ei1 ei2) (fun v3518 S3518 w3518 h3518 hS3518 hM3518 => ?_)
  refine qs_gr hS3518 pl_824 ts_824 rfl ?_
  refine qs_zi hS3518 pl_7 ts_7 ?_
  refine qs_bp (qz_X8_toOf hS3518 hM3518 ei1 ei2) (fun v3521 S3521 w3521 h3521 hS3521 hM3521 => ?_)
  refine qs_lr (qz_X0_scanDoor_L26 20000 hS3521 hM3521 ei1 ei2 ei3 ei4 h3518 h3521 h3518) ?_ ?_
  · intro v3523 S3523 w3523 M3523 h3523 hS3523 hM3523
    dsimp only
    exact qs_tr h3523 hS3523 hM3523
  · intro v3523 S3523 w3523 M3523 h3523 hS3523 hM3523
    dsimp only
    exact qs_tr (show vi _ _ from h3523) hS3523 hM3523
set_option maxRecDepth 20000 in
theorem qz_X0_scanLines_L18_b (n : Nat) {P : Nat → Nat} {S : zm_S} {M : qm} {i1 : Int32} {qi1 : Int} {i2 : Int32} {qi2 : Int} {i3 : Int32} {qi3 : Int} {i4 : Int32} {qi4 : Int} (hS : Sh L xs P S) (hM : qM P S = M) (ei1 : i1.toInt = qi1) (ei2 : i2.toInt = qi2) (ei3 : i3.toInt = qi3) (ei4 : i4.toInt = qi4) : qs (zf_X0_scanLines_L18 20000 (n + 1) 824 i1 i2 i3 i4 S) (qf_X0_scanLines_L18_b 20000 qi1 qi2 qi3 qi4 M) (tk (vs (rr L xs P vi) (rr L xs P vi)) (qc_X0_scanLines_L18 L xs P (zf_X0_scanLines_L18 20000 n))) := by
  refine qs_eq (zf_X0_scanLines_L18.eq_2 ..) ?_
  unfold qf_X0_scanLines_L18_b
  refine qs_gr hS pl_824 ts_824 rfl ?_
  refine qs_gr hS pl_7 ts_7 rfl ?_
  refine qs_gd (fun g3527 => ?_)
  refine qs_xi hM (pa_p hS pl_29 ts_29) ei3 g3527 (fun v3526 h3526 => ?_)
  refine qs_ite (c_le h3526 ei4) ?_ ?_
  · exact qs_tr2 (show vi _ _ from ei2) hS hM
  · refine qs_zi hS pl_824 ts_824 ?_
    refine qs_b (qz_X0_scanDoor hS hM ei3 ei4 ei2 ei1) (fun v3529 S3529 w3529 M3529 h3529 hS3529 hM3529 => ?_)
    exact qs_tk ⟨_, _, _, _, _, rfl, ei1, h3529, ei3, (p_add ei4 k_1), hS3529, hM3529⟩
theorem qz_X0_scanLines_L18 (n : Nat) : ∀ {P : Nat → Nat} {S : zm_S} {M : qm} {i1 : Int32} {qi1 : Int} {i2 : Int32} {qi2 : Int} {i3 : Int32} {qi3 : Int} {i4 : Int32} {qi4 : Int} (hS : Sh L xs P S) (hM : qM P S = M) (ei1 : i1.toInt = qi1) (ei2 : i2.toInt = qi2) (ei3 : i3.toInt = qi3) (ei4 : i4.toInt = qi4), qs (zf_X0_scanLines_L18 20000 n 824 i1 i2 i3 i4 S) (qf_X0_scanLines_L18 20000 n qi1 qi2 qi3 qi4 M) (tO (vs (rr L xs P vi) (rr L xs P vi))) := by
  induction n with
  | zero =>
    intros
    exact qs_none
  | succ n ih =>
    intro P S M i1 qi1 i2 qi2 i3 qi3 i4 qi4 hS hM ei1 ei2 ei3 ei4
    unfold qf_X0_scanLines_L18
    refine qs_loop (C := (qc_X0_scanLines_L18 L xs P (zf_X0_scanLines_L18 20000 n))) (qz_X0_scanLines_L18_b n hS hM ei1 ei2 ei3 ei4) ?_
    rintro x s ⟨_, _, _, _, _, rfl, u0, u1, u2, u3, hS2, hM2⟩
    exact ih hS2 hM2 u0 u1 u2 u3
set_option maxRecDepth 20000 in
theorem qz_X0_scanLines_L4_b (n : Nat) {P : Nat → Nat} {S : zm_S} {M : qm} {i1 : Int32} {qi1 : Int} {i2 : Int32} {qi2 : Int} {i3 : Int32} {qi3 : Int} (hS : Sh L xs P S) (hM : qM P S = M) (ei1 : i1.toInt = qi1) (ei2 : i2.toInt = qi2) (ei3 : i3.toInt = qi3) : qs (zf_X0_scanLines_L4 20000 (n + 1) 824 i1 i2 i3 S) (qf_X0_scanLines_L4_b 20000 qi1 qi2 qi3 M) (tk (vs (rr L xs P vi) (rr L xs P vi)) (qc_X0_scanLines_L4 L xs P (zf_X0_scanLines_L4 20000 n))) := by
  refine qs_eq (zf_X0_scanLines_L4.eq_2 ..) ?_
  unfold qf_X0_scanLines_L4_b
  refine qs_gr hS pl_824 ts_824 rfl ?_
  refine qs_gi hS hM pl_7 ts_7 (z := 0) rfl rfl (fun v3531 h3531 => ?_)
  refine qs_ite (c_le h3531 ei3) ?_ ?_
  · exact qs_tr2 (show vi _ _ from ei2) hS hM
  · refine qs_lr (qz_X0_scanLines_L18 20000 hS hM ei1 ei2 ei3 k_0) ?_ ?_
    · intro v3533 S3533 w3533 M3533 h3533 hS3533 hM3533
      dsimp only
      exact qs_tr1 h3533 hS3533 hM3533
    · intro v3533 S3533 w3533 M3533 h3533 hS3533 hM3533
      dsimp only
      exact qs_tk ⟨_, _, _, _, rfl, ei1, h3533, (p_add ei3 k_1), hS3533, hM3533⟩
theorem qz_X0_scanLines_L4 (n : Nat) : ∀ {P : Nat → Nat} {S : zm_S} {M : qm} {i1 : Int32} {qi1 : Int} {i2 : Int32} {qi2 : Int} {i3 : Int32} {qi3 : Int} (hS : Sh L xs P S) (hM : qM P S = M) (ei1 : i1.toInt = qi1) (ei2 : i2.toInt = qi2) (ei3 : i3.toInt = qi3), qs (zf_X0_scanLines_L4 20000 n 824 i1 i2 i3 S) (qf_X0_scanLines_L4 20000 n qi1 qi2 qi3 M) (tO (vs (rr L xs P vi) (rr L xs P vi))) := by
  induction n with
  | zero =>
    intros
    exact qs_none
  | succ n ih =>
    intro P S M i1 qi1 i2 qi2 i3 qi3 hS hM ei1 ei2 ei3
    unfold qf_X0_scanLines_L4
    refine qs_loop (C := (qc_X0_scanLines_L4 L xs P (zf_X0_scanLines_L4 20000 n))) (qz_X0_scanLines_L4_b n hS hM ei1 ei2 ei3) ?_
    rintro x s ⟨_, _, _, _, rfl, u0, u1, u2, hS2, hM2⟩
    exact ih hS2 hM2 u0 u1 u2
set_option maxRecDepth 20000 in
theorem qz_X0_scanLines {P : Nat → Nat} {S : zm_S} {M : qm} {i1 : Int32} {qi1 : Int} (hS : Sh L xs P S) (hM : qM P S = M) (ei1 : i1.toInt = qi1) : qs (zf_X0_scanLines 20000 824 i1 S) (qf_X0_scanLines 20000 qi1 M) (tO (rr L xs P vi)) := by
  unfold zf_X0_scanLines qf_X0_scanLines
  refine qs_lr (qz_X0_scanLines_L4 20000 hS hM ei1 k_0 k_0) ?_ ?_
  · intro v3535 S3535 w3535 M3535 h3535 hS3535 hM3535
    dsimp only
    exact qs_tr h3535 hS3535 hM3535
  · intro v3535 S3535 w3535 M3535 h3535 hS3535 hM3535
    dsimp only
    exact qs_tr (show vi _ _ from h3535) hS3535 hM3535
set_option maxRecDepth 20000 in
theorem qz_X0_findPortals {P : Nat → Nat} {S : zm_S} {M : qm} (hS : Sh L xs P S) (hM : qM P S = M) : qs (zf_X0_findPortals 20000 824 S) (qf_X0_findPortals 20000 M) (tO (re L xs vu)) := by
  unfold zf_X0_findPortals qf_X0_findPortals
  refine qs_zi hS pl_824 ts_824 ?_
  refine qs_b (qz_X0_scanLines hS hM k_0) (fun v2 S2 w2 M2 h2 hS2 hM2 => ?_)
  refine qs_gd (fun g3 => ?_)
  refine qs_ni (d := 825) (k := 4) hS2 hM2 (Or.inl ⟨rfl, rfl⟩) (p_mul h2 k_13) g3 (fun P4 S4 M4 hS4 hM4 => ?_)
  refine qs_gd (fun g5 => ?_)
  refine qs_ni (d := 826) (k := 5) hS4 hM4 (Or.inr ⟨rfl, rfl⟩) (p_mul (p_mul h2 k_20) k_3) g5 (fun P6 S6 M6 hS6 hM6 => ?_)
  refine qs_pi hS6 hM6 pl_824 ts_824 (z := 7) rfl rfl (p_div (p_add h2 k_63) k_64 (by decide)) (fun S7 M7 hS7 hM7 => ?_)
  refine qs_gi hS7 hM7 pl_824 ts_824 (z := 7) rfl rfl (fun v8 h8 => ?_)
  refine qs_gd (fun g9 => ?_)
  refine qs_nl hS7 hM7 (p_mul h2 h8) g9 (fun P10 S10 M10 hS10 hM10 => ?_)
  refine qs_pi hS10 hM10 pl_824 ts_824 (z := 3) rfl rfl h2 (fun S11 M11 hS11 hM11 => ?_)
  refine qs_zi hS11 pl_824 ts_824 ?_
  refine qs_b (qz_X0_scanLines hS11 hM11 k_1) (fun v13 S13 w13 M13 h13 hS13 hM13 => ?_)
  exact qs_te trivial hS13 hM13
set_option maxRecDepth 20000 in
theorem qz_X11_build_J48 {P : Nat → Nat} {S : zm_S} {M : qm} {i1 : Int32} {qi1 : Int} {t0 : Int32} {qt0 : Int} (hS : Sh L xs P S) (hM : qM P S = M) (ei1 : i1.toInt = qi1) (et0 : t0.toInt = qt0) : qs (zf_X11_build_J48 20000 6 i1 t0 S) (qf_X11_build_J48 20000 qi1 qt0 M) (tO (re L xs (vs vi ve))) := by
  unfold zf_X11_build_J48 qf_X11_build_J48
  refine qs_xp (qz_X11_needState hS hM et0) ?_ ?_
  · intro v3537 S3537 w3537 h3537 hS3537 hM3537
    dsimp only
    refine qs_gr hS3537 pl_6 ts_6 rfl ?_
    refine qs_zi hS3537 pl_735 ts_735 ?_
    refine qs_b (qz_X7_askAll hS3537 hM3537 ei1) (fun v3540 S3540 w3540 M3540 h3540 hS3540 hM3540 => ?_)
    refine qs_gr hS3540 pl_6 ts_6 rfl ?_
    refine qs_zi hS3540 pl_735 ts_735 ?_
    refine qs_bp (qz_X7_firstRefusing hS3540 hM3540 ) (fun v3543 S3543 w3543 h3543 hS3543 hM3543 => ?_)
    refine qs_ite (c_eq h3543 k_m1) ?_ ?_
    · refine qs_pi hS3543 hM3543 pl_6 ts_6 (z := 11) rfl rfl k_1 (fun S3544 M3544 hS3544 hM3544 => ?_)
      refine qs_gr hS3544 pl_6 ts_6 rfl ?_
      refine qs_zi hS3544 pl_756 ts_756 ?_
      refine qs_b (qz_X10_numberCells hS3544 hM3544 ) (fun v3547 S3547 w3547 M3547 h3547 hS3547 hM3547 => ?_)
      refine qs_gr hS3547 pl_6 ts_6 rfl ?_
      refine qs_zi hS3547 pl_824 ts_824 ?_
      refine qs_be (qz_X0_findPortals hS3547 hM3547 ) (fun v3550 S3550 w3550 M3550 P3550 h3550 hS3550 hM3550 => ?_)
      refine qs_gr hS3550 pl_6 ts_6 rfl ?_
      refine qs_gr hS3550 pl_6 ts_6 rfl ?_
      refine qs_gi hS3550 hM3550 pl_51 ts_51 (z := 3) rfl rfl (fun v3553 h3553 => ?_)
      refine qs_pi hS3550 hM3550 pl_1172 ts_1172 (z := 2) rfl rfl (p_add h3553 k_10) (fun S3554 M3554 hS3554 hM3554 => ?_)
      refine qs_gr hS3554 pl_6 ts_6 rfl ?_
      refine qs_gi hS3554 hM3554 pl_824 ts_824 (z := 3) rfl rfl (fun v3556 h3556 => ?_)
      exact qs_te (show (vs vi ve) _ _ from h3556) hS3554 hM3554
    · exact qs_te (show (vs vi ve) _ _ from (p_sub k_m1 h3543)) hS3543 hM3543
  · intro v3537 S3537 hS3537 hM3537
    dsimp only
    exact qs_te (show (vs vi ve) _ _ from rfl) hS3537 hM3537
set_option maxRecDepth 20000 in
theorem qz_X11_build_J47 {P : Nat → Nat} {S : zm_S} {M : qm} {i1 : Int32} {qi1 : Int} (hS : Sh L xs P S) (hM : qM P S = M) (ei1 : i1.toInt = qi1) : qs (zf_X11_build_J47 20000 6 i1 S) (qf_X11_build_J47 20000 qi1 M) (tO (re L xs (vs vi ve))) := by
  unfold zf_X11_build_J47 qf_X11_build_J47
  exact (qz_X11_build_J48 hS hM ei1 k_0)
set_option maxRecDepth 20000 in
theorem qz_X11_build {P : Nat → Nat} {S : zm_S} {M : qm} {i1 : Int32} {qi1 : Int} (hS : Sh L xs P S) (hM : qM P S = M) (ei1 : i1.toInt = qi1) : qs (zf_X11_build 20000 6 i1 S) (qf_X11_build 20000 qi1 M) (tO (re L xs (vs vi ve))) := by
  unfold zf_X11_build qf_X11_build
  refine qs_bp (qz_X11_isWithin hS hM ei1 k_0 k_1000000) (fun v3557 S3557 w3557 h3557 hS3557 hM3557 => ?_)
  refine qs_xp (qz_X11_needArgument hS3557 hM3557 h3557) ?_ ?_
  · intro v3559 S3559 w3559 h3559 hS3559 hM3559
    dsimp only
    refine qs_gi hS3559 hM3559 pl_6 ts_6 (z := 11) rfl rfl (fun v3560 h3560 => ?_)
    refine qs_ite (c_eq h3560 k_0) ?_ ?_
    · refine qs_gr hS3559 pl_6 ts_6 rfl ?_
      refine qs_gi hS3559 hM3559 pl_51 ts_51 (z := 2) rfl rfl (fun v3562 h3562 => ?_)
      refine qs_ite (c_eq h3562 k_0) ?_ ?_
      · exact (qz_X11_build_J47 hS3559 hM3559 ei1)
      · refine qs_gr hS3559 pl_6 ts_6 rfl ?_
        refine qs_gi hS3559 hM3559 pl_51 ts_51 (z := 3) rfl rfl (fun v3564 h3564 => ?_)
        refine qs_bp (qz_X11_isWithin hS3559 hM3559 h3564 k_1 k_40) (fun v3565 S3565 w3565 h3565 hS3565 hM3565 => ?_)
        refine qs_ite (c_eq h3565 k_0) ?_ ?_
        · exact (qz_X11_build_J47 hS3565 hM3565 ei1)
        · exact (qz_X11_build_J48 hS3565 hM3565 ei1 k_1)
    · exact (qz_X11_build_J47 hS3559 hM3559 ei1)
  · intro v3559 S3559 hS3559 hM3559
    dsimp only
    exact qs_te (show (vs vi ve) _ _ from rfl) hS3559 hM3559
set_option maxRecDepth 20000 in
theorem qz_L_build {P : Nat → Nat} {S : zm_S} {M : qm} {i1 : Int32} {qi1 : Int} (hS : Sh L xs P S) (hM : qM P S = M) (ei1 : i1.toInt = qi1) : qs (zf_L_build 20000 6 i1 2332 S) (qf_L_build 20000 qi1 M) (tO (re L xs vi)) := by
  unfold zf_L_build qf_L_build
  refine qs_zi hS pl_6 ts_6 ?_
  refine qs_xe (qz_X11_build hS hM ei1) ?_ ?_
  · intro v3568 S3568 w3568 M3568 P3568 h3568 hS3568 hM3568
    dsimp only
    refine qs_sl hS3568 hM3568 (pa_p hS3568 pl_2332 ts_2332) k_0 (by decide) (p_64 h3568) (fun S3569 M3569 hS3569 hM3569 => ?_)
    exact qs_te (show vi _ _ from k_0) hS3569 hM3569
  · intro v3568 S3568 M3568 P3568 hS3568 hM3568
    dsimp only
    refine qs_ite Iff.rfl ?_ ?_
    · exact qs_te (show vi _ _ from k_1) hS3568 hM3568
    · refine qs_ite Iff.rfl ?_ ?_
      · exact qs_te (show vi _ _ from k_2) hS3568 hM3568
      · exact qs_none
set_option maxRecDepth 20000 in
theorem qz_X11_build_c_J48 {P : Nat → Nat} {S : zm_S} {M : qm} {i1 : Int32} {qi1 : Int} {t0 : Int32} {qt0 : Int} (hS : Sh L xs P S) (hM : qM P S = M) (ei1 : i1.toInt = qi1) (et0 : t0.toInt = qt0) : qs (zf_X11_build_c_J48 20000 6 i1 t0 S) (qf_X11_build_c_J48 20000 qi1 qt0 M) (tO (rr L xs P (vs vi ve))) := by
  unfold zf_X11_build_c_J48 qf_X11_build_c_J48
  refine qs_xp (qz_X11_needState hS hM et0) ?_ ?_
  · intro v3571 S3571 w3571 h3571 hS3571 hM3571
    dsimp only
    refine qs_gr hS3571 pl_6 ts_6 rfl ?_
    refine qs_zi hS3571 pl_735 ts_735 ?_
    refine qs_b (qz_X7_askAll hS3571 hM3571 ei1) (fun v3574 S3574 w3574 M3574 h3574 hS3574 hM3574 => ?_)
    refine qs_gr hS3574 pl_6 ts_6 rfl ?_
    refine qs_zi hS3574 pl_735 ts_735 ?_
    refine qs_bp (qz_X7_firstRefusing hS3574 hM3574 ) (fun v3577 S3577 w3577 h3577 hS3577 hM3577 => ?_)
    refine qs_ite (c_eq h3577 k_m1) ?_ ?_
    · exact qs_none
    · exact qs_tr (show (vs vi ve) _ _ from (p_sub k_m1 h3577)) hS3577 hM3577
  · intro v3571 S3571 hS3571 hM3571
    dsimp only
    exact qs_tr (show (vs vi ve) _ _ from rfl) hS3571 hM3571
set_option maxRecDepth 20000 in
theorem qz_X11_build_c_J47 {P : Nat → Nat} {S : zm_S} {M : qm} {i1 : Int32} {qi1 : Int} (hS : Sh L xs P S) (hM : qM P S = M) (ei1 : i1.toInt = qi1) : qs (zf_X11_build_c_J47 20000 6 i1 S) (qf_X11_build_c_J47 20000 qi1 M) (tO (rr L xs P (vs vi ve))) := by
  unfold zf_X11_build_c_J47 qf_X11_build_c_J47
  exact (qz_X11_build_c_J48 hS hM ei1 k_0)
set_option maxRecDepth 20000 in
theorem qz_X11_build_c {P : Nat → Nat} {S : zm_S} {M : qm} {i1 : Int32} {qi1 : Int} (hS : Sh L xs P S) (hM : qM P S = M) (ei1 : i1.toInt = qi1) : qs (zf_X11_build_c 20000 6 i1 S) (qf_X11_build_c 20000 qi1 M) (tO (rr L xs P (vs vi ve))) := by
  unfold zf_X11_build_c qf_X11_build_c
  refine qs_bp (qz_X11_isWithin hS hM ei1 k_0 k_1000000) (fun v3578 S3578 w3578 h3578 hS3578 hM3578 => ?_)
  refine qs_xp (qz_X11_needArgument hS3578 hM3578 h3578) ?_ ?_
  · intro v3580 S3580 w3580 h3580 hS3580 hM3580
    dsimp only
    refine qs_gi hS3580 hM3580 pl_6 ts_6 (z := 11) rfl rfl (fun v3581 h3581 => ?_)
    refine qs_ite (c_eq h3581 k_0) ?_ ?_
    · refine qs_gr hS3580 pl_6 ts_6 rfl ?_
      refine qs_gi hS3580 hM3580 pl_51 ts_51 (z := 2) rfl rfl (fun v3583 h3583 => ?_)
      refine qs_ite (c_eq h3583 k_0) ?_ ?_
      · exact (qz_X11_build_c_J47 hS3580 hM3580 ei1)
      · refine qs_gr hS3580 pl_6 ts_6 rfl ?_
        refine qs_gi hS3580 hM3580 pl_51 ts_51 (z := 3) rfl rfl (fun v3585 h3585 => ?_)
        refine qs_bp (qz_X11_isWithin hS3580 hM3580 h3585 k_1 k_40) (fun v3586 S3586 w3586 h3586 hS3586 hM3586 => ?_)
        refine qs_ite (c_eq h3586 k_0) ?_ ?_
        · exact (qz_X11_build_c_J47 hS3586 hM3586 ei1)
        · exact (qz_X11_build_c_J48 hS3586 hM3586 ei1 k_1)
    · exact (qz_X11_build_c_J47 hS3580 hM3580 ei1)
  · intro v3580 S3580 hS3580 hM3580
    dsimp only
    exact qs_tr (show (vs vi ve) _ _ from rfl) hS3580 hM3580
set_option maxRecDepth 20000 in
theorem qz_L_build_c {P : Nat → Nat} {S : zm_S} {M : qm} {i1 : Int32} {qi1 : Int} (hS : Sh L xs P S) (hM : qM P S = M) (ei1 : i1.toInt = qi1) : qs (zf_L_build_c 20000 6 i1 2332 S) (qf_L_build_c 20000 qi1 M) (tO (rr L xs P vi)) := by
  unfold zf_L_build_c qf_L_build_c
  refine qs_zi hS pl_6 ts_6 ?_
  refine qs_xr (qz_X11_build_c hS hM ei1) ?_ ?_
  · intro v3589 S3589 w3589 M3589 h3589 hS3589 hM3589
    dsimp only
    refine qs_sl hS3589 hM3589 (pa_p hS3589 pl_2332 ts_2332) k_0 (by decide) (p_64 h3589) (fun S3590 M3590 hS3590 hM3590 => ?_)
    exact qs_tr (show vi _ _ from k_0) hS3590 hM3590
  · intro v3589 S3589 M3589 hS3589 hM3589
    dsimp only
    refine qs_ite Iff.rfl ?_ ?_
    · exact qs_tr (show vi _ _ from k_1) hS3589 hM3589
    · refine qs_ite Iff.rfl ?_ ?_
      · exact qs_tr (show vi _ _ from k_2) hS3589 hM3589
      · exact qs_none
set_option maxRecDepth 20000 in
theorem qz_X18_build_L68_b (n : Nat) {P : Nat → Nat} {S : zm_S} {M : qm} {i3 : Int32} {qi3 : Int} (hS : Sh L xs P S) (hM : qM P S = M) (ei3 : i3.toInt = qi3) : qs (zf_X18_build_L68 20000 (n + 1) 2156 i3 S) (qf_X18_build_L68_b 20000 qi3 M) (tk (vs (rp L xs P M vi) (rp L xs P M vu)) (qc_X18_build_L68 L xs P M (zf_X18_build_L68 20000 n))) := by
  refine qs_eq (zf_X18_build_L68.eq_2 ..) ?_
  unfold qf_X18_build_L68_b
  refine qs_gr hS pl_2156 ts_2156 rfl ?_
  refine qs_gi hS hM pl_2184 ts_2184 (z := 5) rfl rfl (fun v3592 h3592 => ?_)
  refine qs_ite (c_le h3592 ei3) ?_ ?_
  · exact qs_tp2 (show vu _ _ from trivial) hS hM
  · refine qs_gr hS pl_2156 ts_2156 rfl ?_
    refine qs_gr hS pl_2184 ts_2184 rfl ?_
    refine qs_gd (fun g3596 => ?_)
    refine qs_xi hM (pa_p hS pl_2198 ts_2198) ei3 g3596 (fun v3595 h3595 => ?_)
    refine qs_ite (c_eq h3595 k_1) ?_ ?_
    · exact qs_tp1 (show vi _ _ from (p_sub k_m1 ei3)) hS hM
    · refine qs_gr hS pl_2156 ts_2156 rfl ?_
      refine qs_gr hS pl_2184 ts_2184 rfl ?_
      refine qs_gd (fun g3600 => ?_)
      refine qs_xi hM (pa_p hS pl_2198 ts_2198) ei3 g3600 (fun v3599 h3599 => ?_)
      refine qs_ite (c_eq h3599 k_3) ?_ ?_
      · exact qs_tp1 (show vi _ _ from (p_sub k_m1 ei3)) hS hM
      · exact qs_tk ⟨_, _, rfl, (p_add ei3 k_1), hS, hM⟩
theorem qz_X18_build_L68 (n : Nat) : ∀ {P : Nat → Nat} {S : zm_S} {M : qm} {i3 : Int32} {qi3 : Int} (hS : Sh L xs P S) (hM : qM P S = M) (ei3 : i3.toInt = qi3), qs (zf_X18_build_L68 20000 n 2156 i3 S) (qf_X18_build_L68 20000 n qi3 M) (tO (vs (rp L xs P M vi) (rp L xs P M vu))) := by
  induction n with
  | zero =>
    intros
    exact qs_none
  | succ n ih =>
    intro P S M i3 qi3 hS hM ei3
    unfold qf_X18_build_L68
    refine qs_loop (C := (qc_X18_build_L68 L xs P M (zf_X18_build_L68 20000 n))) (qz_X18_build_L68_b n hS hM ei3) ?_
    rintro x s ⟨_, _, rfl, u0, hS2, hM2⟩
    exact ih hS2 hM2 u0
set_option maxRecDepth 20000 in
theorem qz_X18_build_L147_b (n : Nat) {P : Nat → Nat} {S : zm_S} {M : qm} {i3 : Int32} {qi3 : Int} (hS : Sh L xs P S) (hM : qM P S = M) (ei3 : i3.toInt = qi3) : qs (zf_X18_build_L147 20000 (n + 1) 2156 i3 S) (qf_X18_build_L147_b 20000 qi3 M) (tk (vs (rr L xs P vi) (rr L xs P vu)) (qc_X18_build_L147 L xs P (zf_X18_build_L147 20000 n))) := by
  refine qs_eq (zf_X18_build_L147.eq_2 ..) ?_
  unfold qf_X18_build_L147_b
  refine qs_ite (c_le k_576 ei3) ?_ ?_
  · exact qs_tr2 (show vu _ _ from trivial) hS hM
  · refine qs_gr hS pl_2156 ts_2156 rfl ?_
    refine qs_gr hS pl_2156 ts_2156 rfl ?_
    refine qs_zi hS pl_2157 ts_2157 ?_
    refine qs_bp (qz_X16_at hS hM (p_mod ei3 k_24) (p_div ei3 k_24 (by decide))) (fun v3604 S3604 w3604 h3604 hS3604 hM3604 => ?_)
    refine qs_gd (fun g3606 => ?_)
    refine qs_si hS3604 hM3604 (pa_p hS3604 pl_2329 ts_2329) ei3 g3606 h3604 (fun S3605 M3605 hS3605 hM3605 => ?_)
    exact qs_tk ⟨_, _, rfl, (p_add ei3 k_1), hS3605, hM3605⟩
theorem qz_X18_build_L147 (n : Nat) : ∀ {P : Nat → Nat} {S : zm_S} {M : qm} {i3 : Int32} {qi3 : Int} (hS : Sh L xs P S) (hM : qM P S = M) (ei3 : i3.toInt = qi3), qs (zf_X18_build_L147 20000 n 2156 i3 S) (qf_X18_build_L147 20000 n qi3 M) (tO (vs (rr L xs P vi) (rr L xs P vu))) := by
  induction n with
  | zero =>
    intros
    exact qs_none
  | succ n ih =>
    intro P S M i3 qi3 hS hM ei3
    unfold qf_X18_build_L147
    refine qs_loop (C := (qc_X18_build_L147 L xs P (zf_X18_build_L147 20000 n))) (qz_X18_build_L147_b n hS hM ei3) ?_
    rintro x s ⟨_, _, rfl, u0, hS2, hM2⟩
    exact ih hS2 hM2 u0
set_option maxRecDepth 20000 in
theorem qz_X16_pieceOf_L5_b (n : Nat) {P : Nat → Nat} {S : zm_S} {M : qm} {i1 : Int32} {qi1 : Int} {i3 : Int32} {qi3 : Int} {i4 : Int32} {qi4 : Int} (hS : Sh L xs P S) (hM : qM P S = M) (ei1 : i1.toInt = qi1) (ei3 : i3.toInt = qi3) (ei4 : i4.toInt = qi4) : qs (zf_X16_pieceOf_L5 20000 (n + 1) 2157 i1 i3 i4 S) (qf_X16_pieceOf_L5_b 20000 qi1 qi3 qi4 M) (tk (vs (rp L xs P M vi) (rp L xs P M vu)) (qc_X16_pieceOf_L5 L xs P M (zf_X16_pieceOf_L5 20000 n))) := by
  refine qs_eq (zf_X16_pieceOf_L5.eq_2 ..) ?_
  unfold qf_X16_pieceOf_L5_b
  refine qs_gi hS hM pl_2157 ts_2157 (z := 30) rfl rfl (fun v3607 h3607 => ?_)
  refine qs_ite (c_le h3607 ei4) ?_ ?_
  · exact qs_tp2 (show vu _ _ from trivial) hS hM
  · refine qs_gr hS pl_2157 ts_2157 rfl ?_
    refine qs_gd (fun g3610 => ?_)
    refine qs_xi hM (pa_p hS pl_2176 ts_2176) ei4 g3610 (fun v3609 h3609 => ?_)
    refine qs_ite (c_eq h3609 ei1) ?_ ?_
    · refine qs_ite (c_eq ei3 k_0) ?_ ?_
      · exact qs_tp1 (show vi _ _ from ei4) hS hM
      · exact qs_tk ⟨_, _, _, _, rfl, ei1, (p_addm ei3 k_m1), (p_add ei4 k_1), hS, hM⟩
    · exact qs_tk ⟨_, _, _, _, rfl, ei1, ei3, (p_add ei4 k_1), hS, hM⟩
theorem qz_X16_pieceOf_L5 (n : Nat) : ∀ {P : Nat → Nat} {S : zm_S} {M : qm} {i1 : Int32} {qi1 : Int} {i3 : Int32} {qi3 : Int} {i4 : Int32} {qi4 : Int} (hS : Sh L xs P S) (hM : qM P S = M) (ei1 : i1.toInt = qi1) (ei3 : i3.toInt = qi3) (ei4 : i4.toInt = qi4), qs (zf_X16_pieceOf_L5 20000 n 2157 i1 i3 i4 S) (qf_X16_pieceOf_L5 20000 n qi1 qi3 qi4 M) (tO (vs (rp L xs P M vi) (rp L xs P M vu))) := by
  induction n with
  | zero =>
    intros
    exact qs_none
  | succ n ih =>
    intro P S M i1 qi1 i3 qi3 i4 qi4 hS hM ei1 ei3 ei4
    unfold qf_X16_pieceOf_L5
    refine qs_loop (C := (qc_X16_pieceOf_L5 L xs P M (zf_X16_pieceOf_L5 20000 n))) (qz_X16_pieceOf_L5_b n hS hM ei1 ei3 ei4) ?_
    rintro x s ⟨_, _, _, _, rfl, u0, u1, u2, hS2, hM2⟩
    exact ih hS2 hM2 u0 u1 u2
set_option maxRecDepth 20000 in
theorem qz_X16_pieceOf {P : Nat → Nat} {S : zm_S} {M : qm} {i1 : Int32} {qi1 : Int} {i2 : Int32} {qi2 : Int} (hS : Sh L xs P S) (hM : qM P S = M) (ei1 : i1.toInt = qi1) (ei2 : i2.toInt = qi2) : qs (zf_X16_pieceOf 20000 2157 i1 i2 S) (qf_X16_pieceOf 20000 qi1 qi2 M) (tO (rp L xs P M vi)) := by
  unfold zf_X16_pieceOf qf_X16_pieceOf
  refine qs_lp (qz_X16_pieceOf_L5 20000 hS hM ei1 ei2 k_0) ?_ ?_
  · intro v3612 S3612 w3612 h3612 hS3612 hM3612
    dsimp only
    exact qs_tp h3612 hS3612 hM3612
  · intro v3612 S3612 w3612 h3612 hS3612 hM3612
    dsimp only
    exact qs_tp (show vi _ _ from k_m1) hS3612 hM3612
set_option maxRecDepth 20000 in
theorem qz_X16_roomBeside {P : Nat → Nat} {S : zm_S} {M : qm} {i1 : Int32} {qi1 : Int} {i2 : Int32} {qi2 : Int} (hS : Sh L xs P S) (hM : qM P S = M) (ei1 : i1.toInt = qi1) (ei2 : i2.toInt = qi2) : qs (zf_X16_roomBeside 20000 2157 i1 i2 S) (qf_X16_roomBeside 20000 qi1 qi2 M) (tO (rp L xs P M vi)) := by
  unfold zf_X16_roomBeside qf_X16_roomBeside
  refine qs_ite (c_eq ei2 k_0) ?_ ?_
  · refine qs_zi hS pl_2157 ts_2157 ?_
    refine qs_bp (qz_X16_right hS hM (p_mul k_2 ei1)) (fun v3614 S3614 w3614 h3614 hS3614 hM3614 => ?_)
    exact qs_tp (show vi _ _ from h3614) hS3614 hM3614
  · refine qs_zi hS pl_2157 ts_2157 ?_
    refine qs_bp (qz_X16_left hS hM (p_mul k_2 ei1)) (fun v3616 S3616 w3616 h3616 hS3616 hM3616 => ?_)
    exact qs_tp (show vi _ _ from h3616) hS3616 hM3616
set_option maxRecDepth 20000 in
theorem qz_X18_roomOf {P : Nat → Nat} {S : zm_S} {M : qm} {i1 : Int32} {qi1 : Int} (hS : Sh L xs P S) (hM : qM P S = M) (ei1 : i1.toInt = qi1) : qs (zf_X18_roomOf 20000 2156 i1 S) (qf_X18_roomOf 20000 qi1 M) (tO (rp L xs P M vi)) := by
  unfold zf_X18_roomOf qf_X18_roomOf
  refine qs_ite (c_le k_0 ei1) ?_ ?_
  · exact qs_tp (show vi _ _ from ei1) hS hM
  · refine qs_gi hS hM pl_2156 ts_2156 (z := 9) rfl rfl (fun v3617 h3617 => ?_)
    exact qs_tp (show vi _ _ from h3617) hS hM
set_option maxRecDepth 20000 in
theorem qz_X16_low {P : Nat → Nat} {S : zm_S} {M : qm} {i1 : Int32} {qi1 : Int} (hS : Sh L xs P S) (hM : qM P S = M) (ei1 : i1.toInt = qi1) : qs (zf_X16_low 20000 2157 i1 S) (qf_X16_low 20000 qi1 M) (tO (rp L xs P M vi)) := by
  unfold zf_X16_low qf_X16_low
  refine qs_gr hS pl_2157 ts_2157 rfl ?_
  refine qs_gd (fun g3620 => ?_)
  refine qs_xi hM (pa_p hS pl_2176 ts_2176) ei1 g3620 (fun v3619 h3619 => ?_)
  refine qs_gr hS pl_2157 ts_2157 rfl ?_
  refine qs_gr hS pl_2157 ts_2157 rfl ?_
  refine qs_gd (fun g3624 => ?_)
  refine qs_xi hM (pa_p hS pl_2177 ts_2177) ei1 g3624 (fun v3623 h3623 => ?_)
  refine qs_gd (fun g3626 => ?_)
  refine qs_xi hM (pa_p hS pl_2174 ts_2174) h3623 g3626 (fun v3625 h3625 => ?_)
  refine qs_gr hS pl_2157 ts_2157 rfl ?_
  refine qs_gd (fun g3629 => ?_)
  refine qs_xi hM (pa_p hS pl_2158 ts_2158) h3619 g3629 (fun v3628 h3628 => ?_)
  refine qs_gr hS pl_2157 ts_2157 rfl ?_
  refine qs_gr hS pl_2157 ts_2157 rfl ?_
  refine qs_gd (fun g3633 => ?_)
  refine qs_xi hM (pa_p hS pl_2177 ts_2177) ei1 g3633 (fun v3632 h3632 => ?_)
  refine qs_gd (fun g3635 => ?_)
  refine qs_xi hM (pa_p hS pl_2175 ts_2175) h3632 g3635 (fun v3634 h3634 => ?_)
  refine qs_gr hS pl_2157 ts_2157 rfl ?_
  refine qs_gd (fun g3638 => ?_)
  refine qs_xi hM (pa_p hS pl_2159 ts_2159) h3619 g3638 (fun v3637 h3637 => ?_)
  exact qs_tp (show vi _ _ from (p_sub (p_add (p_sub h3625 h3628) h3634) h3637)) hS hM
set_option maxRecDepth 20000 in
theorem qz_X16_partFrom_J53 {P : Nat → Nat} {S : zm_S} {M : qm} {i1 : Int32} {qi1 : Int} {i3 : Int32} {qi3 : Int} {t0 : Int32} {qt0 : Int} (hS : Sh L xs P S) (hM : qM P S = M) (ei1 : i1.toInt = qi1) (ei3 : i3.toInt = qi3) (et0 : t0.toInt = qt0) : qs (zf_X16_partFrom_J53 20000 2157 i1 i3 t0 S) (qf_X16_partFrom_J53 20000 qi1 qi3 qt0 M) (tO (rp L xs P M vi)) := by
  unfold zf_X16_partFrom_J53 qf_X16_partFrom_J53
  refine qs_ite (c_eq et0 k_0) ?_ ?_
  · exact qs_tp (show vi _ _ from k_m1) hS hM
  · refine qs_zi hS pl_2157 ts_2157 ?_
    refine qs_bp (qz_X16_low hS hM ei1) (fun v3640 S3640 w3640 h3640 hS3640 hM3640 => ?_)
    refine qs_gr hS3640 pl_2157 ts_2157 rfl ?_
    refine qs_gd (fun g3643 => ?_)
    refine qs_xi hM3640 (pa_p hS3640 pl_2163 ts_2163) ei3 g3643 (fun v3642 h3642 => ?_)
    refine qs_ite (c_le h3640 h3642) ?_ ?_
    · refine qs_gr hS3640 pl_2157 ts_2157 rfl ?_
      refine qs_gd (fun g3646 => ?_)
      refine qs_xi hM3640 (pa_p hS3640 pl_2163 ts_2163) ei3 g3646 (fun v3645 h3645 => ?_)
      exact qs_tp (show vi _ _ from h3645) hS3640 hM3640
    · refine qs_zi hS3640 pl_2157 ts_2157 ?_
      refine qs_bp (qz_X16_low hS3640 hM3640 ei1) (fun v3648 S3648 w3648 h3648 hS3648 hM3648 => ?_)
      exact qs_tp (show vi _ _ from h3648) hS3648 hM3648
set_option maxRecDepth 20000 in
theorem qz_X16_partFrom {P : Nat → Nat} {S : zm_S} {M : qm} {i1 : Int32} {qi1 : Int} {i2 : Int32} {qi2 : Int} (hS : Sh L xs P S) (hM : qM P S = M) (ei1 : i1.toInt = qi1) (ei2 : i2.toInt = qi2) : qs (zf_X16_partFrom 20000 2157 i1 i2 S) (qf_X16_partFrom 20000 qi1 qi2 M) (tO (rp L xs P M vi)) := by
  unfold zf_X16_partFrom qf_X16_partFrom
  refine qs_gr hS pl_2157 ts_2157 rfl ?_
  refine qs_gd (fun g3651 => ?_)
  refine qs_xi hM (pa_p hS pl_2176 ts_2176) ei1 g3651 (fun v3650 h3650 => ?_)
  refine qs_zi hS pl_2157 ts_2157 ?_
  refine qs_bp (qz_X16_low hS hM ei1) (fun v3653 S3653 w3653 h3653 hS3653 hM3653 => ?_)
  refine qs_zi hS3653 pl_2157 ts_2157 ?_
  refine qs_bp (qz_X16_low hS3653 hM3653 ei1) (fun v3655 S3655 w3655 h3655 hS3655 hM3655 => ?_)
  refine qs_zi hS3655 pl_2157 ts_2157 ?_
  refine qs_bp (qz_X16_sideLength hS3655 hM3655 (p_mul k_2 ei1)) (fun v3657 S3657 w3657 h3657 hS3657 hM3657 => ?_)
  refine qs_gr hS3657 pl_2157 ts_2157 rfl ?_
  refine qs_gd (fun g3660 => ?_)
  refine qs_xi hM3657 (pa_p hS3657 pl_2163 ts_2163) (p_add (p_mul k_6 h3650) ei2) g3660 (fun v3659 h3659 => ?_)
  refine qs_gr hS3657 pl_2157 ts_2157 rfl ?_
  refine qs_gd (fun g3663 => ?_)
  refine qs_xi hM3657 (pa_p hS3657 pl_2164 ts_2164) (p_add (p_mul k_6 h3650) ei2) g3663 (fun v3662 h3662 => ?_)
  refine qs_bp (qz_X16_shared hS3657 hM3657 h3653 (p_add h3655 h3657) h3659 h3662) (fun v3664 S3664 w3664 h3664 hS3664 hM3664 => ?_)
  refine qs_ite (c_le h3664 k_0) ?_ ?_
  · exact (qz_X16_partFrom_J53 hS3664 hM3664 ei1 (p_add (p_mul k_6 h3650) ei2) k_0)
  · exact (qz_X16_partFrom_J53 hS3664 hM3664 ei1 (p_add (p_mul k_6 h3650) ei2) k_1)
set_option maxRecDepth 20000 in
theorem qz_X18_portal {P : Nat → Nat} {S : zm_S} {M : qm} {i1 : Int32} {qi1 : Int} {i2 : Int32} {qi2 : Int} {i3 : Int32} {qi3 : Int} (hS : Sh L xs P S) (hM : qM P S = M) (ei1 : i1.toInt = qi1) (ei2 : i2.toInt = qi2) (ei3 : i3.toInt = qi3) : qs (zf_X18_portal 20000 2156 i1 i2 i3 S) (qf_X18_portal 20000 qi1 qi2 qi3 M) (tO (rr L xs P vu)) := by
  unfold zf_X18_portal qf_X18_portal
  refine qs_gr hS pl_2156 ts_2156 rfl ?_
  refine qs_zi hS pl_2157 ts_2157 ?_
  refine qs_bp (qz_X16_roomBeside hS hM ei3 k_1) (fun v3667 S3667 w3667 h3667 hS3667 hM3667 => ?_)
  refine qs_zi hS3667 pl_2156 ts_2156 ?_
  refine qs_bp (qz_X18_roomOf hS3667 hM3667 h3667) (fun v3669 S3669 w3669 h3669 hS3669 hM3669 => ?_)
  refine qs_gr hS3669 pl_2156 ts_2156 rfl ?_
  refine qs_zi hS3669 pl_2157 ts_2157 ?_
  refine qs_bp (qz_X16_roomBeside hS3669 hM3669 ei3 k_0) (fun v3672 S3672 w3672 h3672 hS3672 hM3672 => ?_)
  refine qs_zi hS3672 pl_2156 ts_2156 ?_
  refine qs_bp (qz_X18_roomOf hS3672 hM3672 h3672) (fun v3674 S3674 w3674 h3674 hS3674 hM3674 => ?_)
  refine qs_ite (c_eq h3669 h3674) ?_ ?_
  · exact qs_tr (show vu _ _ from trivial) hS3674 hM3674
  · refine qs_gr hS3674 pl_2156 ts_2156 rfl ?_
    refine qs_zi hS3674 pl_2157 ts_2157 ?_
    refine qs_bp (qz_X16_partFrom hS3674 hM3674 ei3 ei2) (fun v3677 S3677 w3677 h3677 hS3677 hM3677 => ?_)
    refine qs_ite (c_lt h3677 k_0) ?_ ?_
    · exact qs_tr (show vu _ _ from trivial) hS3677 hM3677
    · refine qs_gr hS3677 pl_2156 ts_2156 rfl ?_
      refine qs_gi hS3677 hM3677 pl_2156 ts_2156 (z := 10) rfl rfl (fun v3679 h3679 => ?_)
      refine qs_gd (fun g3681 => ?_)
      refine qs_si hS3677 hM3677 (pa_p hS3677 pl_2289 ts_2289) h3679 g3681 h3669 (fun S3680 M3680 hS3680 hM3680 => ?_)
      refine qs_gr hS3680 pl_2156 ts_2156 rfl ?_
      refine qs_gi hS3680 hM3680 pl_2156 ts_2156 (z := 10) rfl rfl (fun v3683 h3683 => ?_)
      refine qs_gd (fun g3685 => ?_)
      refine qs_si hS3680 hM3680 (pa_p hS3680 pl_2290 ts_2290) h3683 g3685 h3674 (fun S3684 M3684 hS3684 hM3684 => ?_)
      refine qs_gr hS3684 pl_2156 ts_2156 rfl ?_
      refine qs_gi hS3684 hM3684 pl_2156 ts_2156 (z := 10) rfl rfl (fun v3687 h3687 => ?_)
      refine qs_gd (fun g3689 => ?_)
      refine qs_si hS3684 hM3684 (pa_p hS3684 pl_2291 ts_2291) h3687 g3689 ei1 (fun S3688 M3688 hS3688 hM3688 => ?_)
      refine qs_gr hS3688 pl_2156 ts_2156 rfl ?_
      refine qs_gi hS3688 hM3688 pl_2156 ts_2156 (z := 10) rfl rfl (fun v3691 h3691 => ?_)
      refine qs_gd (fun g3693 => ?_)
      refine qs_si hS3688 hM3688 (pa_p hS3688 pl_2292 ts_2292) h3691 g3693 ei2 (fun S3692 M3692 hS3692 hM3692 => ?_)
      refine qs_gr hS3692 pl_2156 ts_2156 rfl ?_
      refine qs_gi hS3692 hM3692 pl_2156 ts_2156 (z := 10) rfl rfl (fun v3695 h3695 => ?_)
      refine qs_gr hS3692 pl_2156 ts_2156 rfl ?_
      refine qs_zi hS3692 pl_2157 ts_2157 ?_
      refine qs_bp (qz_X16_partFrom hS3692 hM3692 ei3 ei2) (fun v3698 S3698 w3698 h3698 hS3698 hM3698 => ?_)
      refine qs_gd (fun g3700 => ?_)
      refine qs_si hS3698 hM3698 (pa_p hS3698 pl_2293 ts_2293) h3695 g3700 h3698 (fun S3699 M3699 hS3699 hM3699 => ?_)
      refine qs_gr hS3699 pl_2156 ts_2156 rfl ?_
      refine qs_gi hS3699 hM3699 pl_2156 ts_2156 (z := 10) rfl rfl (fun v3702 h3702 => ?_)
      refine qs_gd (fun g3704 => ?_)
      refine qs_si hS3699 hM3699 (pa_p hS3699 pl_2297 ts_2297) h3702 g3704 k_2147483647 (fun S3703 M3703 hS3703 hM3703 => ?_)
      refine qs_gi hS3703 hM3703 pl_2156 ts_2156 (z := 10) rfl rfl (fun v3705 h3705 => ?_)
      refine qs_pi hS3703 hM3703 pl_2156 ts_2156 (z := 10) rfl rfl (p_add h3705 k_1) (fun S3706 M3706 hS3706 hM3706 => ?_)
      exact qs_tr (show vu _ _ from trivial) hS3706 hM3706
set_option maxRecDepth 20000 in
theorem qz_X18_findPortals_L41_b (n : Nat) {P : Nat → Nat} {S : zm_S} {M : qm} {i1 : Int32} {qi1 : Int} {i2 : Int32} {qi2 : Int} {i3 : Int32} {qi3 : Int} {i4 : Int32} {qi4 : Int} (hS : Sh L xs P S) (hM : qM P S = M) (ei1 : i1.toInt = qi1) (ei2 : i2.toInt = qi2) (ei3 : i3.toInt = qi3) (ei4 : i4.toInt = qi4) : qs (zf_X18_findPortals_L41 20000 (n + 1) 2156 i1 i2 i3 i4 S) (qf_X18_findPortals_L41_b 20000 qi1 qi2 qi3 qi4 M) (tk (vs (rr L xs P vu) (rr L xs P vu)) (qc_X18_findPortals_L41 L xs P (zf_X18_findPortals_L41 20000 n))) := by
  refine qs_eq (zf_X18_findPortals_L41.eq_2 ..) ?_
  unfold qf_X18_findPortals_L41_b
  refine qs_ite (c_lt ei3 k_0) ?_ ?_
  · exact qs_tr2 (show vu _ _ from trivial) hS hM
  · refine qs_zi hS pl_2156 ts_2156 ?_
    refine qs_b (qz_X18_portal hS hM ei1 ei2 ei3) (fun v3708 S3708 w3708 M3708 h3708 hS3708 hM3708 => ?_)
    refine qs_gr hS3708 pl_2156 ts_2156 rfl ?_
    refine qs_zi hS3708 pl_2157 ts_2157 ?_
    refine qs_bp (qz_X16_pieceOf hS3708 hM3708 ei1 ei4) (fun v3711 S3711 w3711 h3711 hS3711 hM3711 => ?_)
    exact qs_tk ⟨_, _, _, _, _, rfl, ei1, ei2, h3711, (p_add ei4 k_1), hS3711, hM3711⟩
theorem qz_X18_findPortals_L41 (n : Nat) : ∀ {P : Nat → Nat} {S : zm_S} {M : qm} {i1 : Int32} {qi1 : Int} {i2 : Int32} {qi2 : Int} {i3 : Int32} {qi3 : Int} {i4 : Int32} {qi4 : Int} (hS : Sh L xs P S) (hM : qM P S = M) (ei1 : i1.toInt = qi1) (ei2 : i2.toInt = qi2) (ei3 : i3.toInt = qi3) (ei4 : i4.toInt = qi4), qs (zf_X18_findPortals_L41 20000 n 2156 i1 i2 i3 i4 S) (qf_X18_findPortals_L41 20000 n qi1 qi2 qi3 qi4 M) (tO (vs (rr L xs P vu) (rr L xs P vu))) := by
  induction n with
  | zero =>
    intros
    exact qs_none
  | succ n ih =>
    intro P S M i1 qi1 i2 qi2 i3 qi3 i4 qi4 hS hM ei1 ei2 ei3 ei4
    unfold qf_X18_findPortals_L41
    refine qs_loop (C := (qc_X18_findPortals_L41 L xs P (zf_X18_findPortals_L41 20000 n))) (qz_X18_findPortals_L41_b n hS hM ei1 ei2 ei3 ei4) ?_
    rintro x s ⟨_, _, _, _, _, rfl, u0, u1, u2, u3, hS2, hM2⟩
    exact ih hS2 hM2 u0 u1 u2 u3
set_option maxRecDepth 20000 in
theorem qz_X18_findPortals_L15_b (n : Nat) {P : Nat → Nat} {S : zm_S} {M : qm} {i1 : Int32} {qi1 : Int} {i2 : Int32} {qi2 : Int} (hS : Sh L xs P S) (hM : qM P S = M) (ei1 : i1.toInt = qi1) (ei2 : i2.toInt = qi2) : qs (zf_X18_findPortals_L15 20000 (n + 1) 2156 i1 i2 S) (qf_X18_findPortals_L15_b 20000 qi1 qi2 M) (tk (vs (rr L xs P vu) (rr L xs P vu)) (qc_X18_findPortals_L15 L xs P (zf_X18_findPortals_L15 20000 n))) := by
  refine qs_eq (zf_X18_findPortals_L15.eq_2 ..) ?_
  unfold qf_X18_findPortals_L15_b
  refine qs_gr hS pl_2156 ts_2156 rfl ?_
  refine qs_gr hS pl_2157 ts_2157 rfl ?_
  refine qs_gd (fun g3715 => ?_)
  refine qs_xi hM (pa_p hS pl_2162 ts_2162) ei1 g3715 (fun v3714 h3714 => ?_)
  refine qs_ite (c_le h3714 ei2) ?_ ?_
  · exact qs_tr2 (show vu _ _ from trivial) hS hM
  · refine qs_gr hS pl_2156 ts_2156 rfl ?_
    refine qs_zi hS pl_2157 ts_2157 ?_
    refine qs_bp (qz_X16_pieceOf hS hM ei1 k_0) (fun v3718 S3718 w3718 h3718 hS3718 hM3718 => ?_)
    refine qs_lr (qz_X18_findPortals_L41 20000 hS3718 hM3718 ei1 ei2 h3718 k_1) ?_ ?_
    · intro v3720 S3720 w3720 M3720 h3720 hS3720 hM3720
      dsimp only
      exact qs_tr1 h3720 hS3720 hM3720
    · intro v3720 S3720 w3720 M3720 h3720 hS3720 hM3720
      dsimp only
      exact qs_tk ⟨_, _, _, rfl, ei1, (p_add ei2 k_1), hS3720, hM3720⟩
theorem qz_X18_findPortals_L15 (n : Nat) : ∀ {P : Nat → Nat} {S : zm_S} {M : qm} {i1 : Int32} {qi1 : Int} {i2 : Int32} {qi2 : Int} (hS : Sh L xs P S) (hM : qM P S = M) (ei1 : i1.toInt = qi1) (ei2 : i2.toInt = qi2), qs (zf_X18_findPortals_L15 20000 n 2156 i1 i2 S) (qf_X18_findPortals_L15 20000 n qi1 qi2 M) (tO (vs (rr L xs P vu) (rr L xs P vu))) := by
  induction n with
  | zero =>
    intros
    exact qs_none
  | succ n ih =>
    intro P S M i1 qi1 i2 qi2 hS hM ei1 ei2
    unfold qf_X18_findPortals_L15
    refine qs_loop (C := (qc_X18_findPortals_L15 L xs P (zf_X18_findPortals_L15 20000 n))) (qz_X18_findPortals_L15_b n hS hM ei1 ei2) ?_
    rintro x s ⟨_, _, _, rfl, u0, u1, hS2, hM2⟩
    exact ih hS2 hM2 u0 u1
set_option maxRecDepth 20000 in
theorem qz_X18_findPortals_L2_b (n : Nat) {P : Nat → Nat} {S : zm_S} {M : qm} {i1 : Int32} {qi1 : Int} (hS : Sh L xs P S) (hM : qM P S = M) (ei1 : i1.toInt = qi1) : qs (zf_X18_findPortals_L2 20000 (n + 1) 2156 i1 S) (qf_X18_findPortals_L2_b 20000 qi1 M) (tk (vs (rr L xs P vu) (rr L xs P vu)) (qc_X18_findPortals_L2 L xs P (zf_X18_findPortals_L2 20000 n))) := by
  refine qs_eq (zf_X18_findPortals_L2.eq_2 ..) ?_
  unfold qf_X18_findPortals_L2_b
  refine qs_gr hS pl_2156 ts_2156 rfl ?_
  refine qs_gi hS hM pl_2157 ts_2157 (z := 0) rfl rfl (fun v3722 h3722 => ?_)
  refine qs_ite (c_le h3722 ei1) ?_ ?_
  · exact qs_tr2 (show vu _ _ from trivial) hS hM
  · refine qs_lr (qz_X18_findPortals_L15 20000 hS hM ei1 k_0) ?_ ?_
    · intro v3724 S3724 w3724 M3724 h3724 hS3724 hM3724
      dsimp only
      exact qs_tr1 h3724 hS3724 hM3724
    · intro v3724 S3724 w3724 M3724 h3724 hS3724 hM3724
      dsimp only
      exact qs_tk ⟨_, _, rfl, (p_add ei1 k_1), hS3724, hM3724⟩
theorem qz_X18_findPortals_L2 (n : Nat) : ∀ {P : Nat → Nat} {S : zm_S} {M : qm} {i1 : Int32} {qi1 : Int} (hS : Sh L xs P S) (hM : qM P S = M) (ei1 : i1.toInt = qi1), qs (zf_X18_findPortals_L2 20000 n 2156 i1 S) (qf_X18_findPortals_L2 20000 n qi1 M) (tO (vs (rr L xs P vu) (rr L xs P vu))) := by
  induction n with
  | zero =>
    intros
    exact qs_none
  | succ n ih =>
    intro P S M i1 qi1 hS hM ei1
    unfold qf_X18_findPortals_L2
    refine qs_loop (C := (qc_X18_findPortals_L2 L xs P (zf_X18_findPortals_L2 20000 n))) (qz_X18_findPortals_L2_b n hS hM ei1) ?_
    rintro x s ⟨_, _, rfl, u0, hS2, hM2⟩
    exact ih hS2 hM2 u0
set_option maxRecDepth 20000 in
theorem qz_X18_findPortals {P : Nat → Nat} {S : zm_S} {M : qm}  (hS : Sh L xs P S) (hM : qM P S = M)  : qs (zf_X18_findPortals 20000 2156 S) (qf_X18_findPortals 20000 M) (tO (rr L xs P vu)) := by
  unfold zf_X18_findPortals qf_X18_findPortals
  refine qs_lr (qz_X18_findPortals_L2 20000 hS hM k_0) ?_ ?_
  · intro v3726 S3726 w3726 M3726 h3726 hS3726 hM3726
    dsimp only
    exact qs_tr h3726 hS3726 hM3726
  · intro v3726 S3726 w3726 M3726 h3726 hS3726 hM3726
    dsimp only
    exact qs_tr (show vu _ _ from trivial) hS3726 hM3726
set_option maxRecDepth 20000 in
theorem qz_X18_isOutside {P : Nat → Nat} {S : zm_S} {M : qm} {i1 : Int32} {qi1 : Int} {i2 : Int32} {qi2 : Int} (hS : Sh L xs P S) (hM : qM P S = M) (ei1 : i1.toInt = qi1) (ei2 : i2.toInt = qi2) : qs (zf_X18_isOutside 20000 2156 i1 i2 S) (qf_X18_isOutside 20000 qi1 qi2 M) (tO (rp L xs P M vi)) := by
  unfold zf_X18_isOutside qf_X18_isOutside
  refine qs_bp (qz_X18_isCell hS hM ei1 ei2) (fun v3727 S3727 w3727 h3727 hS3727 hM3727 => ?_)
  refine qs_ite (c_eq h3727 k_0) ?_ ?_
  · exact qs_tp (show vi _ _ from k_1) hS3727 hM3727
  · refine qs_gr hS3727 pl_2156 ts_2156 rfl ?_
    refine qs_gd (fun g3730 => ?_)
    refine qs_xi hM3727 (pa_p hS3727 pl_2329 ts_2329) (p_add (p_mul k_24 ei2) ei1) g3730 (fun v3729 h3729 => ?_)
    refine qs_ite (c_le k_0 h3729) ?_ ?_
    · exact qs_tp (show vi _ _ from k_0) hS3727 hM3727
    · exact qs_tp (show vi _ _ from k_1) hS3727 hM3727
set_option maxRecDepth 20000 in
theorem qz_X18_nextX {P : Nat → Nat} {S : zm_S} {M : qm} {i0 : Int32} {qi0 : Int} {i1 : Int32} {qi1 : Int} (hS : Sh L xs P S) (hM : qM P S = M) (ei0 : i0.toInt = qi0) (ei1 : i1.toInt = qi1) : qs (zf_X18_nextX 20000 i0 i1 S) (qf_X18_nextX 20000 qi0 qi1 M) (tO (rp L xs P M vi)) := by
  unfold zf_X18_nextX qf_X18_nextX
  refine qs_ite (c_eq ei1 k_0) ?_ ?_
  · exact qs_tp (show vi _ _ from (p_add ei0 k_1)) hS hM
  · refine qs_ite (c_eq ei1 k_1) ?_ ?_
    · exact qs_tp (show vi _ _ from (p_addm ei0 k_m1)) hS hM
    · exact qs_tp (show vi _ _ from (p_add ei0 k_0)) hS hM
set_option maxRecDepth 20000 in
theorem qz_X18_nextY {P : Nat → Nat} {S : zm_S} {M : qm} {i0 : Int32} {qi0 : Int} {i1 : Int32} {qi1 : Int} (hS : Sh L xs P S) (hM : qM P S = M) (ei0 : i0.toInt = qi0) (ei1 : i1.toInt = qi1) : qs (zf_X18_nextY 20000 i0 i1 S) (qf_X18_nextY 20000 qi0 qi1 M) (tO (rp L xs P M vi)) := by
  unfold zf_X18_nextY qf_X18_nextY
  refine qs_ite (c_eq ei1 k_2) ?_ ?_
  · exact qs_tp (show vi _ _ from (p_add ei0 k_1)) hS hM
  · refine qs_ite (c_eq ei1 k_3) ?_ ?_
    · exact qs_tp (show vi _ _ from (p_addm ei0 k_m1)) hS hM
    · exact qs_tp (show vi _ _ from (p_add ei0 k_0)) hS hM
set_option maxRecDepth 20000 in
theorem qz_X18_findWays_J77 {P : Nat → Nat} {S : zm_S} {M : qm} {i1 : Int32} {qi1 : Int} {i2 : Int32} {qi2 : Int} {i3 : Int32} {qi3 : Int} {t0 : Int32} {qt0 : Int} (hS : Sh L xs P S) (hM : qM P S = M) (ei1 : i1.toInt = qi1) (ei2 : i2.toInt = qi2) (ei3 : i3.toInt = qi3) (et0 : t0.toInt = qt0) {k : Nat → Int32 → Int32 → Int32 → zm_S → Option ((Unit × zm_S) ⊕ ((Unit) × zm_S))} : qs (zf_X18_findWays_J77 20000 k 2156 i1 i2 i3 t0 S) (qf_X18_findWays_J77 20000 qi1 qi2 qi3 qt0 M) (tk (vs (rr L xs P vu) (rr L xs P vu)) (qc_X18_findWays_L13 L xs P k)) := by
  unfold zf_X18_findWays_J77 qf_X18_findWays_J77
  refine qs_gr hS pl_2156 ts_2156 rfl ?_
  refine qs_ite (c_eq et0 k_0) ?_ ?_
  · refine qs_gr hS pl_2156 ts_2156 rfl ?_
    refine qs_gd (fun g3734 => ?_)
    refine qs_xi hM (pa_p hS pl_2328 ts_2328) ei2 g3734 (fun v3733 h3733 => ?_)
    refine qs_gd (fun g3736 => ?_)
    refine qs_si hS hM (pa_p hS pl_2328 ts_2328) ei2 g3736 h3733 (fun S3735 M3735 hS3735 hM3735 => ?_)
    exact qs_tk ⟨_, _, _, _, rfl, ei1, ei2, (p_add ei3 k_1), hS3735, hM3735⟩
  · refine qs_gd (fun g3738 => ?_)
    refine qs_si hS hM (pa_p hS pl_2328 ts_2328) ei2 g3738 k_1 (fun S3737 M3737 hS3737 hM3737 => ?_)
    exact qs_tk ⟨_, _, _, _, rfl, ei1, ei2, (p_add ei3 k_1), hS3737, hM3737⟩
set_option maxRecDepth 20000 in
theorem qz_X18_findWays_J76 {P : Nat → Nat} {S : zm_S} {M : qm} {i1 : Int32} {qi1 : Int} {i2 : Int32} {qi2 : Int} {i3 : Int32} {qi3 : Int} (hS : Sh L xs P S) (hM : qM P S = M) (ei1 : i1.toInt = qi1) (ei2 : i2.toInt = qi2) (ei3 : i3.toInt = qi3) {k : Nat → Int32 → Int32 → Int32 → zm_S → Option ((Unit × zm_S) ⊕ ((Unit) × zm_S))} : qs (zf_X18_findWays_J76 20000 k 2156 i1 i2 i3 S) (qf_X18_findWays_J76 20000 qi1 qi2 qi3 M) (tk (vs (rr L xs P vu) (rr L xs P vu)) (qc_X18_findWays_L13 L xs P k)) := by
  unfold zf_X18_findWays_J76 qf_X18_findWays_J76
  exact (qz_X18_findWays_J77 hS hM ei1 ei2 ei3 k_0)
set_option maxRecDepth 20000 in
theorem qz_X16_lineBetween_J164 {P : Nat → Nat} {S : zm_S} {M : qm} {i1 : Int32} {qi1 : Int} {i2 : Int32} {qi2 : Int} {i3 : Int32} {qi3 : Int} {i4 : Int32} {qi4 : Int} {i5 : Int32} {qi5 : Int} {t0 : Int32} {qt0 : Int} (hS : Sh L xs P S) (hM : qM P S = M) (ei1 : i1.toInt = qi1) (ei2 : i2.toInt = qi2) (ei3 : i3.toInt = qi3) (ei4 : i4.toInt = qi4) (ei5 : i5.toInt = qi5) (et0 : t0.toInt = qt0) {k : Nat → Int32 → Int32 → Int32 → Int32 → Int32 → zm_S → Option ((Int32 × zm_S) ⊕ ((Int32) × zm_S))} : qs (zf_X16_lineBetween_J164 20000 k 2157 i1 i2 i3 i4 i5 t0 S) (qf_X16_lineBetween_J164 20000 qi1 qi2 qi3 qi4 qi5 qt0 M) (tk (vs (rp L xs P M vi) (rp L xs P M vi)) (qc_X16_lineBetween_L6 L xs P M k)) := by
  unfold zf_X16_lineBetween_J164 qf_X16_lineBetween_J164
  refine qs_ite (c_eq et0 k_0) ?_ ?_
  · exact qs_tk ⟨_, _, _, _, _, _, rfl, ei1, ei2, ei3, ei4, (p_add ei5 k_1), hS, hM⟩
  · exact qs_tk ⟨_, _, _, _, _, _, rfl, ei1, ei2, ei3, ei5, (p_add ei5 k_1), hS, hM⟩
set_option maxRecDepth 20000 in
theorem qz_X16_lineBetween_J163 {P : Nat → Nat} {S : zm_S} {M : qm} {i1 : Int32} {qi1 : Int} {i2 : Int32} {qi2 : Int} {i3 : Int32} {qi3 : Int} {i4 : Int32} {qi4 : Int} {i5 : Int32} {qi5 : Int} (hS : Sh L xs P S) (hM : qM P S = M) (ei1 : i1.toInt = qi1) (ei2 : i2.toInt = qi2) (ei3 : i3.toInt = qi3) (ei4 : i4.toInt = qi4) (ei5 : i5.toInt = qi5) {k : Nat → Int32 → Int32 → Int32 → Int32 → Int32 → zm_S → Option ((Int32 × zm_S) ⊕ ((Int32) × zm_S))} : qs (zf_X16_lineBetween_J163 20000 k 2157 i1 i2 i3 i4 i5 S) (qf_X16_lineBetween_J163 20000 qi1 qi2 qi3 qi4 qi5 M) (tk (vs (rp L xs P M vi) (rp L xs P M vi)) (qc_X16_lineBetween_L6 L xs P M k)) := by
  unfold zf_X16_lineBetween_J163 qf_X16_lineBetween_J163
  exact (qz_X16_lineBetween_J164 hS hM ei1 ei2 ei3 ei4 ei5 k_0)
set_option maxRecDepth 20000 in
theorem qz_X16_lineBetween_J112 {P : Nat → Nat} {S : zm_S} {M : qm} {i1 : Int32} {qi1 : Int} {i2 : Int32} {qi2 : Int} {i3 : Int32} {qi3 : Int} {i4 : Int32} {qi4 : Int} {i5 : Int32} {qi5 : Int} (hS : Sh L xs P S) (hM : qM P S = M) (ei1 : i1.toInt = qi1) (ei2 : i2.toInt = qi2) (ei3 : i3.toInt = qi3) (ei4 : i4.toInt = qi4) (ei5 : i5.toInt = qi5) {k : Nat → Int32 → Int32 → Int32 → Int32 → Int32 → zm_S → Option ((Int32 × zm_S) ⊕ ((Int32) × zm_S))} : qs (zf_X16_lineBetween_J112 20000 k 2157 i1 i2 i3 i4 i5 S) (qf_X16_lineBetween_J112 20000 qi1 qi2 qi3 qi4 qi5 M) (tk (vs (rp L xs P M vi) (rp L xs P M vi)) (qc_X16_lineBetween_L6 L xs P M k)) := by
  unfold zf_X16_lineBetween_J112 qf_X16_lineBetween_J112
  exact (qz_X16_lineBetween_J164 hS hM ei1 ei2 ei3 ei4 ei5 k_0)
set_option maxRecDepth 20000 in
theorem qz_X16_lineBetween_J58 {P : Nat → Nat} {S : zm_S} {M : qm} {i1 : Int32} {qi1 : Int} {i2 : Int32} {qi2 : Int} {i3 : Int32} {qi3 : Int} {i4 : Int32} {qi4 : Int} {i5 : Int32} {qi5 : Int} {i6 : Int32} {qi6 : Int} {t0 : Int32} {qt0 : Int} (hS : Sh L xs P S) (hM : qM P S = M) (ei1 : i1.toInt = qi1) (ei2 : i2.toInt = qi2) (ei3 : i3.toInt = qi3) (ei4 : i4.toInt = qi4) (ei5 : i5.toInt = qi5) (ei6 : i6.toInt = qi6) (et0 : t0.toInt = qt0) {k : Nat → Int32 → Int32 → Int32 → Int32 → Int32 → zm_S → Option ((Int32 × zm_S) ⊕ ((Int32) × zm_S))} : qs (zf_X16_lineBetween_J58 20000 k 2157 i1 i2 i3 i4 i5 i6 t0 S) (qf_X16_lineBetween_J58 20000 qi1 qi2 qi3 qi4 qi5 qi6 qt0 M) (tk (vs (rp L xs P M vi) (rp L xs P M vi)) (qc_X16_lineBetween_L6 L xs P M k)) := by
  unfold zf_X16_lineBetween_J58 qf_X16_lineBetween_J58
  refine qs_ite (c_eq ei6 k_0) ?_ ?_
  · refine qs_gr hS pl_2157 ts_2157 rfl ?_
    refine qs_gd (fun g3741 => ?_)
    refine qs_xi hM (pa_p hS pl_2160 ts_2160) ei5 g3741 (fun v3740 h3740 => ?_)
    refine qs_ite (c_eq h3740 k_0) ?_ ?_
    · exact (qz_X16_lineBetween_J163 hS hM ei1 ei2 ei3 ei4 ei5)
    · refine qs_gr hS pl_2157 ts_2157 rfl ?_
      refine qs_gd (fun g3744 => ?_)
      refine qs_xi hM (pa_p hS pl_2159 ts_2159) ei5 g3744 (fun v3743 h3743 => ?_)
      refine qs_ite (c_eq h3743 et0) ?_ ?_
      · refine qs_gr hS pl_2157 ts_2157 rfl ?_
        refine qs_gd (fun g3747 => ?_)
        refine qs_xi hM (pa_p hS pl_2158 ts_2158) ei5 g3747 (fun v3746 h3746 => ?_)
        refine qs_ite (c_lt ei1 h3746) ?_ ?_
        · exact (qz_X16_lineBetween_J163 hS hM ei1 ei2 ei3 ei4 ei5)
        · refine qs_zi hS pl_2157 ts_2157 ?_
          refine qs_bp (qz_X16_highX hS hM ei5) (fun v3749 S3749 w3749 h3749 hS3749 hM3749 => ?_)
          refine qs_ite (c_le h3749 ei1) ?_ ?_
          · exact (qz_X16_lineBetween_J163 hS3749 hM3749 ei1 ei2 ei3 ei4 ei5)
          · exact (qz_X16_lineBetween_J164 hS3749 hM3749 ei1 ei2 ei3 ei4 ei5 k_1)
      · exact (qz_X16_lineBetween_J163 hS hM ei1 ei2 ei3 ei4 ei5)
  · refine qs_gr hS pl_2157 ts_2157 rfl ?_
    refine qs_gd (fun g3752 => ?_)
    refine qs_xi hM (pa_p hS pl_2160 ts_2160) ei5 g3752 (fun v3751 h3751 => ?_)
    refine qs_ite (c_eq h3751 k_0) ?_ ?_
    · refine qs_gr hS pl_2157 ts_2157 rfl ?_
      refine qs_gd (fun g3755 => ?_)
      refine qs_xi hM (pa_p hS pl_2158 ts_2158) ei5 g3755 (fun v3754 h3754 => ?_)
      refine qs_ite (c_eq h3754 et0) ?_ ?_
      · refine qs_gr hS pl_2157 ts_2157 rfl ?_
        refine qs_gd (fun g3758 => ?_)
        refine qs_xi hM (pa_p hS pl_2159 ts_2159) ei5 g3758 (fun v3757 h3757 => ?_)
        refine qs_ite (c_lt ei2 h3757) ?_ ?_
        · exact (qz_X16_lineBetween_J112 hS hM ei1 ei2 ei3 ei4 ei5)
        · refine qs_zi hS pl_2157 ts_2157 ?_
          refine qs_bp (qz_X16_highY hS hM ei5) (fun v3760 S3760 w3760 h3760 hS3760 hM3760 => ?_)
          refine qs_ite (c_le h3760 ei2) ?_ ?_
          · exact (qz_X16_lineBetween_J112 hS3760 hM3760 ei1 ei2 ei3 ei4 ei5)
          · exact (qz_X16_lineBetween_J164 hS3760 hM3760 ei1 ei2 ei3 ei4 ei5 k_1)
      · exact (qz_X16_lineBetween_J112 hS hM ei1 ei2 ei3 ei4 ei5)
    · exact (qz_X16_lineBetween_J112 hS hM ei1 ei2 ei3 ei4 ei5)
set_option maxRecDepth 20000 in
theorem qz_X16_lineBetween_J25 {P : Nat → Nat} {S : zm_S} {M : qm} {i1 : Int32} {qi1 : Int} {i2 : Int32} {qi2 : Int} {i3 : Int32} {qi3 : Int} {i4 : Int32} {qi4 : Int} {i5 : Int32} {qi5 : Int} {t0 : Int32} {qt0 : Int} (hS : Sh L xs P S) (hM : qM P S = M) (ei1 : i1.toInt = qi1) (ei2 : i2.toInt = qi2) (ei3 : i3.toInt = qi3) (ei4 : i4.toInt = qi4) (ei5 : i5.toInt = qi5) (et0 : t0.toInt = qt0) {k : Nat → Int32 → Int32 → Int32 → Int32 → Int32 → zm_S → Option ((Int32 × zm_S) ⊕ ((Int32) × zm_S))} : qs (zf_X16_lineBetween_J25 20000 k 2157 i1 i2 i3 i4 i5 t0 S) (qf_X16_lineBetween_J25 20000 qi1 qi2 qi3 qi4 qi5 qt0 M) (tk (vs (rp L xs P M vi) (rp L xs P M vi)) (qc_X16_lineBetween_L6 L xs P M k)) := by
  unfold zf_X16_lineBetween_J25 qf_X16_lineBetween_J25
  refine qs_ite (c_eq ei3 k_0) ?_ ?_
  · exact (qz_X16_lineBetween_J58 hS hM ei1 ei2 ei3 ei4 ei5 et0 (p_add ei1 k_1))
  · refine qs_ite (c_eq ei3 k_1) ?_ ?_
    · exact (qz_X16_lineBetween_J58 hS hM ei1 ei2 ei3 ei4 ei5 et0 ei1)
    · refine qs_ite (c_eq ei3 k_2) ?_ ?_
      · exact (qz_X16_lineBetween_J58 hS hM ei1 ei2 ei3 ei4 ei5 et0 (p_add ei2 k_1))
      · exact (qz_X16_lineBetween_J58 hS hM ei1 ei2 ei3 ei4 ei5 et0 ei2)
set_option maxRecDepth 20000 in
theorem qz_X16_lineBetween_L6_b (n : Nat) {P : Nat → Nat} {S : zm_S} {M : qm} {i1 : Int32} {qi1 : Int} {i2 : Int32} {qi2 : Int} {i3 : Int32} {qi3 : Int} {i4 : Int32} {qi4 : Int} {i5 : Int32} {qi5 : Int} (hS : Sh L xs P S) (hM : qM P S = M) (ei1 : i1.toInt = qi1) (ei2 : i2.toInt = qi2) (ei3 : i3.toInt = qi3) (ei4 : i4.toInt = qi4) (ei5 : i5.toInt = qi5) : qs (zf_X16_lineBetween_L6 20000 (n + 1) 2157 i1 i2 i3 i4 i5 S) (qf_X16_lineBetween_L6_b 20000 qi1 qi2 qi3 qi4 qi5 M) (tk (vs (rp L xs P M vi) (rp L xs P M vi)) (qc_X16_lineBetween_L6 L xs P M (zf_X16_lineBetween_L6 20000 n))) := by
  refine qs_eq (zf_X16_lineBetween_L6.eq_2 ..) ?_
  unfold qf_X16_lineBetween_L6_b
  refine qs_gi hS hM pl_2157 ts_2157 (z := 0) rfl rfl (fun v3761 h3761 => ?_)
  refine qs_ite (c_le h3761 ei5) ?_ ?_
  · exact qs_tp2 (show vi _ _ from ei4) hS hM
  · refine qs_ite (c_le k_2 ei3) ?_ ?_
    · exact (qz_X16_lineBetween_J25 hS hM ei1 ei2 ei3 ei4 ei5 k_0)
    · exact (qz_X16_lineBetween_J25 hS hM ei1 ei2 ei3 ei4 ei5 k_1)
theorem qz_X16_lineBetween_L6 (n : Nat) : ∀ {P : Nat → Nat} {S : zm_S} {M : qm} {i1 : Int32} {qi1 : Int} {i2 : Int32} {qi2 : Int} {i3 : Int32} {qi3 : Int} {i4 : Int32} {qi4 : Int} {i5 : Int32} {qi5 : Int} (hS : Sh L xs P S) (hM : qM P S = M) (ei1 : i1.toInt = qi1) (ei2 : i2.toInt = qi2) (ei3 : i3.toInt = qi3) (ei4 : i4.toInt = qi4) (ei5 : i5.toInt = qi5), qs (zf_X16_lineBetween_L6 20000 n 2157 i1 i2 i3 i4 i5 S) (qf_X16_lineBetween_L6 20000 n qi1 qi2 qi3 qi4 qi5 M) (tO (vs (rp L xs P M vi) (rp L xs P M vi))) := by
  induction n with
  | zero =>
    intros
    exact qs_none
  | succ n ih =>
    intro P S M i1 qi1 i2 qi2 i3 qi3 i4 qi4 i5 qi5 hS hM ei1 ei2 ei3 ei4 ei5
    unfold qf_X16_lineBetween_L6
    refine qs_loop (C := (qc_X16_lineBetween_L6 L xs P M (zf_X16_lineBetween_L6 20000 n))) (qz_X16_lineBetween_L6_b n hS hM ei1 ei2 ei3 ei4 ei5) ?_
    rintro x s ⟨_, _, _, _, _, _, rfl, u0, u1, u2, u3, u4, hS2, hM2⟩
    exact ih hS2 hM2 u0 u1 u2 u3 u4
set_option maxRecDepth 20000 in
theorem qz_X16_lineBetween {P : Nat → Nat} {S : zm_S} {M : qm} {i1 : Int32} {qi1 : Int} {i2 : Int32} {qi2 : Int} {i3 : Int32} {qi3 : Int} (hS : Sh L xs P S) (hM : qM P S = M) (ei1 : i1.toInt = qi1) (ei2 : i2.toInt = qi2) (ei3 : i3.toInt = qi3) : qs (zf_X16_lineBetween 20000 2157 i1 i2 i3 S) (qf_X16_lineBetween 20000 qi1 qi2 qi3 M) (tO (rp L xs P M vi)) := by
  unfold zf_X16_lineBetween qf_X16_lineBetween
  refine qs_lp (qz_X16_lineBetween_L6 20000 hS hM ei1 ei2 ei3 k_m1 k_0) ?_ ?_
  · intro v3763 S3763 w3763 h3763 hS3763 hM3763
    dsimp only
    exact qs_tp h3763 hS3763 hM3763
  · intro v3763 S3763 w3763 h3763 hS3763 hM3763
    dsimp only
    exact qs_tp (show vi _ _ from h3763) hS3763 hM3763
set_option maxRecDepth 20000 in
theorem qz_X16_isThere_J29 {P : Nat → Nat} {S : zm_S} {M : qm} {i1 : Int32} {qi1 : Int} {i2 : Int32} {qi2 : Int} {t0 : Int32} {qt0 : Int} (hS : Sh L xs P S) (hM : qM P S = M) (ei1 : i1.toInt = qi1) (ei2 : i2.toInt = qi2) (et0 : t0.toInt = qt0) : qs (zf_X16_isThere_J29 20000 2157 i1 i2 t0 S) (qf_X16_isThere_J29 20000 qi1 qi2 qt0 M) (tO (rp L xs P M vi)) := by
  unfold zf_X16_isThere_J29 qf_X16_isThere_J29
  refine qs_gr hS pl_2157 ts_2157 rfl ?_
  refine qs_gd (fun g3766 => ?_)
  refine qs_xi hM (pa_p hS pl_2163 ts_2163) (p_add (p_mul k_6 ei1) ei2) g3766 (fun v3765 h3765 => ?_)
  refine qs_ite (c_lt et0 h3765) ?_ ?_
  · exact qs_tp (show vi _ _ from k_0) hS hM
  · refine qs_gr hS pl_2157 ts_2157 rfl ?_
    refine qs_gd (fun g3769 => ?_)
    refine qs_xi hM (pa_p hS pl_2164 ts_2164) (p_add (p_mul k_6 ei1) ei2) g3769 (fun v3768 h3768 => ?_)
    refine qs_ite (c_le h3768 et0) ?_ ?_
    · exact qs_tp (show vi _ _ from k_0) hS hM
    · exact qs_tp (show vi _ _ from k_1) hS hM
set_option maxRecDepth 20000 in
theorem qz_X16_isThere {P : Nat → Nat} {S : zm_S} {M : qm} {i1 : Int32} {qi1 : Int} {i2 : Int32} {qi2 : Int} {i3 : Int32} {qi3 : Int} {i4 : Int32} {qi4 : Int} (hS : Sh L xs P S) (hM : qM P S = M) (ei1 : i1.toInt = qi1) (ei2 : i2.toInt = qi2) (ei3 : i3.toInt = qi3) (ei4 : i4.toInt = qi4) : qs (zf_X16_isThere 20000 2157 i1 i2 i3 i4 S) (qf_X16_isThere 20000 qi1 qi2 qi3 qi4 M) (tO (rp L xs P M vi)) := by
  unfold zf_X16_isThere qf_X16_isThere
  refine qs_gr hS pl_2157 ts_2157 rfl ?_
  refine qs_gd (fun g3772 => ?_)
  refine qs_xi hM (pa_p hS pl_2160 ts_2160) ei1 g3772 (fun v3771 h3771 => ?_)
  refine qs_ite (c_eq h3771 k_0) ?_ ?_
  · refine qs_gr hS pl_2157 ts_2157 rfl ?_
    refine qs_gd (fun g3775 => ?_)
    refine qs_xi hM (pa_p hS pl_2159 ts_2159) ei1 g3775 (fun v3774 h3774 => ?_)
    exact (qz_X16_isThere_J29 hS hM ei1 ei2 (p_sub ei4 h3774))
  · refine qs_gr hS pl_2157 ts_2157 rfl ?_
    refine qs_gd (fun g3778 => ?_)
    refine qs_xi hM (pa_p hS pl_2158 ts_2158) ei1 g3778 (fun v3777 h3777 => ?_)
    exact (qz_X16_isThere_J29 hS hM ei1 ei2 (p_sub ei3 h3777))
set_option maxRecDepth 20000 in
theorem qz_X18_passes_J68 {P : Nat → Nat} {S : zm_S} {M : qm} {i1 : Int32} {qi1 : Int} {i2 : Int32} {qi2 : Int} {i4 : Int32} {qi4 : Int} {i6 : Int32} {qi6 : Int} (hS : Sh L xs P S) (hM : qM P S = M) (ei1 : i1.toInt = qi1) (ei2 : i2.toInt = qi2) (ei4 : i4.toInt = qi4) (ei6 : i6.toInt = qi6) {k : Nat → Int32 → Int32 → Int32 → Int32 → Int32 → zm_S → Option ((Int32 × zm_S) ⊕ ((Int32) × zm_S))} : qs (zf_X18_passes_J68 20000 k 2156 i1 i2 i4 i6 S) (qf_X18_passes_J68 20000 qi1 qi2 qi4 qi6 M) (tk (vs (rp L xs P M vi) (rp L xs P M vi)) (qc_X18_passes_L27 L xs P M k)) := by
  unfold zf_X18_passes_J68 qf_X18_passes_J68
  exact qs_tk ⟨_, _, _, _, _, _, rfl, ei1, ei2, ei4, k_1, (p_add ei6 k_1), hS, hM⟩
set_option maxRecDepth 20000 in
theorem qz_X18_passes_L27_b (n : Nat) {P : Nat → Nat} {S : zm_S} {M : qm} {i1 : Int32} {qi1 : Int} {i2 : Int32} {qi2 : Int} {i4 : Int32} {qi4 : Int} {i5 : Int32} {qi5 : Int} {i6 : Int32} {qi6 : Int} (hS : Sh L xs P S) (hM : qM P S = M) (ei1 : i1.toInt = qi1) (ei2 : i2.toInt = qi2) (ei4 : i4.toInt = qi4) (ei5 : i5.toInt = qi5) (ei6 : i6.toInt = qi6) : qs (zf_X18_passes_L27 20000 (n + 1) 2156 i1 i2 i4 i5 i6 S) (qf_X18_passes_L27_b 20000 qi1 qi2 qi4 qi5 qi6 M) (tk (vs (rp L xs P M vi) (rp L xs P M vi)) (qc_X18_passes_L27 L xs P M (zf_X18_passes_L27 20000 n))) := by
  refine qs_eq (zf_X18_passes_L27.eq_2 ..) ?_
  unfold qf_X18_passes_L27_b
  refine qs_ite (c_lt ei4 k_0) ?_ ?_
  · exact qs_tp2 (show vi _ _ from ei5) hS hM
  · refine qs_gr hS pl_2156 ts_2156 rfl ?_
    refine qs_gr hS pl_2157 ts_2157 rfl ?_
    refine qs_gd (fun g3782 => ?_)
    refine qs_xi hM (pa_p hS pl_2162 ts_2162) ei4 g3782 (fun v3781 h3781 => ?_)
    refine qs_ite (c_le h3781 ei6) ?_ ?_
    · exact qs_tp2 (show vi _ _ from ei5) hS hM
    · refine qs_ite (c_eq ei5 k_0) ?_ ?_
      · refine qs_gr hS pl_2156 ts_2156 rfl ?_
        refine qs_zi hS pl_2157 ts_2157 ?_
        refine qs_bp (qz_X16_isThere hS hM ei4 ei6 ei1 ei2) (fun v3785 S3785 w3785 h3785 hS3785 hM3785 => ?_)
        refine qs_ite (c_eq h3785 k_0) ?_ ?_
        · exact qs_tk ⟨_, _, _, _, _, _, rfl, ei1, ei2, ei4, k_0, (p_add ei6 k_1), hS3785, hM3785⟩
        · exact (qz_X18_passes_J68 hS3785 hM3785 ei1 ei2 ei4 ei6)
      · exact (qz_X18_passes_J68 hS hM ei1 ei2 ei4 ei6)
theorem qz_X18_passes_L27 (n : Nat) : ∀ {P : Nat → Nat} {S : zm_S} {M : qm} {i1 : Int32} {qi1 : Int} {i2 : Int32} {qi2 : Int} {i4 : Int32} {qi4 : Int} {i5 : Int32} {qi5 : Int} {i6 : Int32} {qi6 : Int} (hS : Sh L xs P S) (hM : qM P S = M) (ei1 : i1.toInt = qi1) (ei2 : i2.toInt = qi2) (ei4 : i4.toInt = qi4) (ei5 : i5.toInt = qi5) (ei6 : i6.toInt = qi6), qs (zf_X18_passes_L27 20000 n 2156 i1 i2 i4 i5 i6 S) (qf_X18_passes_L27 20000 n qi1 qi2 qi4 qi5 qi6 M) (tO (vs (rp L xs P M vi) (rp L xs P M vi))) := by
  induction n with
  | zero =>
    intros
    exact qs_none
  | succ n ih =>
    intro P S M i1 qi1 i2 qi2 i4 qi4 i5 qi5 i6 qi6 hS hM ei1 ei2 ei4 ei5 ei6
    unfold qf_X18_passes_L27
    refine qs_loop (C := (qc_X18_passes_L27 L xs P M (zf_X18_passes_L27 20000 n))) (qz_X18_passes_L27_b n hS hM ei1 ei2 ei4 ei5 ei6) ?_
    rintro x s ⟨_, _, _, _, _, _, rfl, u0, u1, u2, u3, u4, hS2, hM2⟩
    exact ih hS2 hM2 u0 u1 u2 u3 u4
set_option maxRecDepth 20000 in
theorem qz_X18_passes_J22 {P : Nat → Nat} {S : zm_S} {M : qm} {i1 : Int32} {qi1 : Int} {i2 : Int32} {qi2 : Int} {i4 : Int32} {qi4 : Int} {t0 : Int32} {qt0 : Int} (hS : Sh L xs P S) (hM : qM P S = M) (ei1 : i1.toInt = qi1) (ei2 : i2.toInt = qi2) (ei4 : i4.toInt = qi4) (et0 : t0.toInt = qt0) : qs (zf_X18_passes_J22 20000 2156 i1 i2 i4 t0 S) (qf_X18_passes_J22 20000 qi1 qi2 qi4 qt0 M) (tO (rp L xs P M vi)) := by
  unfold zf_X18_passes_J22 qf_X18_passes_J22
  refine qs_lp (qz_X18_passes_L27 20000 hS hM ei1 ei2 ei4 et0 k_0) ?_ ?_
  · intro v3787 S3787 w3787 h3787 hS3787 hM3787
    dsimp only
    exact qs_tp h3787 hS3787 hM3787
  · intro v3787 S3787 w3787 h3787 hS3787 hM3787
    dsimp only
    refine qs_ite (or_congr (c_eq h3787 k_0) (c_eq h3787 k_1)) ?_ ?_
    · exact qs_tp (show vi _ _ from h3787) hS3787 hM3787
    · exact qs_none
set_option maxRecDepth 20000 in
theorem qz_X18_passes {P : Nat → Nat} {S : zm_S} {M : qm} {i1 : Int32} {qi1 : Int} {i2 : Int32} {qi2 : Int} {i3 : Int32} {qi3 : Int} (hS : Sh L xs P S) (hM : qM P S = M) (ei1 : i1.toInt = qi1) (ei2 : i2.toInt = qi2) (ei3 : i3.toInt = qi3) : qs (zf_X18_passes 20000 2156 i1 i2 i3 S) (qf_X18_passes 20000 qi1 qi2 qi3 M) (tO (rp L xs P M vi)) := by
  unfold zf_X18_passes qf_X18_passes
  refine qs_gr hS pl_2156 ts_2156 rfl ?_
  refine qs_zi hS pl_2157 ts_2157 ?_
  refine qs_bp (qz_X16_lineBetween hS hM ei1 ei2 ei3) (fun v3790 S3790 w3790 h3790 hS3790 hM3790 => ?_)
  refine qs_ite (c_le k_0 h3790) ?_ ?_
  · exact (qz_X18_passes_J22 hS3790 hM3790 ei1 ei2 h3790 k_0)
  · exact (qz_X18_passes_J22 hS3790 hM3790 ei1 ei2 h3790 k_1)
set_option maxRecDepth 20000 in
theorem qz_X18_findWays_L13_b (n : Nat) {P : Nat → Nat} {S : zm_S} {M : qm} {i1 : Int32} {qi1 : Int} {i2 : Int32} {qi2 : Int} {i3 : Int32} {qi3 : Int} (hS : Sh L xs P S) (hM : qM P S = M) (ei1 : i1.toInt = qi1) (ei2 : i2.toInt = qi2) (ei3 : i3.toInt = qi3) : qs (zf_X18_findWays_L13 20000 (n + 1) 2156 i1 i2 i3 S) (qf_X18_findWays_L13_b 20000 qi1 qi2 qi3 M) (tk (vs (rr L xs P vu) (rr L xs P vu)) (qc_X18_findWays_L13 L xs P (zf_X18_findWays_L13 20000 n))) := by
  refine qs_eq (zf_X18_findWays_L13.eq_2 ..) ?_
  unfold qf_X18_findWays_L13_b
  refine qs_ite (c_le k_4 ei3) ?_ ?_
  · exact qs_tr2 (show vu _ _ from trivial) hS hM
  · refine qs_zi hS pl_2156 ts_2156 ?_
    refine qs_bp (qz_X18_isOutside hS hM (p_mod ei2 k_24) (p_div ei2 k_24 (by decide))) (fun v3792 S3792 w3792 h3792 hS3792 hM3792 => ?_)
    refine qs_ite (c_eq h3792 k_0) ?_ ?_
    · refine qs_bp (qz_X18_nextX hS3792 hM3792 (p_mod ei2 k_24) ei3) (fun v3793 S3793 w3793 h3793 hS3793 hM3793 => ?_)
      refine qs_bp (qz_X18_nextY hS3793 hM3793 (p_div ei2 k_24 (by decide)) ei3) (fun v3794 S3794 w3794 h3794 hS3794 hM3794 => ?_)
      refine qs_zi hS3794 pl_2156 ts_2156 ?_
      refine qs_bp (qz_X18_isOutside hS3794 hM3794 h3793 h3794) (fun v3796 S3796 w3796 h3796 hS3796 hM3796 => ?_)
      refine qs_ite (c_eq h3796 k_0) ?_ ?_
      · exact (qz_X18_findWays_J76 hS3796 hM3796 ei1 ei2 ei3)
      · refine qs_zi hS3796 pl_2156 ts_2156 ?_
        refine qs_bp (qz_X18_passes hS3796 hM3796 (p_mod ei2 k_24) (p_div ei2 k_24 (by decide)) ei3) (fun v3798 S3798 w3798 h3798 hS3798 hM3798 => ?_)
        refine qs_ite (c_eq h3798 k_0) ?_ ?_
        · exact (qz_X18_findWays_J76 hS3798 hM3798 ei1 ei2 ei3)
        · exact (qz_X18_findWays_J77 hS3798 hM3798 ei1 ei2 ei3 k_1)
    · exact qs_tr2 (show vu _ _ from trivial) hS3792 hM3792
theorem qz_X18_findWays_L13 (n : Nat) : ∀ {P : Nat → Nat} {S : zm_S} {M : qm} {i1 : Int32} {qi1 : Int} {i2 : Int32} {qi2 : Int} {i3 : Int32} {qi3 : Int} (hS : Sh L xs P S) (hM : qM P S = M) (ei1 : i1.toInt = qi1) (ei2 : i2.toInt = qi2) (ei3 : i3.toInt = qi3), qs (zf_X18_findWays_L13 20000 n 2156 i1 i2 i3 S) (qf_X18_findWays_L13 20000 n qi1 qi2 qi3 M) (tO (vs (rr L xs P vu) (rr L xs P vu))) := by
  induction n with
  | zero =>
    intros
    exact qs_none
  | succ n ih =>
    intro P S M i1 qi1 i2 qi2 i3 qi3 hS hM ei1 ei2 ei3
    unfold qf_X18_findWays_L13
    refine qs_loop (C := (qc_X18_findWays_L13 L xs P (zf_X18_findWays_L13 20000 n))) (qz_X18_findWays_L13_b n hS hM ei1 ei2 ei3) ?_
    rintro x s ⟨_, _, _, _, rfl, u0, u1, u2, hS2, hM2⟩
    exact ih hS2 hM2 u0 u1 u2
set_option maxRecDepth 20000 in
theorem qz_X18_findWays_L4_b (n : Nat) {P : Nat → Nat} {S : zm_S} {M : qm} {i1 : Int32} {qi1 : Int} {i2 : Int32} {qi2 : Int} (hS : Sh L xs P S) (hM : qM P S = M) (ei1 : i1.toInt = qi1) (ei2 : i2.toInt = qi2) : qs (zf_X18_findWays_L4 20000 (n + 1) 2156 i1 i2 S) (qf_X18_findWays_L4_b 20000 qi1 qi2 M) (tk (vs (rr L xs P vu) (rr L xs P vu)) (qc_X18_findWays_L4 L xs P (zf_X18_findWays_L4 20000 n))) := by
  refine qs_eq (zf_X18_findWays_L4.eq_2 ..) ?_
  unfold qf_X18_findWays_L4_b
  refine qs_ite (c_le k_576 ei2) ?_ ?_
  · exact qs_tr2 (show vu _ _ from trivial) hS hM
  · refine qs_lr (qz_X18_findWays_L13 20000 hS hM ei1 ei2 k_0) ?_ ?_
    · intro v3800 S3800 w3800 M3800 h3800 hS3800 hM3800
      dsimp only
      exact qs_tr1 h3800 hS3800 hM3800
    · intro v3800 S3800 w3800 M3800 h3800 hS3800 hM3800
      dsimp only
      exact qs_tk ⟨_, _, _, rfl, ei1, (p_add ei2 k_1), hS3800, hM3800⟩
theorem qz_X18_findWays_L4 (n : Nat) : ∀ {P : Nat → Nat} {S : zm_S} {M : qm} {i1 : Int32} {qi1 : Int} {i2 : Int32} {qi2 : Int} (hS : Sh L xs P S) (hM : qM P S = M) (ei1 : i1.toInt = qi1) (ei2 : i2.toInt = qi2), qs (zf_X18_findWays_L4 20000 n 2156 i1 i2 S) (qf_X18_findWays_L4 20000 n qi1 qi2 M) (tO (vs (rr L xs P vu) (rr L xs P vu))) := by
  induction n with
  | zero =>
    intros
    exact qs_none
  | succ n ih =>
    intro P S M i1 qi1 i2 qi2 hS hM ei1 ei2
    unfold qf_X18_findWays_L4
    refine qs_loop (C := (qc_X18_findWays_L4 L xs P (zf_X18_findWays_L4 20000 n))) (qz_X18_findWays_L4_b n hS hM ei1 ei2) ?_
    rintro x s ⟨_, _, _, rfl, u0, u1, hS2, hM2⟩
    exact ih hS2 hM2 u0 u1
set_option maxRecDepth 20000 in
theorem qz_X18_findWays_J242 {P : Nat → Nat} {S : zm_S} {M : qm} {i2 : Int32} {qi2 : Int} {i3 : Int32} {qi3 : Int} {i6 : Int32} {qi6 : Int} (hS : Sh L xs P S) (hM : qM P S = M) (ei2 : i2.toInt = qi2) (ei3 : i3.toInt = qi3) (ei6 : i6.toInt = qi6) {k : Nat → Int32 → Int32 → Int32 → zm_S → Option ((Unit × zm_S) ⊕ ((Int32) × zm_S))} : qs (zf_X18_findWays_J242 20000 k 2156 i2 i3 i6 S) (qf_X18_findWays_J242 20000 qi2 qi3 qi6 M) (tk (vs (rr L xs P vu) (rr L xs P vi)) (qc_X18_findWays_L129 L xs P k)) := by
  unfold zf_X18_findWays_J242 qf_X18_findWays_J242
  refine qs_gr hS pl_2156 ts_2156 rfl ?_
  refine qs_gd (fun g3803 => ?_)
  refine qs_si hS hM (pa_p hS pl_2328 ts_2328) ei2 g3803 (p_add ei6 k_1) (fun S3802 M3802 hS3802 hM3802 => ?_)
  exact qs_tk ⟨_, _, _, _, rfl, k_1, ei2, (p_add ei3 k_1), hS3802, hM3802⟩
set_option maxRecDepth 20000 in
theorem qz_X18_findWays_J213 {P : Nat → Nat} {S : zm_S} {M : qm} {i1 : Int32} {qi1 : Int} {i2 : Int32} {qi2 : Int} {i3 : Int32} {qi3 : Int} {t0 : Int32} {qt0 : Int} (hS : Sh L xs P S) (hM : qM P S = M) (ei1 : i1.toInt = qi1) (ei2 : i2.toInt = qi2) (ei3 : i3.toInt = qi3) (et0 : t0.toInt = qt0) {k : Nat → Int32 → Int32 → Int32 → zm_S → Option ((Unit × zm_S) ⊕ ((Int32) × zm_S))} : qs (zf_X18_findWays_J213 20000 k 2156 i1 i2 i3 t0 S) (qf_X18_findWays_J213 20000 qi1 qi2 qi3 qt0 M) (tk (vs (rr L xs P vu) (rr L xs P vi)) (qc_X18_findWays_L129 L xs P k)) := by
  unfold zf_X18_findWays_J213 qf_X18_findWays_J213
  refine qs_ite (c_le et0 k_0) ?_ ?_
  · exact qs_tk ⟨_, _, _, _, rfl, ei1, ei2, (p_add ei3 k_1), hS, hM⟩
  · refine qs_gr hS pl_2156 ts_2156 rfl ?_
    refine qs_gd (fun g3806 => ?_)
    refine qs_xi hM (pa_p hS pl_2328 ts_2328) ei2 g3806 (fun v3805 h3805 => ?_)
    refine qs_ite (c_eq h3805 k_0) ?_ ?_
    · exact (qz_X18_findWays_J242 hS hM ei2 ei3 et0)
    · refine qs_gr hS pl_2156 ts_2156 rfl ?_
      refine qs_gd (fun g3809 => ?_)
      refine qs_xi hM (pa_p hS pl_2328 ts_2328) ei2 g3809 (fun v3808 h3808 => ?_)
      refine qs_ite (c_le h3808 (p_add et0 k_1)) ?_ ?_
      · exact qs_tk ⟨_, _, _, _, rfl, ei1, ei2, (p_add ei3 k_1), hS, hM⟩
      · exact (qz_X18_findWays_J242 hS hM ei2 ei3 et0)
set_option maxRecDepth 20000 in
theorem qz_X18_findWays_J196 {P : Nat → Nat} {S : zm_S} {M : qm} {i1 : Int32} {qi1 : Int} {i2 : Int32} {qi2 : Int} {i3 : Int32} {qi3 : Int} (hS : Sh L xs P S) (hM : qM P S = M) (ei1 : i1.toInt = qi1) (ei2 : i2.toInt = qi2) (ei3 : i3.toInt = qi3) {k : Nat → Int32 → Int32 → Int32 → zm_S → Option ((Unit × zm_S) ⊕ ((Int32) × zm_S))} : qs (zf_X18_findWays_J196 20000 k 2156 i1 i2 i3 S) (qf_X18_findWays_J196 20000 qi1 qi2 qi3 M) (tk (vs (rr L xs P vu) (rr L xs P vi)) (qc_X18_findWays_L129 L xs P k)) := by
  unfold zf_X18_findWays_J196 qf_X18_findWays_J196
  exact (qz_X18_findWays_J213 hS hM ei1 ei2 ei3 k_0)
set_option maxRecDepth 20000 in
theorem qz_X18_findWays_L129_b (n : Nat) {P : Nat → Nat} {S : zm_S} {M : qm} {i1 : Int32} {qi1 : Int} {i2 : Int32} {qi2 : Int} {i3 : Int32} {qi3 : Int} (hS : Sh L xs P S) (hM : qM P S = M) (ei1 : i1.toInt = qi1) (ei2 : i2.toInt = qi2) (ei3 : i3.toInt = qi3) : qs (zf_X18_findWays_L129 20000 (n + 1) 2156 i1 i2 i3 S) (qf_X18_findWays_L129_b 20000 qi1 qi2 qi3 M) (tk (vs (rr L xs P vu) (rr L xs P vi)) (qc_X18_findWays_L129 L xs P (zf_X18_findWays_L129 20000 n))) := by
  refine qs_eq (zf_X18_findWays_L129.eq_2 ..) ?_
  unfold qf_X18_findWays_L129_b
  refine qs_ite (c_le k_4 ei3) ?_ ?_
  · exact qs_tr2 (show vi _ _ from ei1) hS hM
  · refine qs_zi hS pl_2156 ts_2156 ?_
    refine qs_bp (qz_X18_isOutside hS hM (p_mod ei2 k_24) (p_div ei2 k_24 (by decide))) (fun v3811 S3811 w3811 h3811 hS3811 hM3811 => ?_)
    refine qs_ite (c_eq h3811 k_0) ?_ ?_
    · refine qs_bp (qz_X18_nextX hS3811 hM3811 (p_mod ei2 k_24) ei3) (fun v3812 S3812 w3812 h3812 hS3812 hM3812 => ?_)
      refine qs_bp (qz_X18_nextY hS3812 hM3812 (p_div ei2 k_24 (by decide)) ei3) (fun v3813 S3813 w3813 h3813 hS3813 hM3813 => ?_)
      refine qs_zi hS3813 pl_2156 ts_2156 ?_
      refine qs_bp (qz_X18_isOutside hS3813 hM3813 h3812 h3813) (fun v3815 S3815 w3815 h3815 hS3815 hM3815 => ?_)
      refine qs_ite (c_eq h3815 k_0) ?_ ?_
      · refine qs_zi hS3815 pl_2156 ts_2156 ?_
        refine qs_bp (qz_X18_passes hS3815 hM3815 (p_mod ei2 k_24) (p_div ei2 k_24 (by decide)) ei3) (fun v3817 S3817 w3817 h3817 hS3817 hM3817 => ?_)
        refine qs_ite (c_eq h3817 k_0) ?_ ?_
        · exact (qz_X18_findWays_J196 hS3817 hM3817 ei1 ei2 ei3)
        · refine qs_gr hS3817 pl_2156 ts_2156 rfl ?_
          refine qs_gd (fun g3820 => ?_)
          refine qs_xi hM3817 (pa_p hS3817 pl_2328 ts_2328) (p_add (p_mul k_24 h3813) h3812) g3820 (fun v3819 h3819 => ?_)
          exact (qz_X18_findWays_J213 hS3817 hM3817 ei1 ei2 ei3 h3819)
      · exact (qz_X18_findWays_J196 hS3815 hM3815 ei1 ei2 ei3)
    · exact qs_tr2 (show vi _ _ from ei1) hS3811 hM3811
theorem qz_X18_findWays_L129 (n : Nat) : ∀ {P : Nat → Nat} {S : zm_S} {M : qm} {i1 : Int32} {qi1 : Int} {i2 : Int32} {qi2 : Int} {i3 : Int32} {qi3 : Int} (hS : Sh L xs P S) (hM : qM P S = M) (ei1 : i1.toInt = qi1) (ei2 : i2.toInt = qi2) (ei3 : i3.toInt = qi3), qs (zf_X18_findWays_L129 20000 n 2156 i1 i2 i3 S) (qf_X18_findWays_L129 20000 n qi1 qi2 qi3 M) (tO (vs (rr L xs P vu) (rr L xs P vi))) := by
  induction n with
  | zero =>
    intros
    exact qs_none
  | succ n ih =>
    intro P S M i1 qi1 i2 qi2 i3 qi3 hS hM ei1 ei2 ei3
    unfold qf_X18_findWays_L129
    refine qs_loop (C := (qc_X18_findWays_L129 L xs P (zf_X18_findWays_L129 20000 n))) (qz_X18_findWays_L129_b n hS hM ei1 ei2 ei3) ?_
    rintro x s ⟨_, _, _, _, rfl, u0, u1, u2, hS2, hM2⟩
    exact ih hS2 hM2 u0 u1 u2
set_option maxRecDepth 20000 in
theorem qz_X18_findWays_L120_b (n : Nat) {P : Nat → Nat} {S : zm_S} {M : qm} {i1 : Int32} {qi1 : Int} {i2 : Int32} {qi2 : Int} (hS : Sh L xs P S) (hM : qM P S = M) (ei1 : i1.toInt = qi1) (ei2 : i2.toInt = qi2) : qs (zf_X18_findWays_L120 20000 (n + 1) 2156 i1 i2 S) (qf_X18_findWays_L120_b 20000 qi1 qi2 M) (tk (vs (rr L xs P vu) (rr L xs P vi)) (qc_X18_findWays_L120 L xs P (zf_X18_findWays_L120 20000 n))) := by
  refine qs_eq (zf_X18_findWays_L120.eq_2 ..) ?_
  unfold qf_X18_findWays_L120_b
  refine qs_ite (c_le k_576 ei2) ?_ ?_
  · exact qs_tr2 (show vi _ _ from ei1) hS hM
  · refine qs_lr (qz_X18_findWays_L129 20000 hS hM ei1 ei2 k_0) ?_ ?_
    · intro v3822 S3822 w3822 M3822 h3822 hS3822 hM3822
      dsimp only
      exact qs_tr1 h3822 hS3822 hM3822
    · intro v3822 S3822 w3822 M3822 h3822 hS3822 hM3822
      dsimp only
      exact qs_tk ⟨_, _, _, rfl, h3822, (p_add ei2 k_1), hS3822, hM3822⟩
theorem qz_X18_findWays_L120 (n : Nat) : ∀ {P : Nat → Nat} {S : zm_S} {M : qm} {i1 : Int32} {qi1 : Int} {i2 : Int32} {qi2 : Int} (hS : Sh L xs P S) (hM : qM P S = M) (ei1 : i1.toInt = qi1) (ei2 : i2.toInt = qi2), qs (zf_X18_findWays_L120 20000 n 2156 i1 i2 S) (qf_X18_findWays_L120 20000 n qi1 qi2 M) (tO (vs (rr L xs P vu) (rr L xs P vi))) := by
  induction n with
  | zero =>
    intros
    exact qs_none
  | succ n ih =>
    intro P S M i1 qi1 i2 qi2 hS hM ei1 ei2
    unfold qf_X18_findWays_L120
    refine qs_loop (C := (qc_X18_findWays_L120 L xs P (zf_X18_findWays_L120 20000 n))) (qz_X18_findWays_L120_b n hS hM ei1 ei2) ?_
    rintro x s ⟨_, _, _, rfl, u0, u1, hS2, hM2⟩
    exact ih hS2 hM2 u0 u1
set_option maxRecDepth 20000 in
theorem qz_X18_findWays_L112_b (n : Nat) {P : Nat → Nat} {S : zm_S} {M : qm} {i1 : Int32} {qi1 : Int} (hS : Sh L xs P S) (hM : qM P S = M) (ei1 : i1.toInt = qi1) : qs (zf_X18_findWays_L112 20000 (n + 1) 2156 i1 S) (qf_X18_findWays_L112_b 20000 qi1 M) (tk (vs (rr L xs P vu) (rr L xs P vu)) (qc_X18_findWays_L112 L xs P (zf_X18_findWays_L112 20000 n))) := by
  refine qs_eq (zf_X18_findWays_L112.eq_2 ..) ?_
  unfold qf_X18_findWays_L112_b
  refine qs_ite (c_eq ei1 k_0) ?_ ?_
  · exact qs_tr2 (show vu _ _ from trivial) hS hM
  · refine qs_lr (qz_X18_findWays_L120 20000 hS hM k_0 k_0) ?_ ?_
    · intro v3824 S3824 w3824 M3824 h3824 hS3824 hM3824
      dsimp only
      exact qs_tr1 h3824 hS3824 hM3824
    · intro v3824 S3824 w3824 M3824 h3824 hS3824 hM3824
      dsimp only
      exact qs_tk ⟨_, _, rfl, h3824, hS3824, hM3824⟩
theorem qz_X18_findWays_L112 (n : Nat) : ∀ {P : Nat → Nat} {S : zm_S} {M : qm} {i1 : Int32} {qi1 : Int} (hS : Sh L xs P S) (hM : qM P S = M) (ei1 : i1.toInt = qi1), qs (zf_X18_findWays_L112 20000 n 2156 i1 S) (qf_X18_findWays_L112 20000 n qi1 M) (tO (vs (rr L xs P vu) (rr L xs P vu))) := by
  induction n with
  | zero =>
    intros
    exact qs_none
  | succ n ih =>
    intro P S M i1 qi1 hS hM ei1
    unfold qf_X18_findWays_L112
    refine qs_loop (C := (qc_X18_findWays_L112 L xs P (zf_X18_findWays_L112 20000 n))) (qz_X18_findWays_L112_b n hS hM ei1) ?_
    rintro x s ⟨_, _, rfl, u0, hS2, hM2⟩
    exact ih hS2 hM2 u0
set_option maxRecDepth 20000 in
theorem qz_X18_findWays {P : Nat → Nat} {S : zm_S} {M : qm}  (hS : Sh L xs P S) (hM : qM P S = M)  : qs (zf_X18_findWays 20000 2156 S) (qf_X18_findWays 20000 M) (tO (rr L xs P vu)) := by
  unfold zf_X18_findWays qf_X18_findWays
  refine qs_lr (qz_X18_findWays_L4 20000 hS hM k_1 k_0) ?_ ?_
  · intro v3826 S3826 w3826 M3826 h3826 hS3826 hM3826
    dsimp only
    exact qs_tr h3826 hS3826 hM3826
  · intro v3826 S3826 w3826 M3826 h3826 hS3826 hM3826
    dsimp only
    refine qs_lr (qz_X18_findWays_L112 20000 hS3826 hM3826 k_1) ?_ ?_
    · intro v3828 S3828 w3828 M3828 h3828 hS3828 hM3828
      dsimp only
      exact qs_tr h3828 hS3828 hM3828
    · intro v3828 S3828 w3828 M3828 h3828 hS3828 hM3828
      dsimp only
      exact qs_tr (show vu _ _ from trivial) hS3828 hM3828
set_option maxRecDepth 20000 in
theorem qz_X18_build_J49 {P : Nat → Nat} {S : zm_S} {M : qm} {i1 : Int32} {qi1 : Int} {t1 : Int32} {qt1 : Int} {t2 : Int32} {qt2 : Int} (hS : Sh L xs P S) (hM : qM P S = M) (ei1 : i1.toInt = qi1) (et1 : t1.toInt = qt1) (et2 : t2.toInt = qt2) : qs (zf_X18_build_J49 20000 2156 i1 2156 t1 t2 S) (qf_X18_build_J49 20000 qi1 qt1 qt2 M) (tO (rr L xs P vi)) := by
  unfold zf_X18_build_J49 qf_X18_build_J49
  refine qs_zi hS pl_2156 ts_2156 ?_
  refine qs_b (qz_X18_goes hS hM et1 et2) (fun v3830 S3830 w3830 M3830 h3830 hS3830 hM3830 => ?_)
  refine qs_ite (c_eq h3830 k_0) ?_ ?_
  · exact qs_tr (show vi _ _ from k_0) hS3830 hM3830
  · refine qs_gr hS3830 pl_2156 ts_2156 rfl ?_
    refine qs_zi hS3830 pl_2184 ts_2184 ?_
    refine qs_b (qz_X15_run hS3830 hM3830 ei1) (fun v3833 S3833 w3833 M3833 h3833 hS3833 hM3833 => ?_)
    refine qs_lp (qz_X18_build_L68 20000 hS3833 hM3833 k_0) ?_ ?_
    · intro v3835 S3835 w3835 h3835 hS3835 hM3835
      dsimp only
      exact qs_tr h3835 hS3835 hM3835
    · intro v3835 S3835 w3835 h3835 hS3835 hM3835
      dsimp only
      refine qs_pi hS3835 hM3835 pl_2156 ts_2156 (z := 1) rfl rfl k_1 (fun S3836 M3836 hS3836 hM3836 => ?_)
      refine qs_gr hS3836 pl_2156 ts_2156 rfl ?_
      refine qs_gi hS3836 hM3836 pl_2157 ts_2157 (z := 17) rfl rfl (fun v3838 h3838 => ?_)
      refine qs_pi hS3836 hM3836 pl_2156 ts_2156 (z := 9) rfl rfl h3838 (fun S3839 M3839 hS3839 hM3839 => ?_)
      refine qs_gr hS3839 pl_2156 ts_2156 rfl ?_
      refine qs_gi hS3839 hM3839 pl_2156 ts_2156 (z := 9) rfl rfl (fun v3841 h3841 => ?_)
      refine qs_pi hS3839 hM3839 pl_2208 ts_2208 (z := 0) rfl rfl (p_add h3841 k_10) (fun S3842 M3842 hS3842 hM3842 => ?_)
      refine qs_lr (qz_X18_build_L147 20000 hS3842 hM3842 k_0) ?_ ?_
      · intro v3844 S3844 w3844 M3844 h3844 hS3844 hM3844
        dsimp only
        exact qs_tr h3844 hS3844 hM3844
      · intro v3844 S3844 w3844 M3844 h3844 hS3844 hM3844
        dsimp only
        refine qs_zi hS3844 pl_2156 ts_2156 ?_
        refine qs_b (qz_X18_findPortals hS3844 hM3844 ) (fun v3846 S3846 w3846 M3846 h3846 hS3846 hM3846 => ?_)
        refine qs_zi hS3846 pl_2156 ts_2156 ?_
        refine qs_b (qz_X18_findWays hS3846 hM3846 ) (fun v3848 S3848 w3848 M3848 h3848 hS3848 hM3848 => ?_)
        refine qs_gi hS3848 hM3848 pl_2156 ts_2156 (z := 10) rfl rfl (fun v3849 h3849 => ?_)
        exact qs_tr (show vi _ _ from h3849) hS3848 hM3848
set_option maxRecDepth 20000 in
theorem qz_X18_build_J48 {P : Nat → Nat} {S : zm_S} {M : qm} {i1 : Int32} {qi1 : Int} {t1 : Int32} {qt1 : Int} (hS : Sh L xs P S) (hM : qM P S = M) (ei1 : i1.toInt = qi1) (et1 : t1.toInt = qt1) : qs (zf_X18_build_J48 20000 2156 i1 2156 t1 S) (qf_X18_build_J48 20000 qi1 qt1 M) (tO (rr L xs P vi)) := by
  unfold zf_X18_build_J48 qf_X18_build_J48
  exact (qz_X18_build_J49 hS hM ei1 et1 k_0)
set_option maxRecDepth 20000 in
theorem qz_X18_build {P : Nat → Nat} {S : zm_S} {M : qm} {i1 : Int32} {qi1 : Int} (hS : Sh L xs P S) (hM : qM P S = M) (ei1 : i1.toInt = qi1) : qs (zf_X18_build 20000 2156 i1 S) (qf_X18_build 20000 qi1 M) (tO (rr L xs P vi)) := by
  unfold zf_X18_build qf_X18_build
  refine qs_bp (qz_X18_isDay hS hM ei1) (fun v3850 S3850 w3850 h3850 hS3850 hM3850 => ?_)
  refine qs_gi hS3850 hM3850 pl_2156 ts_2156 (z := 1) rfl rfl (fun v3851 h3851 => ?_)
  refine qs_ite (c_eq h3851 k_0) ?_ ?_
  · refine qs_gr hS3850 pl_2156 ts_2156 rfl ?_
    refine qs_gi hS3850 hM3850 pl_2157 ts_2157 (z := 10) rfl rfl (fun v3853 h3853 => ?_)
    refine qs_ite (c_eq h3853 k_0) ?_ ?_
    · exact (qz_X18_build_J48 hS3850 hM3850 ei1 h3850)
    · refine qs_gr hS3850 pl_2156 ts_2156 rfl ?_
      refine qs_gi hS3850 hM3850 pl_2157 ts_2157 (z := 17) rfl rfl (fun v3855 h3855 => ?_)
      refine qs_ite (c_le h3855 k_0) ?_ ?_
      · exact (qz_X18_build_J48 hS3850 hM3850 ei1 h3850)
      · refine qs_gr hS3850 pl_2156 ts_2156 rfl ?_
        refine qs_gi hS3850 hM3850 pl_2157 ts_2157 (z := 17) rfl rfl (fun v3857 h3857 => ?_)
        refine qs_ite (c_lt k_40 h3857) ?_ ?_
        · exact (qz_X18_build_J48 hS3850 hM3850 ei1 h3850)
        · exact (qz_X18_build_J49 hS3850 hM3850 ei1 h3850 k_1)
  · exact (qz_X18_build_J48 hS3850 hM3850 ei1 h3850)
set_option maxRecDepth 20000 in
theorem qz_X11_isPortal {P : Nat → Nat} {S : zm_S} {M : qm} {i1 : Int32} {qi1 : Int} (hS : Sh L xs P S) (hM : qM P S = M) (ei1 : i1.toInt = qi1) : qs (zf_X11_isPortal 20000 6 i1 S) (qf_X11_isPortal 20000 qi1 M) (tO (rp L xs P M vi)) := by
  unfold zf_X11_isPortal qf_X11_isPortal
  refine qs_gr hS pl_6 ts_6 rfl ?_
  refine qs_gi hS hM pl_824 ts_824 (z := 3) rfl rfl (fun v3859 h3859 => ?_)
  refine qs_bp (qz_X11_isWithin hS hM ei1 k_0 (p_sub h3859 k_1)) (fun v3860 S3860 w3860 h3860 hS3860 hM3860 => ?_)
  refine qs_ite (or_congr (c_eq h3860 k_0) (c_eq h3860 k_1)) ?_ ?_
  · exact qs_tp (show vi _ _ from h3860) hS3860 hM3860
  · exact qs_none
set_option maxRecDepth 20000 in
theorem qz_X0_factOf {P : Nat → Nat} {S : zm_S} {M : qm} {i1 : Int32} {qi1 : Int} {i2 : Int32} {qi2 : Int} (hS : Sh L xs P S) (hM : qM P S = M) (ei1 : i1.toInt = qi1) (ei2 : i2.toInt = qi2) : qs (zf_X0_factOf 20000 824 i1 i2 S) (qf_X0_factOf 20000 qi1 qi2 M) (tO (rp L xs P M vi)) := by
  unfold zf_X0_factOf qf_X0_factOf
  refine qs_gr hS pl_824 ts_824 rfl ?_
  refine qs_gd (fun g3863 => ?_)
  refine qs_xid hS hM (Or.inl rfl) (p_add (p_mul ei1 k_13) ei2) g3863 (fun v3862 h3862 => ?_)
  exact qs_tp (show vi _ _ from h3862) hS hM
set_option maxRecDepth 20000 in
theorem qz_X11_portal_J22 {P : Nat → Nat} {S : zm_S} {M : qm} {i1 : Int32} {qi1 : Int} {i2 : Int32} {qi2 : Int} {t0 : Int32} {qt0 : Int} (hS : Sh L xs P S) (hM : qM P S = M) (ei1 : i1.toInt = qi1) (ei2 : i2.toInt = qi2) (et0 : t0.toInt = qt0) : qs (zf_X11_portal_J22 20000 6 i1 i2 t0 S) (qf_X11_portal_J22 20000 qi1 qi2 qt0 M) (tO (rp L xs P M (vs vi ve))) := by
  unfold zf_X11_portal_J22 qf_X11_portal_J22
  refine qs_xp (qz_X11_needArgument hS hM et0) ?_ ?_
  · intro v3865 S3865 w3865 h3865 hS3865 hM3865
    dsimp only
    refine qs_gi hS3865 hM3865 pl_6 ts_6 (z := 11) rfl rfl (fun v3866 h3866 => ?_)
    refine qs_xp (qz_X11_needState hS3865 hM3865 h3866) ?_ ?_
    · intro v3868 S3868 w3868 h3868 hS3868 hM3868
      dsimp only
      refine qs_gr hS3868 pl_6 ts_6 rfl ?_
      refine qs_zi hS3868 pl_824 ts_824 ?_
      refine qs_bp (qz_X0_factOf hS3868 hM3868 ei1 ei2) (fun v3871 S3871 w3871 h3871 hS3871 hM3871 => ?_)
      exact qs_tp (show (vs vi ve) _ _ from h3871) hS3871 hM3871
    · intro v3868 S3868 hS3868 hM3868
      dsimp only
      exact qs_tp (show (vs vi ve) _ _ from rfl) hS3868 hM3868
  · intro v3865 S3865 hS3865 hM3865
    dsimp only
    exact qs_tp (show (vs vi ve) _ _ from rfl) hS3865 hM3865
set_option maxRecDepth 20000 in
theorem qz_X11_portal_J21 {P : Nat → Nat} {S : zm_S} {M : qm} {i1 : Int32} {qi1 : Int} {i2 : Int32} {qi2 : Int} (hS : Sh L xs P S) (hM : qM P S = M) (ei1 : i1.toInt = qi1) (ei2 : i2.toInt = qi2) : qs (zf_X11_portal_J21 20000 6 i1 i2 S) (qf_X11_portal_J21 20000 qi1 qi2 M) (tO (rp L xs P M (vs vi ve))) := by
  unfold zf_X11_portal_J21 qf_X11_portal_J21
  exact (qz_X11_portal_J22 hS hM ei1 ei2 k_0)
set_option maxRecDepth 20000 in
theorem qz_X11_portal {P : Nat → Nat} {S : zm_S} {M : qm} {i1 : Int32} {qi1 : Int} {i2 : Int32} {qi2 : Int} (hS : Sh L xs P S) (hM : qM P S = M) (ei1 : i1.toInt = qi1) (ei2 : i2.toInt = qi2) : qs (zf_X11_portal 20000 6 i1 i2 S) (qf_X11_portal 20000 qi1 qi2 M) (tO (rp L xs P M (vs vi ve))) := by
  unfold zf_X11_portal qf_X11_portal
  refine qs_zi hS pl_6 ts_6 ?_
  refine qs_bp (qz_X11_isPortal hS hM ei1) (fun v3873 S3873 w3873 h3873 hS3873 hM3873 => ?_)
  refine qs_ite (c_eq h3873 k_0) ?_ ?_
  · exact (qz_X11_portal_J21 hS3873 hM3873 ei1 ei2)
  · refine qs_bp (qz_X11_isWithin hS3873 hM3873 ei2 k_0 k_5) (fun v3874 S3874 w3874 h3874 hS3874 hM3874 => ?_)
    refine qs_ite (c_eq h3874 k_0) ?_ ?_
    · exact (qz_X11_portal_J21 hS3874 hM3874 ei1 ei2)
    · exact (qz_X11_portal_J22 hS3874 hM3874 ei1 ei2 k_1)
set_option maxRecDepth 20000 in
theorem qz_L_portal {P : Nat → Nat} {S : zm_S} {M : qm} {i1 : Int32} {qi1 : Int} {i2 : Int32} {qi2 : Int} (hS : Sh L xs P S) (hM : qM P S = M) (ei1 : i1.toInt = qi1) (ei2 : i2.toInt = qi2) : qs (zf_L_portal 20000 6 i1 i2 2332 S) (qf_L_portal 20000 qi1 qi2 M) (tO (rr L xs P vi)) := by
  unfold zf_L_portal qf_L_portal
  refine qs_zi hS pl_6 ts_6 ?_
  refine qs_xp (qz_X11_portal hS hM ei1 ei2) ?_ ?_
  · intro v3877 S3877 w3877 h3877 hS3877 hM3877
    dsimp only
    refine qs_sl hS3877 hM3877 (pa_p hS3877 pl_2332 ts_2332) k_0 (by decide) (p_64 h3877) (fun S3878 M3878 hS3878 hM3878 => ?_)
    exact qs_tr (show vi _ _ from k_0) hS3878 hM3878
  · intro v3877 S3877 hS3877 hM3877
    dsimp only
    refine qs_ite Iff.rfl ?_ ?_
    · exact qs_tr (show vi _ _ from k_1) hS3877 hM3877
    · refine qs_ite Iff.rfl ?_ ?_
      · exact qs_tr (show vi _ _ from k_2) hS3877 hM3877
      · exact qs_none
set_option maxRecDepth 20000 in
theorem qz_X16_cellAt {P : Nat → Nat} {S : zm_S} {M : qm} {i1 : Int32} {qi1 : Int} {i2 : Int32} {qi2 : Int} {i3 : Int32} {qi3 : Int} {i4 : Int32} {qi4 : Int} (hS : Sh L xs P S) (hM : qM P S = M) (ei1 : i1.toInt = qi1) (ei2 : i2.toInt = qi2) (ei3 : i3.toInt = qi3) (ei4 : i4.toInt = qi4) : qs (zf_X16_cellAt 20000 2157 i1 i2 i3 i4 S) (qf_X16_cellAt 20000 qi1 qi2 qi3 qi4 M) (tO (rp L xs P M vi)) := by
  unfold zf_X16_cellAt qf_X16_cellAt
  refine qs_gr hS pl_2157 ts_2157 rfl ?_
  refine qs_gd (fun g3881 => ?_)
  refine qs_xi hM (pa_p hS pl_2160 ts_2160) ei1 g3881 (fun v3880 h3880 => ?_)
  refine qs_ite (c_eq h3880 k_0) ?_ ?_
  · refine qs_ite (c_eq ei4 k_0) ?_ ?_
    · refine qs_gr hS pl_2157 ts_2157 rfl ?_
      refine qs_gd (fun g3884 => ?_)
      refine qs_xi hM (pa_p hS pl_2159 ts_2159) ei1 g3884 (fun v3883 h3883 => ?_)
      exact qs_tp (show vi _ _ from (p_add h3883 ei2)) hS hM
    · refine qs_gr hS pl_2157 ts_2157 rfl ?_
      refine qs_gd (fun g3887 => ?_)
      refine qs_xi hM (pa_p hS pl_2158 ts_2158) ei1 g3887 (fun v3886 h3886 => ?_)
      refine qs_ite (c_eq ei3 k_0) ?_ ?_
      · exact qs_tp (show vi _ _ from (p_sub h3886 k_0)) hS hM
      · exact qs_tp (show vi _ _ from (p_sub h3886 k_1)) hS hM
  · refine qs_ite (c_eq ei4 k_0) ?_ ?_
    · refine qs_gr hS pl_2157 ts_2157 rfl ?_
      refine qs_gd (fun g3890 => ?_)
      refine qs_xi hM (pa_p hS pl_2159 ts_2159) ei1 g3890 (fun v3889 h3889 => ?_)
      refine qs_ite (c_eq ei3 k_0) ?_ ?_
      · exact qs_tp (show vi _ _ from (p_sub h3889 k_1)) hS hM
      · exact qs_tp (show vi _ _ from (p_sub h3889 k_0)) hS hM
    · refine qs_gr hS pl_2157 ts_2157 rfl ?_
      refine qs_gd (fun g3893 => ?_)
      refine qs_xi hM (pa_p hS pl_2158 ts_2158) ei1 g3893 (fun v3892 h3892 => ?_)
      exact qs_tp (show vi _ _ from (p_add h3892 ei2)) hS hM
set_option maxRecDepth 20000 in
theorem qz_X18_portal__J26 {P : Nat → Nat} {S : zm_S} {M : qm} {i1 : Int32} {qi1 : Int} {i2 : Int32} {qi2 : Int} {t1 : Int32} {qt1 : Int} (hS : Sh L xs P S) (hM : qM P S = M) (ei1 : i1.toInt = qi1) (ei2 : i2.toInt = qi2) (et1 : t1.toInt = qt1) : qs (zf_X18_portal__J26 20000 2156 i1 i2 2156 t1 S) (qf_X18_portal__J26 20000 qi1 qi2 qt1 M) (tO (rr L xs P vi)) := by
  unfold zf_X18_portal__J26 qf_X18_portal__J26
  refine qs_gi hS hM pl_2156 ts_2156 (z := 1) rfl rfl (fun v3894 h3894 => ?_)
  refine qs_zi hS pl_2156 ts_2156 ?_
  refine qs_b (qz_X18_goes hS hM et1 h3894) (fun v3896 S3896 w3896 M3896 h3896 hS3896 hM3896 => ?_)
  refine qs_ite (c_eq h3896 k_0) ?_ ?_
  · exact qs_tr (show vi _ _ from k_0) hS3896 hM3896
  · refine qs_ite (z_eq ei2) ?_ ?_
    · refine qs_gr hS3896 pl_2156 ts_2156 rfl ?_
      refine qs_gd (fun g3899 => ?_)
      refine qs_xi hM3896 (pa_p hS3896 pl_2289 ts_2289) ei1 g3899 (fun v3898 h3898 => ?_)
      exact qs_tr (show vi _ _ from h3898) hS3896 hM3896
    · refine qs_ite (z_eq ei2) ?_ ?_
      · refine qs_gr hS3896 pl_2156 ts_2156 rfl ?_
        refine qs_gd (fun g3902 => ?_)
        refine qs_xi hM3896 (pa_p hS3896 pl_2290 ts_2290) ei1 g3902 (fun v3901 h3901 => ?_)
        exact qs_tr (show vi _ _ from h3901) hS3896 hM3896
      · refine qs_ite (z_eq ei2) ?_ ?_
        · refine qs_gr hS3896 pl_2156 ts_2156 rfl ?_
          refine qs_gd (fun g3905 => ?_)
          refine qs_xi hM3896 (pa_p hS3896 pl_2291 ts_2291) ei1 g3905 (fun v3904 h3904 => ?_)
          exact qs_tr (show vi _ _ from h3904) hS3896 hM3896
        · refine qs_ite (z_eq ei2) ?_ ?_
          · refine qs_gr hS3896 pl_2156 ts_2156 rfl ?_
            refine qs_gd (fun g3908 => ?_)
            refine qs_xi hM3896 (pa_p hS3896 pl_2292 ts_2292) ei1 g3908 (fun v3907 h3907 => ?_)
            exact qs_tr (show vi _ _ from h3907) hS3896 hM3896
          · refine qs_gr hS3896 pl_2156 ts_2156 rfl ?_
            refine qs_gr hS3896 pl_2156 ts_2156 rfl ?_
            refine qs_gd (fun g3912 => ?_)
            refine qs_xi hM3896 (pa_p hS3896 pl_2291 ts_2291) ei1 g3912 (fun v3911 h3911 => ?_)
            refine qs_gr hS3896 pl_2156 ts_2156 rfl ?_
            refine qs_gd (fun g3915 => ?_)
            refine qs_xi hM3896 (pa_p hS3896 pl_2293 ts_2293) ei1 g3915 (fun v3914 h3914 => ?_)
            refine qs_ite (c_eq ei2 k_4) ?_ ?_
            · refine qs_zi hS3896 pl_2157 ts_2157 ?_
              refine qs_bp (qz_X16_cellAt hS3896 hM3896 h3911 h3914 k_1 k_1) (fun v3917 S3917 w3917 h3917 hS3917 hM3917 => ?_)
              exact qs_tr (show vi _ _ from h3917) hS3917 hM3917
            · refine qs_zi hS3896 pl_2157 ts_2157 ?_
              refine qs_bp (qz_X16_cellAt hS3896 hM3896 h3911 h3914 k_1 k_0) (fun v3919 S3919 w3919 h3919 hS3919 hM3919 => ?_)
              exact qs_tr (show vi _ _ from h3919) hS3919 hM3919
set_option maxRecDepth 20000 in
theorem qz_X18_portal__J25 {P : Nat → Nat} {S : zm_S} {M : qm} {i1 : Int32} {qi1 : Int} {i2 : Int32} {qi2 : Int} (hS : Sh L xs P S) (hM : qM P S = M) (ei1 : i1.toInt = qi1) (ei2 : i2.toInt = qi2) : qs (zf_X18_portal__J25 20000 2156 i1 i2 2156 S) (qf_X18_portal__J25 20000 qi1 qi2 M) (tO (rr L xs P vi)) := by
  unfold zf_X18_portal__J25 qf_X18_portal__J25
  exact (qz_X18_portal__J26 hS hM ei1 ei2 k_0)
set_option maxRecDepth 20000 in
theorem qz_X18_portal_ {P : Nat → Nat} {S : zm_S} {M : qm} {i1 : Int32} {qi1 : Int} {i2 : Int32} {qi2 : Int} (hS : Sh L xs P S) (hM : qM P S = M) (ei1 : i1.toInt = qi1) (ei2 : i2.toInt = qi2) : qs (zf_X18_portal_ 20000 2156 i1 i2 S) (qf_X18_portal_ 20000 qi1 qi2 M) (tO (rr L xs P vi)) := by
  unfold zf_X18_portal_ qf_X18_portal_
  refine qs_gi hS hM pl_2156 ts_2156 (z := 10) rfl rfl (fun v3920 h3920 => ?_)
  refine qs_bp (qz_X18_isIn hS hM ei1 h3920) (fun v3921 S3921 w3921 h3921 hS3921 hM3921 => ?_)
  refine qs_ite (c_eq h3921 k_0) ?_ ?_
  · exact (qz_X18_portal__J25 hS3921 hM3921 ei1 ei2)
  · refine qs_bp (qz_X18_isIn hS3921 hM3921 ei2 k_6) (fun v3922 S3922 w3922 h3922 hS3922 hM3922 => ?_)
    refine qs_ite (c_eq h3922 k_0) ?_ ?_
    · exact (qz_X18_portal__J25 hS3922 hM3922 ei1 ei2)
    · exact (qz_X18_portal__J26 hS3922 hM3922 ei1 ei2 k_1)
set_option maxRecDepth 20000 in
theorem qz_X10_addPerson {P : Nat → Nat} {S : zm_S} {M : qm} {i1 : Int32} {qi1 : Int} {i2 : Int32} {qi2 : Int} (hS : Sh L xs P S) (hM : qM P S = M) (ei1 : i1.toInt = qi1) (ei2 : i2.toInt = qi2) : qs (zf_X10_addPerson 20000 756 i1 i2 S) (qf_X10_addPerson 20000 qi1 qi2 M) (tO (rr L xs P vi)) := by
  unfold zf_X10_addPerson qf_X10_addPerson
  refine qs_gi hS hM pl_756 ts_756 (z := 7) rfl rfl (fun v3923 h3923 => ?_)
  refine qs_ite (c_lt h3923 k_40) ?_ ?_
  · refine qs_gr hS pl_756 ts_756 rfl ?_
    refine qs_gi hS hM pl_756 ts_756 (z := 7) rfl rfl (fun v3925 h3925 => ?_)
    refine qs_gd (fun g3927 => ?_)
    refine qs_xt hS pl_761 ts_761 (Or.inl rfl) h3925 g3927 (fun b3926 r3926 => ?_)
    refine qs_zi hS pl_756 ts_756 ?_
    refine qs_bp (qz_X10_outside hS hM ) (fun v3929 S3929 w3929 h3929 hS3929 hM3929 => ?_)
    refine qs_ysi hS3929 hM3929 qt_761 tq_761 r3926 k_0 (by decide) h3929 (fun S3930 M3930 hS3930 hM3930 => ?_)
    refine qs_ysi hS3930 hM3930 qt_761 tq_761 r3926 k_1 (by decide) k_m1 (fun S3931 M3931 hS3931 hM3931 => ?_)
    refine qs_ysi hS3931 hM3931 qt_761 tq_761 r3926 k_2 (by decide) k_m1 (fun S3932 M3932 hS3932 hM3932 => ?_)
    refine qs_ysi hS3932 hM3932 qt_761 tq_761 r3926 k_3 (by decide) k_m1 (fun S3933 M3933 hS3933 hM3933 => ?_)
    refine qs_ysi hS3933 hM3933 qt_761 tq_761 r3926 k_6 (by decide) ei1 (fun S3934 M3934 hS3934 hM3934 => ?_)
    refine qs_ysi hS3934 hM3934 qt_761 tq_761 r3926 k_7 (by decide) ei2 (fun S3935 M3935 hS3935 hM3935 => ?_)
    refine qs_gi hS3935 hM3935 pl_756 ts_756 (z := 7) rfl rfl (fun v3936 h3936 => ?_)
    refine qs_pi hS3935 hM3935 pl_756 ts_756 (z := 7) rfl rfl (p_add h3936 k_1) (fun S3937 M3937 hS3937 hM3937 => ?_)
    refine qs_gi hS3937 hM3937 pl_756 ts_756 (z := 7) rfl rfl (fun v3938 h3938 => ?_)
    exact qs_tr (show vi _ _ from (p_sub h3938 k_1)) hS3937 hM3937
  · exact qs_tr (show vi _ _ from k_m1) hS hM
set_option maxRecDepth 20000 in
theorem qz_X11_person_J51 {P : Nat → Nat} {S : zm_S} {M : qm} {i1 : Int32} {qi1 : Int} {i2 : Int32} {qi2 : Int} {t0 : Int32} {qt0 : Int} (hS : Sh L xs P S) (hM : qM P S = M) (ei1 : i1.toInt = qi1) (ei2 : i2.toInt = qi2) (et0 : t0.toInt = qt0) : qs (zf_X11_person_J51 20000 6 i1 i2 t0 S) (qf_X11_person_J51 20000 qi1 qi2 qt0 M) (tO (rr L xs P (vs vi ve))) := by
  unfold zf_X11_person_J51 qf_X11_person_J51
  refine qs_xp (qz_X11_needState hS hM et0) ?_ ?_
  · intro v3940 S3940 w3940 h3940 hS3940 hM3940
    dsimp only
    refine qs_gr hS3940 pl_6 ts_6 rfl ?_
    refine qs_zi hS3940 pl_756 ts_756 ?_
    refine qs_b (qz_X10_addPerson hS3940 hM3940 ei1 ei2) (fun v3943 S3943 w3943 M3943 h3943 hS3943 hM3943 => ?_)
    exact qs_tr (show (vs vi ve) _ _ from h3943) hS3943 hM3943
  · intro v3940 S3940 hS3940 hM3940
    dsimp only
    exact qs_tr (show (vs vi ve) _ _ from rfl) hS3940 hM3940
set_option maxRecDepth 20000 in
theorem qz_X11_person_J50 {P : Nat → Nat} {S : zm_S} {M : qm} {i1 : Int32} {qi1 : Int} {i2 : Int32} {qi2 : Int} (hS : Sh L xs P S) (hM : qM P S = M) (ei1 : i1.toInt = qi1) (ei2 : i2.toInt = qi2) : qs (zf_X11_person_J50 20000 6 i1 i2 S) (qf_X11_person_J50 20000 qi1 qi2 M) (tO (rr L xs P (vs vi ve))) := by
  unfold zf_X11_person_J50 qf_X11_person_J50
  exact (qz_X11_person_J51 hS hM ei1 ei2 k_0)
set_option maxRecDepth 20000 in
theorem qz_X11_person_J24 {P : Nat → Nat} {S : zm_S} {M : qm} {i1 : Int32} {qi1 : Int} {i2 : Int32} {qi2 : Int} {t0 : Int32} {qt0 : Int} (hS : Sh L xs P S) (hM : qM P S = M) (ei1 : i1.toInt = qi1) (ei2 : i2.toInt = qi2) (et0 : t0.toInt = qt0) : qs (zf_X11_person_J24 20000 6 i1 i2 t0 S) (qf_X11_person_J24 20000 qi1 qi2 qt0 M) (tO (rr L xs P (vs vi ve))) := by
  unfold zf_X11_person_J24 qf_X11_person_J24
  refine qs_xp (qz_X11_needArgument hS hM et0) ?_ ?_
  · intro v3945 S3945 w3945 h3945 hS3945 hM3945
    dsimp only
    refine qs_gi hS3945 hM3945 pl_6 ts_6 (z := 11) rfl rfl (fun v3946 h3946 => ?_)
    refine qs_ite (c_eq h3946 k_0) ?_ ?_
    · exact (qz_X11_person_J50 hS3945 hM3945 ei1 ei2)
    · refine qs_gr hS3945 pl_6 ts_6 rfl ?_
      refine qs_gi hS3945 hM3945 pl_756 ts_756 (z := 7) rfl rfl (fun v3948 h3948 => ?_)
      refine qs_ite (c_le k_40 h3948) ?_ ?_
      · exact (qz_X11_person_J50 hS3945 hM3945 ei1 ei2)
      · exact (qz_X11_person_J51 hS3945 hM3945 ei1 ei2 k_1)
  · intro v3945 S3945 hS3945 hM3945
    dsimp only
    exact qs_tr (show (vs vi ve) _ _ from rfl) hS3945 hM3945
set_option maxRecDepth 20000 in
theorem qz_X11_person_J23 {P : Nat → Nat} {S : zm_S} {M : qm} {i1 : Int32} {qi1 : Int} {i2 : Int32} {qi2 : Int} (hS : Sh L xs P S) (hM : qM P S = M) (ei1 : i1.toInt = qi1) (ei2 : i2.toInt = qi2) : qs (zf_X11_person_J23 20000 6 i1 i2 S) (qf_X11_person_J23 20000 qi1 qi2 M) (tO (rr L xs P (vs vi ve))) := by
  unfold zf_X11_person_J23 qf_X11_person_J23
  exact (qz_X11_person_J24 hS hM ei1 ei2 k_0)
set_option maxRecDepth 20000 in
theorem qz_X11_person {P : Nat → Nat} {S : zm_S} {M : qm} {i1 : Int32} {qi1 : Int} {i2 : Int32} {qi2 : Int} (hS : Sh L xs P S) (hM : qM P S = M) (ei1 : i1.toInt = qi1) (ei2 : i2.toInt = qi2) : qs (zf_X11_person 20000 6 i1 i2 S) (qf_X11_person 20000 qi1 qi2 M) (tO (rr L xs P (vs vi ve))) := by
  unfold zf_X11_person qf_X11_person
  refine qs_bp (qz_X11_isWithin hS hM ei1 k_0 k_9) (fun v3949 S3949 w3949 h3949 hS3949 hM3949 => ?_)
  refine qs_ite (c_eq h3949 k_0) ?_ ?_
  · exact (qz_X11_person_J23 hS3949 hM3949 ei1 ei2)
  · refine qs_bp (qz_X11_isWithin hS3949 hM3949 ei2 k_1 k_5) (fun v3950 S3950 w3950 h3950 hS3950 hM3950 => ?_)
    refine qs_ite (c_eq h3950 k_0) ?_ ?_
    · exact (qz_X11_person_J23 hS3950 hM3950 ei1 ei2)
    · exact (qz_X11_person_J24 hS3950 hM3950 ei1 ei2 k_1)
set_option maxRecDepth 20000 in
theorem qz_L_person {P : Nat → Nat} {S : zm_S} {M : qm} {i1 : Int32} {qi1 : Int} {i2 : Int32} {qi2 : Int} (hS : Sh L xs P S) (hM : qM P S = M) (ei1 : i1.toInt = qi1) (ei2 : i2.toInt = qi2) : qs (zf_L_person 20000 6 i1 i2 2332 S) (qf_L_person 20000 qi1 qi2 M) (tO (rr L xs P vi)) := by
  unfold zf_L_person qf_L_person
  refine qs_zi hS pl_6 ts_6 ?_
  refine qs_xr (qz_X11_person hS hM ei1 ei2) ?_ ?_
  · intro v3953 S3953 w3953 M3953 h3953 hS3953 hM3953
    dsimp only
    refine qs_sl hS3953 hM3953 (pa_p hS3953 pl_2332 ts_2332) k_0 (by decide) (p_64 h3953) (fun S3954 M3954 hS3954 hM3954 => ?_)
    exact qs_tr (show vi _ _ from k_0) hS3954 hM3954
  · intro v3953 S3953 M3953 hS3953 hM3953
    dsimp only
    refine qs_ite Iff.rfl ?_ ?_
    · exact qs_tr (show vi _ _ from k_1) hS3953 hM3953
    · refine qs_ite Iff.rfl ?_ ?_
      · exact qs_tr (show vi _ _ from k_2) hS3953 hM3953
      · exact qs_none
set_option maxRecDepth 20000 in
theorem qz_X18_person_J46 {P : Nat → Nat} {S : zm_S} {M : qm} {i1 : Int32} {qi1 : Int} {i2 : Int32} {qi2 : Int} {t1 : Int32} {qt1 : Int} {t2 : Int32} {qt2 : Int} (hS : Sh L xs P S) (hM : qM P S = M) (ei1 : i1.toInt = qi1) (ei2 : i2.toInt = qi2) (et1 : t1.toInt = qt1) (et2 : t2.toInt = qt2) : qs (zf_X18_person_J46 20000 2156 i1 i2 2156 t1 t2 S) (qf_X18_person_J46 20000 qi1 qi2 qt1 qt2 M) (tO (rr L xs P vi)) := by
  unfold zf_X18_person_J46 qf_X18_person_J46
  refine qs_zi hS pl_2156 ts_2156 ?_
  refine qs_b (qz_X18_goes hS hM et1 et2) (fun v3956 S3956 w3956 M3956 h3956 hS3956 hM3956 => ?_)
  refine qs_ite (c_eq h3956 k_0) ?_ ?_
  · exact qs_tr (show vi _ _ from k_0) hS3956 hM3956
  · refine qs_gr hS3956 pl_2156 ts_2156 rfl ?_
    refine qs_gi hS3956 hM3956 pl_2156 ts_2156 (z := 27) rfl rfl (fun v3958 h3958 => ?_)
    refine qs_gd (fun g3960 => ?_)
    refine qs_si hS3956 hM3956 (pa_p hS3956 pl_2304 ts_2304) h3958 g3960 ei1 (fun S3959 M3959 hS3959 hM3959 => ?_)
    refine qs_gr hS3959 pl_2156 ts_2156 rfl ?_
    refine qs_gi hS3959 hM3959 pl_2156 ts_2156 (z := 27) rfl rfl (fun v3962 h3962 => ?_)
    refine qs_gd (fun g3964 => ?_)
    refine qs_si hS3959 hM3959 (pa_p hS3959 pl_2305 ts_2305) h3962 g3964 ei2 (fun S3963 M3963 hS3963 hM3963 => ?_)
    refine qs_gr hS3963 pl_2156 ts_2156 rfl ?_
    refine qs_gi hS3963 hM3963 pl_2156 ts_2156 (z := 27) rfl rfl (fun v3966 h3966 => ?_)
    refine qs_gi hS3963 hM3963 pl_2156 ts_2156 (z := 9) rfl rfl (fun v3967 h3967 => ?_)
    refine qs_gd (fun g3969 => ?_)
    refine qs_si hS3963 hM3963 (pa_p hS3963 pl_2306 ts_2306) h3966 g3969 h3967 (fun S3968 M3968 hS3968 hM3968 => ?_)
    refine qs_gr hS3968 pl_2156 ts_2156 rfl ?_
    refine qs_gi hS3968 hM3968 pl_2156 ts_2156 (z := 27) rfl rfl (fun v3971 h3971 => ?_)
    refine qs_gd (fun g3973 => ?_)
    refine qs_si hS3968 hM3968 (pa_p hS3968 pl_2307 ts_2307) h3971 g3973 k_m1 (fun S3972 M3972 hS3972 hM3972 => ?_)
    refine qs_gr hS3972 pl_2156 ts_2156 rfl ?_
    refine qs_gi hS3972 hM3972 pl_2156 ts_2156 (z := 27) rfl rfl (fun v3975 h3975 => ?_)
    refine qs_gd (fun g3977 => ?_)
    refine qs_si hS3972 hM3972 (pa_p hS3972 pl_2308 ts_2308) h3975 g3977 k_m1 (fun S3976 M3976 hS3976 hM3976 => ?_)
    refine qs_gr hS3976 pl_2156 ts_2156 rfl ?_
    refine qs_gi hS3976 hM3976 pl_2156 ts_2156 (z := 27) rfl rfl (fun v3979 h3979 => ?_)
    refine qs_gd (fun g3981 => ?_)
    refine qs_si hS3976 hM3976 (pa_p hS3976 pl_2309 ts_2309) h3979 g3981 k_m1 (fun S3980 M3980 hS3980 hM3980 => ?_)
    refine qs_gi hS3980 hM3980 pl_2156 ts_2156 (z := 27) rfl rfl (fun v3982 h3982 => ?_)
    refine qs_pi hS3980 hM3980 pl_2156 ts_2156 (z := 27) rfl rfl (p_add h3982 k_1) (fun S3983 M3983 hS3983 hM3983 => ?_)
    refine qs_gi hS3983 hM3983 pl_2156 ts_2156 (z := 27) rfl rfl (fun v3984 h3984 => ?_)
    exact qs_tr (show vi _ _ from (p_sub h3984 k_1)) hS3983 hM3983
set_option maxRecDepth 20000 in
theorem qz_X18_person_J45 {P : Nat → Nat} {S : zm_S} {M : qm} {i1 : Int32} {qi1 : Int} {i2 : Int32} {qi2 : Int} {t1 : Int32} {qt1 : Int} (hS : Sh L xs P S) (hM : qM P S = M) (ei1 : i1.toInt = qi1) (ei2 : i2.toInt = qi2) (et1 : t1.toInt = qt1) : qs (zf_X18_person_J45 20000 2156 i1 i2 2156 t1 S) (qf_X18_person_J45 20000 qi1 qi2 qt1 M) (tO (rr L xs P vi)) := by
  unfold zf_X18_person_J45 qf_X18_person_J45
  exact (qz_X18_person_J46 hS hM ei1 ei2 et1 k_0)
set_option maxRecDepth 20000 in
theorem qz_X18_person_J25 {P : Nat → Nat} {S : zm_S} {M : qm} {i1 : Int32} {qi1 : Int} {i2 : Int32} {qi2 : Int} {t1 : Int32} {qt1 : Int} (hS : Sh L xs P S) (hM : qM P S = M) (ei1 : i1.toInt = qi1) (ei2 : i2.toInt = qi2) (et1 : t1.toInt = qt1) : qs (zf_X18_person_J25 20000 2156 i1 i2 2156 t1 S) (qf_X18_person_J25 20000 qi1 qi2 qt1 M) (tO (rr L xs P vi)) := by
  unfold zf_X18_person_J25 qf_X18_person_J25
  refine qs_gi hS hM pl_2156 ts_2156 (z := 1) rfl rfl (fun v3985 h3985 => ?_)
  refine qs_ite (c_eq h3985 k_0) ?_ ?_
  · exact (qz_X18_person_J45 hS hM ei1 ei2 et1)
  · refine qs_gi hS hM pl_2156 ts_2156 (z := 27) rfl rfl (fun v3986 h3986 => ?_)
    refine qs_ite (c_le k_40 h3986) ?_ ?_
    · exact (qz_X18_person_J45 hS hM ei1 ei2 et1)
    · exact (qz_X18_person_J46 hS hM ei1 ei2 et1 k_1)
set_option maxRecDepth 20000 in
theorem qz_X18_person_J24 {P : Nat → Nat} {S : zm_S} {M : qm} {i1 : Int32} {qi1 : Int} {i2 : Int32} {qi2 : Int} (hS : Sh L xs P S) (hM : qM P S = M) (ei1 : i1.toInt = qi1) (ei2 : i2.toInt = qi2) : qs (zf_X18_person_J24 20000 2156 i1 i2 2156 S) (qf_X18_person_J24 20000 qi1 qi2 M) (tO (rr L xs P vi)) := by
  unfold zf_X18_person_J24 qf_X18_person_J24
  exact (qz_X18_person_J25 hS hM ei1 ei2 k_0)
set_option maxRecDepth 20000 in
theorem qz_X18_person {P : Nat → Nat} {S : zm_S} {M : qm} {i1 : Int32} {qi1 : Int} {i2 : Int32} {qi2 : Int} (hS : Sh L xs P S) (hM : qM P S = M) (ei1 : i1.toInt = qi1) (ei2 : i2.toInt = qi2) : qs (zf_X18_person 20000 2156 i1 i2 S) (qf_X18_person 20000 qi1 qi2 M) (tO (rr L xs P vi)) := by
  unfold zf_X18_person qf_X18_person
  refine qs_bp (qz_X18_isIn hS hM ei1 k_10) (fun v3987 S3987 w3987 h3987 hS3987 hM3987 => ?_)
  refine qs_ite (c_eq h3987 k_0) ?_ ?_
  · exact (qz_X18_person_J24 hS3987 hM3987 ei1 ei2)
  · refine qs_ite (c_lt ei2 k_1) ?_ ?_
    · exact (qz_X18_person_J24 hS3987 hM3987 ei1 ei2)
    · refine qs_ite (c_lt k_5 ei2) ?_ ?_
      · exact (qz_X18_person_J24 hS3987 hM3987 ei1 ei2)
      · exact (qz_X18_person_J25 hS3987 hM3987 ei1 ei2 k_1)
set_option maxRecDepth 20000 in
theorem qz_X11_isPerson {P : Nat → Nat} {S : zm_S} {M : qm} {i1 : Int32} {qi1 : Int} (hS : Sh L xs P S) (hM : qM P S = M) (ei1 : i1.toInt = qi1) : qs (zf_X11_isPerson 20000 6 i1 S) (qf_X11_isPerson 20000 qi1 M) (tO (rp L xs P M vi)) := by
  unfold zf_X11_isPerson qf_X11_isPerson
  refine qs_gr hS pl_6 ts_6 rfl ?_
  refine qs_gi hS hM pl_756 ts_756 (z := 7) rfl rfl (fun v3989 h3989 => ?_)
  refine qs_bp (qz_X11_isWithin hS hM ei1 k_0 (p_sub h3989 k_1)) (fun v3990 S3990 w3990 h3990 hS3990 hM3990 => ?_)
  refine qs_ite (or_congr (c_eq h3990 k_0) (c_eq h3990 k_1)) ?_ ?_
  · exact qs_tp (show vi _ _ from h3990) hS3990 hM3990
  · exact qs_none
set_option maxRecDepth 20000 in
theorem qz_X0_addCard {P : Nat → Nat} {S : zm_S} {M : qm} {i1 : Int32} {qi1 : Int} {i2 : Int32} {qi2 : Int} (hS : Sh L xs P S) (hM : qM P S = M) (ei1 : i1.toInt = qi1) (ei2 : i2.toInt = qi2) : qs (zf_X0_addCard 20000 824 i1 i2 S) (qf_X0_addCard 20000 qi1 qi2 M) (tO (rr L xs P vi)) := by
  unfold zf_X0_addCard qf_X0_addCard
  refine qs_gi hS hM pl_824 ts_824 (z := 8) rfl rfl (fun v3991 h3991 => ?_)
  refine qs_ite (c_lt h3991 k_60) ?_ ?_
  · refine qs_gr hS pl_824 ts_824 rfl ?_
    refine qs_gi hS hM pl_824 ts_824 (z := 8) rfl rfl (fun v3993 h3993 => ?_)
    refine qs_gd (fun g3995 => ?_)
    refine qs_xt hS pl_828 ts_828 (Or.inl rfl) h3993 g3995 (fun b3994 r3994 => ?_)
    refine qs_ysi hS hM qt_828 tq_828 r3994 k_0 (by decide) ei1 (fun S3996 M3996 hS3996 hM3996 => ?_)
    refine qs_ysi hS3996 hM3996 qt_828 tq_828 r3994 k_1 (by decide) ei2 (fun S3997 M3997 hS3997 hM3997 => ?_)
    refine qs_gi hS3997 hM3997 pl_824 ts_824 (z := 12) rfl rfl (fun v3998 h3998 => ?_)
    refine qs_ysi hS3997 hM3997 qt_828 tq_828 r3994 k_2 (by decide) h3998 (fun S3999 M3999 hS3999 hM3999 => ?_)
    refine qs_gi hS3999 hM3999 pl_824 ts_824 (z := 12) rfl rfl (fun v4000 h4000 => ?_)
    refine qs_pi hS3999 hM3999 pl_824 ts_824 (z := 12) rfl rfl (p_add h4000 k_1) (fun S4001 M4001 hS4001 hM4001 => ?_)
    refine qs_gi hS4001 hM4001 pl_824 ts_824 (z := 8) rfl rfl (fun v4002 h4002 => ?_)
    refine qs_pi hS4001 hM4001 pl_824 ts_824 (z := 8) rfl rfl (p_add h4002 k_1) (fun S4003 M4003 hS4003 hM4003 => ?_)
    refine qs_gi hS4003 hM4003 pl_824 ts_824 (z := 8) rfl rfl (fun v4004 h4004 => ?_)
    exact qs_tr (show vi _ _ from (p_sub h4004 k_1)) hS4003 hM4003
  · exact qs_tr (show vi _ _ from k_m1) hS hM
set_option maxRecDepth 20000 in
theorem qz_X11_card_J50 {P : Nat → Nat} {S : zm_S} {M : qm} {i1 : Int32} {qi1 : Int} {i2 : Int32} {qi2 : Int} {t0 : Int32} {qt0 : Int} (hS : Sh L xs P S) (hM : qM P S = M) (ei1 : i1.toInt = qi1) (ei2 : i2.toInt = qi2) (et0 : t0.toInt = qt0) : qs (zf_X11_card_J50 20000 6 i1 i2 t0 S) (qf_X11_card_J50 20000 qi1 qi2 qt0 M) (tO (rr L xs P (vs vi ve))) := by
  unfold zf_X11_card_J50 qf_X11_card_J50
  refine qs_xp (qz_X11_needState hS hM et0) ?_ ?_
  · intro v4006 S4006 w4006 h4006 hS4006 hM4006
    dsimp only
    refine qs_gr hS4006 pl_6 ts_6 rfl ?_
    refine qs_zi hS4006 pl_824 ts_824 ?_
    refine qs_b (qz_X0_addCard hS4006 hM4006 ei1 ei2) (fun v4009 S4009 w4009 M4009 h4009 hS4009 hM4009 => ?_)
    exact qs_tr (show (vs vi ve) _ _ from h4009) hS4009 hM4009
  · intro v4006 S4006 hS4006 hM4006
    dsimp only
    exact qs_tr (show (vs vi ve) _ _ from rfl) hS4006 hM4006
set_option maxRecDepth 20000 in
theorem qz_X11_card_J49 {P : Nat → Nat} {S : zm_S} {M : qm} {i1 : Int32} {qi1 : Int} {i2 : Int32} {qi2 : Int} (hS : Sh L xs P S) (hM : qM P S = M) (ei1 : i1.toInt = qi1) (ei2 : i2.toInt = qi2) : qs (zf_X11_card_J49 20000 6 i1 i2 S) (qf_X11_card_J49 20000 qi1 qi2 M) (tO (rr L xs P (vs vi ve))) := by
  unfold zf_X11_card_J49 qf_X11_card_J49
  exact (qz_X11_card_J50 hS hM ei1 ei2 k_0)
set_option maxRecDepth 20000 in
theorem qz_X11_card_J23 {P : Nat → Nat} {S : zm_S} {M : qm} {i1 : Int32} {qi1 : Int} {i2 : Int32} {qi2 : Int} {t0 : Int32} {qt0 : Int} (hS : Sh L xs P S) (hM : qM P S = M) (ei1 : i1.toInt = qi1) (ei2 : i2.toInt = qi2) (et0 : t0.toInt = qt0) : qs (zf_X11_card_J23 20000 6 i1 i2 t0 S) (qf_X11_card_J23 20000 qi1 qi2 qt0 M) (tO (rr L xs P (vs vi ve))) := by
  unfold zf_X11_card_J23 qf_X11_card_J23
  refine qs_xp (qz_X11_needArgument hS hM et0) ?_ ?_
  · intro v4011 S4011 w4011 h4011 hS4011 hM4011
    dsimp only
    refine qs_gi hS4011 hM4011 pl_6 ts_6 (z := 11) rfl rfl (fun v4012 h4012 => ?_)
    refine qs_ite (c_eq h4012 k_0) ?_ ?_
    · exact (qz_X11_card_J49 hS4011 hM4011 ei1 ei2)
    · refine qs_gr hS4011 pl_6 ts_6 rfl ?_
      refine qs_gi hS4011 hM4011 pl_824 ts_824 (z := 8) rfl rfl (fun v4014 h4014 => ?_)
      refine qs_ite (c_le k_60 h4014) ?_ ?_
      · exact (qz_X11_card_J49 hS4011 hM4011 ei1 ei2)
      · exact (qz_X11_card_J50 hS4011 hM4011 ei1 ei2 k_1)
  · intro v4011 S4011 hS4011 hM4011
    dsimp only
    exact qs_tr (show (vs vi ve) _ _ from rfl) hS4011 hM4011
set_option maxRecDepth 20000 in
theorem qz_X11_card_J22 {P : Nat → Nat} {S : zm_S} {M : qm} {i1 : Int32} {qi1 : Int} {i2 : Int32} {qi2 : Int} (hS : Sh L xs P S) (hM : qM P S = M) (ei1 : i1.toInt = qi1) (ei2 : i2.toInt = qi2) : qs (zf_X11_card_J22 20000 6 i1 i2 S) (qf_X11_card_J22 20000 qi1 qi2 M) (tO (rr L xs P (vs vi ve))) := by
  unfold zf_X11_card_J22 qf_X11_card_J22
  exact (qz_X11_card_J23 hS hM ei1 ei2 k_0)
set_option maxRecDepth 20000 in
theorem qz_X11_card {P : Nat → Nat} {S : zm_S} {M : qm} {i1 : Int32} {qi1 : Int} {i2 : Int32} {qi2 : Int} (hS : Sh L xs P S) (hM : qM P S = M) (ei1 : i1.toInt = qi1) (ei2 : i2.toInt = qi2) : qs (zf_X11_card 20000 6 i1 i2 S) (qf_X11_card 20000 qi1 qi2 M) (tO (rr L xs P (vs vi ve))) := by
  unfold zf_X11_card qf_X11_card
  refine qs_zi hS pl_6 ts_6 ?_
  refine qs_bp (qz_X11_isPerson hS hM ei1) (fun v4016 S4016 w4016 h4016 hS4016 hM4016 => ?_)
  refine qs_ite (c_eq h4016 k_0) ?_ ?_
  · exact (qz_X11_card_J22 hS4016 hM4016 ei1 ei2)
  · refine qs_bp (qz_X11_isWithin hS4016 hM4016 ei2 k_0 k_1000000) (fun v4017 S4017 w4017 h4017 hS4017 hM4017 => ?_)
    refine qs_ite (c_eq h4017 k_0) ?_ ?_
    · exact (qz_X11_card_J22 hS4017 hM4017 ei1 ei2)
    · exact (qz_X11_card_J23 hS4017 hM4017 ei1 ei2 k_1)
set_option maxRecDepth 20000 in
theorem qz_L_card {P : Nat → Nat} {S : zm_S} {M : qm} {i1 : Int32} {qi1 : Int} {i2 : Int32} {qi2 : Int} (hS : Sh L xs P S) (hM : qM P S = M) (ei1 : i1.toInt = qi1) (ei2 : i2.toInt = qi2) : qs (zf_L_card 20000 6 i1 i2 2332 S) (qf_L_card 20000 qi1 qi2 M) (tO (rr L xs P vi)) := by
  unfold zf_L_card qf_L_card
  refine qs_zi hS pl_6 ts_6 ?_
  refine qs_xr (qz_X11_card hS hM ei1 ei2) ?_ ?_
  · intro v4020 S4020 w4020 M4020 h4020 hS4020 hM4020
    dsimp only
    refine qs_sl hS4020 hM4020 (pa_p hS4020 pl_2332 ts_2332) k_0 (by decide) (p_64 h4020) (fun S4021 M4021 hS4021 hM4021 => ?_)
    exact qs_tr (show vi _ _ from k_0) hS4021 hM4021
  · intro v4020 S4020 M4020 hS4020 hM4020
    dsimp only
    refine qs_ite Iff.rfl ?_ ?_
    · exact qs_tr (show vi _ _ from k_1) hS4020 hM4020
    · refine qs_ite Iff.rfl ?_ ?_
      · exact qs_tr (show vi _ _ from k_2) hS4020 hM4020
      · exact qs_none
set_option maxRecDepth 20000 in
theorem qz_X18_tell_J45 {P : Nat → Nat} {S : zm_S} {M : qm} {i1 : Int32} {qi1 : Int} {i2 : Int32} {qi2 : Int} {i3 : Int32} {qi3 : Int} (hS : Sh L xs P S) (hM : qM P S = M) (ei1 : i1.toInt = qi1) (ei2 : i2.toInt = qi2) (ei3 : i3.toInt = qi3) : qs (zf_X18_tell_J45 20000 2156 i1 i2 i3 S) (qf_X18_tell_J45 20000 qi1 qi2 qi3 M) (tO (rr L xs P vu)) := by
  unfold zf_X18_tell_J45 qf_X18_tell_J45
  refine qs_gr hS pl_2156 ts_2156 rfl ?_
  refine qs_gi hS hM pl_2156 ts_2156 (z := 45) rfl rfl (fun v4023 h4023 => ?_)
  refine qs_gd (fun g4025 => ?_)
  refine qs_si hS hM (pa_p hS pl_2319 ts_2319) h4023 g4025 ei1 (fun S4024 M4024 hS4024 hM4024 => ?_)
  refine qs_gr hS4024 pl_2156 ts_2156 rfl ?_
  refine qs_gi hS4024 hM4024 pl_2156 ts_2156 (z := 45) rfl rfl (fun v4027 h4027 => ?_)
  refine qs_gd (fun g4029 => ?_)
  refine qs_si hS4024 hM4024 (pa_p hS4024 pl_2320 ts_2320) h4027 g4029 ei2 (fun S4028 M4028 hS4028 hM4028 => ?_)
  refine qs_gr hS4028 pl_2156 ts_2156 rfl ?_
  refine qs_gi hS4028 hM4028 pl_2156 ts_2156 (z := 45) rfl rfl (fun v4031 h4031 => ?_)
  refine qs_gd (fun g4033 => ?_)
  refine qs_si hS4028 hM4028 (pa_p hS4028 pl_2321 ts_2321) h4031 g4033 ei3 (fun S4032 M4032 hS4032 hM4032 => ?_)
  refine qs_gi hS4032 hM4032 pl_2156 ts_2156 (z := 45) rfl rfl (fun v4034 h4034 => ?_)
  refine qs_pi hS4032 hM4032 pl_2156 ts_2156 (z := 45) rfl rfl (p_add h4034 k_1) (fun S4035 M4035 hS4035 hM4035 => ?_)
  exact qs_tr (show vu _ _ from trivial) hS4035 hM4035
set_option maxRecDepth 20000 in
theorem qz_X18_tell {P : Nat → Nat} {S : zm_S} {M : qm} {i1 : Int32} {qi1 : Int} {i2 : Int32} {qi2 : Int} {i3 : Int32} {qi3 : Int} (hS : Sh L xs P S) (hM : qM P S = M) (ei1 : i1.toInt = qi1) (ei2 : i2.toInt = qi2) (ei3 : i3.toInt = qi3) : qs (zf_X18_tell 20000 2156 i1 i2 i3 S) (qf_X18_tell 20000 qi1 qi2 qi3 M) (tO (rr L xs P vu)) := by
  unfold zf_X18_tell qf_X18_tell
  refine qs_gi hS hM pl_2156 ts_2156 (z := 45) rfl rfl (fun v4036 h4036 => ?_)
  refine qs_gr hS pl_2156 ts_2156 rfl ?_
  refine qs_n (pa_p hS pl_2319 ts_2319) (by decide) (x := 4100) (by decide) (fun v4038 h4038 => ?_)
  refine qs_ite (c_eq h4036 h4038) ?_ ?_
  · refine qs_gr hS pl_2156 ts_2156 rfl ?_
    exact qs_none
  · exact (qz_X18_tell_J45 hS hM ei1 ei2 ei3)
set_option maxRecDepth 20000 in
theorem qz_X18_card_J45 {P : Nat → Nat} {S : zm_S} {M : qm} {i1 : Int32} {qi1 : Int} {i2 : Int32} {qi2 : Int} {t1 : Int32} {qt1 : Int} {t2 : Int32} {qt2 : Int} (hS : Sh L xs P S) (hM : qM P S = M) (ei1 : i1.toInt = qi1) (ei2 : i2.toInt = qi2) (et1 : t1.toInt = qt1) (et2 : t2.toInt = qt2) : qs (zf_X18_card_J45 20000 2156 i1 i2 2156 t1 t2 S) (qf_X18_card_J45 20000 qi1 qi2 qt1 qt2 M) (tO (rr L xs P vi)) := by
  unfold zf_X18_card_J45 qf_X18_card_J45
  refine qs_zi hS pl_2156 ts_2156 ?_
  refine qs_b (qz_X18_goes hS hM et1 et2) (fun v4042 S4042 w4042 M4042 h4042 hS4042 hM4042 => ?_)
  refine qs_ite (c_eq h4042 k_0) ?_ ?_
  · exact qs_tr (show vi _ _ from k_0) hS4042 hM4042
  · refine qs_gr hS4042 pl_2156 ts_2156 rfl ?_
    refine qs_gi hS4042 hM4042 pl_2156 ts_2156 (z := 36) rfl rfl (fun v4044 h4044 => ?_)
    refine qs_gd (fun g4046 => ?_)
    refine qs_si hS4042 hM4042 (pa_p hS4042 pl_2312 ts_2312) h4044 g4046 ei1 (fun S4045 M4045 hS4045 hM4045 => ?_)
    refine qs_gr hS4045 pl_2156 ts_2156 rfl ?_
    refine qs_gi hS4045 hM4045 pl_2156 ts_2156 (z := 36) rfl rfl (fun v4048 h4048 => ?_)
    refine qs_gd (fun g4050 => ?_)
    refine qs_si hS4045 hM4045 (pa_p hS4045 pl_2313 ts_2313) h4048 g4050 ei2 (fun S4049 M4049 hS4049 hM4049 => ?_)
    refine qs_gi hS4049 hM4049 pl_2156 ts_2156 (z := 36) rfl rfl (fun v4051 h4051 => ?_)
    refine qs_zi hS4049 pl_2156 ts_2156 ?_
    refine qs_b (qz_X18_tell hS4049 hM4049 k_0 h4051 ei2) (fun v4053 S4053 w4053 M4053 h4053 hS4053 hM4053 => ?_)
    refine qs_gi hS4053 hM4053 pl_2156 ts_2156 (z := 36) rfl rfl (fun v4054 h4054 => ?_)
    refine qs_pi hS4053 hM4053 pl_2156 ts_2156 (z := 36) rfl rfl (p_add h4054 k_1) (fun S4055 M4055 hS4055 hM4055 => ?_)
    refine qs_gi hS4055 hM4055 pl_2156 ts_2156 (z := 36) rfl rfl (fun v4056 h4056 => ?_)
    exact qs_tr (show vi _ _ from (p_sub h4056 k_1)) hS4055 hM4055
set_option maxRecDepth 20000 in
theorem qz_X18_card_J44 {P : Nat → Nat} {S : zm_S} {M : qm} {i1 : Int32} {qi1 : Int} {i2 : Int32} {qi2 : Int} {t1 : Int32} {qt1 : Int} (hS : Sh L xs P S) (hM : qM P S = M) (ei1 : i1.toInt = qi1) (ei2 : i2.toInt = qi2) (et1 : t1.toInt = qt1) : qs (zf_X18_card_J44 20000 2156 i1 i2 2156 t1 S) (qf_X18_card_J44 20000 qi1 qi2 qt1 M) (tO (rr L xs P vi)) := by
  unfold zf_X18_card_J44 qf_X18_card_J44
  exact (qz_X18_card_J45 hS hM ei1 ei2 et1 k_0)
set_option maxRecDepth 20000 in
theorem qz_X18_card_J24 {P : Nat → Nat} {S : zm_S} {M : qm} {i1 : Int32} {qi1 : Int} {i2 : Int32} {qi2 : Int} {t1 : Int32} {qt1 : Int} (hS : Sh L xs P S) (hM : qM P S = M) (ei1 : i1.toInt = qi1) (ei2 : i2.toInt = qi2) (et1 : t1.toInt = qt1) : qs (zf_X18_card_J24 20000 2156 i1 i2 2156 t1 S) (qf_X18_card_J24 20000 qi1 qi2 qt1 M) (tO (rr L xs P vi)) := by
  unfold zf_X18_card_J24 qf_X18_card_J24
  refine qs_gi hS hM pl_2156 ts_2156 (z := 1) rfl rfl (fun v4057 h4057 => ?_)
  refine qs_ite (c_eq h4057 k_0) ?_ ?_
  · exact (qz_X18_card_J44 hS hM ei1 ei2 et1)
  · refine qs_gi hS hM pl_2156 ts_2156 (z := 36) rfl rfl (fun v4058 h4058 => ?_)
    refine qs_ite (c_le k_60 h4058) ?_ ?_
    · exact (qz_X18_card_J44 hS hM ei1 ei2 et1)
    · exact (qz_X18_card_J45 hS hM ei1 ei2 et1 k_1)
set_option maxRecDepth 20000 in
theorem qz_X18_card_J23 {P : Nat → Nat} {S : zm_S} {M : qm} {i1 : Int32} {qi1 : Int} {i2 : Int32} {qi2 : Int} (hS : Sh L xs P S) (hM : qM P S = M) (ei1 : i1.toInt = qi1) (ei2 : i2.toInt = qi2) : qs (zf_X18_card_J23 20000 2156 i1 i2 2156 S) (qf_X18_card_J23 20000 qi1 qi2 M) (tO (rr L xs P vi)) := by
  unfold zf_X18_card_J23 qf_X18_card_J23
  exact (qz_X18_card_J24 hS hM ei1 ei2 k_0)
set_option maxRecDepth 20000 in
theorem qz_X18_isMinute {P : Nat → Nat} {S : zm_S} {M : qm} {i0 : Int32} {qi0 : Int} (hS : Sh L xs P S) (hM : qM P S = M) (ei0 : i0.toInt = qi0) : qs (zf_X18_isMinute 20000 i0 S) (qf_X18_isMinute 20000 qi0 M) (tO (rp L xs P M vi)) := by
  unfold zf_X18_isMinute qf_X18_isMinute
  refine qs_ite (c_lt ei0 k_0) ?_ ?_
  · exact qs_tp (show vi _ _ from k_0) hS hM
  · refine qs_ite (c_lt k_1000000 ei0) ?_ ?_
    · exact qs_tp (show vi _ _ from k_0) hS hM
    · exact qs_tp (show vi _ _ from k_1) hS hM
set_option maxRecDepth 20000 in
theorem qz_X18_card {P : Nat → Nat} {S : zm_S} {M : qm} {i1 : Int32} {qi1 : Int} {i2 : Int32} {qi2 : Int} (hS : Sh L xs P S) (hM : qM P S = M) (ei1 : i1.toInt = qi1) (ei2 : i2.toInt = qi2) : qs (zf_X18_card 20000 2156 i1 i2 S) (qf_X18_card 20000 qi1 qi2 M) (tO (rr L xs P vi)) := by
  unfold zf_X18_card qf_X18_card
  refine qs_gi hS hM pl_2156 ts_2156 (z := 27) rfl rfl (fun v4059 h4059 => ?_)
  refine qs_bp (qz_X18_isIn hS hM ei1 h4059) (fun v4060 S4060 w4060 h4060 hS4060 hM4060 => ?_)
  refine qs_ite (c_eq h4060 k_0) ?_ ?_
  · exact (qz_X18_card_J23 hS4060 hM4060 ei1 ei2)
  · refine qs_bp (qz_X18_isMinute hS4060 hM4060 ei2) (fun v4061 S4061 w4061 h4061 hS4061 hM4061 => ?_)
    refine qs_ite (c_eq h4061 k_0) ?_ ?_
    · exact (qz_X18_card_J23 hS4061 hM4061 ei1 ei2)
    · exact (qz_X18_card_J24 hS4061 hM4061 ei1 ei2 k_1)
set_option maxRecDepth 20000 in
theorem qz_X0_addRight {P : Nat → Nat} {S : zm_S} {M : qm} {i1 : Int32} {qi1 : Int} {i2 : Int32} {qi2 : Int} {i3 : Int32} {qi3 : Int} {i4 : Int32} {qi4 : Int} {i5 : Int32} {qi5 : Int} (hS : Sh L xs P S) (hM : qM P S = M) (ei1 : i1.toInt = qi1) (ei2 : i2.toInt = qi2) (ei3 : i3.toInt = qi3) (ei4 : i4.toInt = qi4) (ei5 : i5.toInt = qi5) : qs (zf_X0_addRight 20000 824 i1 i2 i3 i4 i5 S) (qf_X0_addRight 20000 qi1 qi2 qi3 qi4 qi5 M) (tO (rr L xs P vi)) := by
  unfold zf_X0_addRight qf_X0_addRight
  refine qs_gi hS hM pl_824 ts_824 (z := 10) rfl rfl (fun v4062 h4062 => ?_)
  refine qs_ite (c_lt h4062 k_16) ?_ ?_
  · refine qs_gr hS pl_824 ts_824 rfl ?_
    refine qs_gi hS hM pl_824 ts_824 (z := 10) rfl rfl (fun v4064 h4064 => ?_)
    refine qs_gd (fun g4066 => ?_)
    refine qs_xt hS pl_889 ts_889 (Or.inl rfl) h4064 g4066 (fun b4065 r4065 => ?_)
    refine qs_ysi hS hM qt_889 tq_889 r4065 k_0 (by decide) ei1 (fun S4067 M4067 hS4067 hM4067 => ?_)
    refine qs_ysi hS4067 hM4067 qt_889 tq_889 r4065 k_1 (by decide) ei2 (fun S4068 M4068 hS4068 hM4068 => ?_)
    refine qs_ysi hS4068 hM4068 qt_889 tq_889 r4065 k_2 (by decide) ei3 (fun S4069 M4069 hS4069 hM4069 => ?_)
    refine qs_ysi hS4069 hM4069 qt_889 tq_889 r4065 k_3 (by decide) ei4 (fun S4070 M4070 hS4070 hM4070 => ?_)
    refine qs_ysi hS4070 hM4070 qt_889 tq_889 r4065 k_4 (by decide) ei5 (fun S4071 M4071 hS4071 hM4071 => ?_)
    refine qs_gi hS4071 hM4071 pl_824 ts_824 (z := 12) rfl rfl (fun v4072 h4072 => ?_)
    refine qs_ysi hS4071 hM4071 qt_889 tq_889 r4065 k_5 (by decide) h4072 (fun S4073 M4073 hS4073 hM4073 => ?_)
    refine qs_gi hS4073 hM4073 pl_824 ts_824 (z := 12) rfl rfl (fun v4074 h4074 => ?_)
    refine qs_pi hS4073 hM4073 pl_824 ts_824 (z := 12) rfl rfl (p_add h4074 k_1) (fun S4075 M4075 hS4075 hM4075 => ?_)
    refine qs_gi hS4075 hM4075 pl_824 ts_824 (z := 10) rfl rfl (fun v4076 h4076 => ?_)
    refine qs_pi hS4075 hM4075 pl_824 ts_824 (z := 10) rfl rfl (p_add h4076 k_1) (fun S4077 M4077 hS4077 hM4077 => ?_)
    refine qs_gi hS4077 hM4077 pl_824 ts_824 (z := 10) rfl rfl (fun v4078 h4078 => ?_)
    exact qs_tr (show vi _ _ from (p_sub h4078 k_1)) hS4077 hM4077
  · exact qs_tr (show vi _ _ from k_m1) hS hM
set_option maxRecDepth 20000 in
theorem qz_X11_right_J94 {P : Nat → Nat} {S : zm_S} {M : qm} {i1 : Int32} {qi1 : Int} {i2 : Int32} {qi2 : Int} {i3 : Int32} {qi3 : Int} {i4 : Int32} {qi4 : Int} {i5 : Int32} {qi5 : Int} {t0 : Int32} {qt0 : Int} (hS : Sh L xs P S) (hM : qM P S = M) (ei1 : i1.toInt = qi1) (ei2 : i2.toInt = qi2) (ei3 : i3.toInt = qi3) (ei4 : i4.toInt = qi4) (ei5 : i5.toInt = qi5) (et0 : t0.toInt = qt0) : qs (zf_X11_right_J94 20000 6 i1 i2 i3 i4 i5 t0 S) (qf_X11_right_J94 20000 qi1 qi2 qi3 qi4 qi5 qt0 M) (tO (rr L xs P (vs vi ve))) := by
  unfold zf_X11_right_J94 qf_X11_right_J94
  refine qs_xp (qz_X11_needState hS hM et0) ?_ ?_
  · intro v4080 S4080 w4080 h4080 hS4080 hM4080
    dsimp only
    refine qs_gr hS4080 pl_6 ts_6 rfl ?_
    refine qs_zi hS4080 pl_824 ts_824 ?_
    refine qs_b (qz_X0_addRight hS4080 hM4080 ei1 ei2 ei3 ei4 ei5) (fun v4083 S4083 w4083 M4083 h4083 hS4083 hM4083 => ?_)
    exact qs_tr (show (vs vi ve) _ _ from h4083) hS4083 hM4083
  · intro v4080 S4080 hS4080 hM4080
    dsimp only
    exact qs_tr (show (vs vi ve) _ _ from rfl) hS4080 hM4080
set_option maxRecDepth 20000 in
theorem qz_X11_right_J93 {P : Nat → Nat} {S : zm_S} {M : qm} {i1 : Int32} {qi1 : Int} {i2 : Int32} {qi2 : Int} {i3 : Int32} {qi3 : Int} {i4 : Int32} {qi4 : Int} {i5 : Int32} {qi5 : Int} (hS : Sh L xs P S) (hM : qM P S = M) (ei1 : i1.toInt = qi1) (ei2 : i2.toInt = qi2) (ei3 : i3.toInt = qi3) (ei4 : i4.toInt = qi4) (ei5 : i5.toInt = qi5) : qs (zf_X11_right_J93 20000 6 i1 i2 i3 i4 i5 S) (qf_X11_right_J93 20000 qi1 qi2 qi3 qi4 qi5 M) (tO (rr L xs P (vs vi ve))) := by
  unfold zf_X11_right_J93 qf_X11_right_J93
  exact (qz_X11_right_J94 hS hM ei1 ei2 ei3 ei4 ei5 k_0)
set_option maxRecDepth 20000 in
theorem qz_X11_right_J67 {P : Nat → Nat} {S : zm_S} {M : qm} {i1 : Int32} {qi1 : Int} {i2 : Int32} {qi2 : Int} {i3 : Int32} {qi3 : Int} {i4 : Int32} {qi4 : Int} {i5 : Int32} {qi5 : Int} {t0 : Int32} {qt0 : Int} (hS : Sh L xs P S) (hM : qM P S = M) (ei1 : i1.toInt = qi1) (ei2 : i2.toInt = qi2) (ei3 : i3.toInt = qi3) (ei4 : i4.toInt = qi4) (ei5 : i5.toInt = qi5) (et0 : t0.toInt = qt0) : qs (zf_X11_right_J67 20000 6 i1 i2 i3 i4 i5 t0 S) (qf_X11_right_J67 20000 qi1 qi2 qi3 qi4 qi5 qt0 M) (tO (rr L xs P (vs vi ve))) := by
  unfold zf_X11_right_J67 qf_X11_right_J67
  refine qs_xp (qz_X11_needArgument hS hM et0) ?_ ?_
  · intro v4085 S4085 w4085 h4085 hS4085 hM4085
    dsimp only
    refine qs_gi hS4085 hM4085 pl_6 ts_6 (z := 11) rfl rfl (fun v4086 h4086 => ?_)
    refine qs_ite (c_eq h4086 k_0) ?_ ?_
    · exact (qz_X11_right_J93 hS4085 hM4085 ei1 ei2 ei3 ei4 ei5)
    · refine qs_gr hS4085 pl_6 ts_6 rfl ?_
      refine qs_gi hS4085 hM4085 pl_824 ts_824 (z := 10) rfl rfl (fun v4088 h4088 => ?_)
      refine qs_ite (c_le k_16 h4088) ?_ ?_
      · exact (qz_X11_right_J93 hS4085 hM4085 ei1 ei2 ei3 ei4 ei5)
      · exact (qz_X11_right_J94 hS4085 hM4085 ei1 ei2 ei3 ei4 ei5 k_1)
  · intro v4085 S4085 hS4085 hM4085
    dsimp only
    exact qs_tr (show (vs vi ve) _ _ from rfl) hS4085 hM4085
set_option maxRecDepth 20000 in
theorem qz_X11_right_J66 {P : Nat → Nat} {S : zm_S} {M : qm} {i1 : Int32} {qi1 : Int} {i2 : Int32} {qi2 : Int} {i3 : Int32} {qi3 : Int} {i4 : Int32} {qi4 : Int} {i5 : Int32} {qi5 : Int} (hS : Sh L xs P S) (hM : qM P S = M) (ei1 : i1.toInt = qi1) (ei2 : i2.toInt = qi2) (ei3 : i3.toInt = qi3) (ei4 : i4.toInt = qi4) (ei5 : i5.toInt = qi5) : qs (zf_X11_right_J66 20000 6 i1 i2 i3 i4 i5 S) (qf_X11_right_J66 20000 qi1 qi2 qi3 qi4 qi5 M) (tO (rr L xs P (vs vi ve))) := by
  unfold zf_X11_right_J66 qf_X11_right_J66
  exact (qz_X11_right_J67 hS hM ei1 ei2 ei3 ei4 ei5 k_0)
set_option maxRecDepth 20000 in
theorem qz_X11_right_J36 {P : Nat → Nat} {S : zm_S} {M : qm} {i1 : Int32} {qi1 : Int} {i2 : Int32} {qi2 : Int} {i3 : Int32} {qi3 : Int} {i4 : Int32} {qi4 : Int} {i5 : Int32} {qi5 : Int} {t0 : Int32} {qt0 : Int} (hS : Sh L xs P S) (hM : qM P S = M) (ei1 : i1.toInt = qi1) (ei2 : i2.toInt = qi2) (ei3 : i3.toInt = qi3) (ei4 : i4.toInt = qi4) (ei5 : i5.toInt = qi5) (et0 : t0.toInt = qt0) : qs (zf_X11_right_J36 20000 6 i1 i2 i3 i4 i5 t0 S) (qf_X11_right_J36 20000 qi1 qi2 qi3 qi4 qi5 qt0 M) (tO (rr L xs P (vs vi ve))) := by
  unfold zf_X11_right_J36 qf_X11_right_J36
  refine qs_xp (qz_X11_needArgument hS hM et0) ?_ ?_
  · intro v4090 S4090 w4090 h4090 hS4090 hM4090
    dsimp only
    refine qs_bp (qz_X11_isWithin hS4090 hM4090 ei3 k_0 k_1439) (fun v4091 S4091 w4091 h4091 hS4091 hM4091 => ?_)
    refine qs_ite (c_eq h4091 k_0) ?_ ?_
    · exact (qz_X11_right_J66 hS4091 hM4091 ei1 ei2 ei3 ei4 ei5)
    · refine qs_bp (qz_X11_isWithin hS4091 hM4091 ei4 k_0 k_1439) (fun v4092 S4092 w4092 h4092 hS4092 hM4092 => ?_)
      refine qs_ite (c_eq h4092 k_0) ?_ ?_
      · exact (qz_X11_right_J66 hS4092 hM4092 ei1 ei2 ei3 ei4 ei5)
      · exact (qz_X11_right_J67 hS4092 hM4092 ei1 ei2 ei3 ei4 ei5 k_1)
  · intro v4090 S4090 hS4090 hM4090
    dsimp only
    exact qs_tr (show (vs vi ve) _ _ from rfl) hS4090 hM4090
set_option maxRecDepth 20000 in
theorem qz_X11_right_J35 {P : Nat → Nat} {S : zm_S} {M : qm} {i1 : Int32} {qi1 : Int} {i2 : Int32} {qi2 : Int} {i3 : Int32} {qi3 : Int} {i4 : Int32} {qi4 : Int} {i5 : Int32} {qi5 : Int} (hS : Sh L xs P S) (hM : qM P S = M) (ei1 : i1.toInt = qi1) (ei2 : i2.toInt = qi2) (ei3 : i3.toInt = qi3) (ei4 : i4.toInt = qi4) (ei5 : i5.toInt = qi5) : qs (zf_X11_right_J35 20000 6 i1 i2 i3 i4 i5 S) (qf_X11_right_J35 20000 qi1 qi2 qi3 qi4 qi5 M) (tO (rr L xs P (vs vi ve))) := by
  unfold zf_X11_right_J35 qf_X11_right_J35
  exact (qz_X11_right_J36 hS hM ei1 ei2 ei3 ei4 ei5 k_0)
set_option maxRecDepth 20000 in
theorem qz_X11_right {P : Nat → Nat} {S : zm_S} {M : qm} {i1 : Int32} {qi1 : Int} {i2 : Int32} {qi2 : Int} {i3 : Int32} {qi3 : Int} {i4 : Int32} {qi4 : Int} {i5 : Int32} {qi5 : Int} (hS : Sh L xs P S) (hM : qM P S = M) (ei1 : i1.toInt = qi1) (ei2 : i2.toInt = qi2) (ei3 : i3.toInt = qi3) (ei4 : i4.toInt = qi4) (ei5 : i5.toInt = qi5) : qs (zf_X11_right 20000 6 i1 i2 i3 i4 i5 S) (qf_X11_right 20000 qi1 qi2 qi3 qi4 qi5 M) (tO (rr L xs P (vs vi ve))) := by
  unfold zf_X11_right qf_X11_right
  refine qs_bp (qz_X11_isWithin hS hM ei1 k_0 k_9) (fun v4093 S4093 w4093 h4093 hS4093 hM4093 => ?_)
  refine qs_ite (c_eq h4093 k_0) ?_ ?_
  · exact (qz_X11_right_J35 hS4093 hM4093 ei1 ei2 ei3 ei4 ei5)
  · refine qs_bp (qz_X11_isWithin hS4093 hM4093 ei2 k_0 k_9) (fun v4094 S4094 w4094 h4094 hS4094 hM4094 => ?_)
    refine qs_ite (c_eq h4094 k_0) ?_ ?_
    · exact (qz_X11_right_J35 hS4094 hM4094 ei1 ei2 ei3 ei4 ei5)
    · refine qs_bp (qz_X11_isWithin hS4094 hM4094 ei5 k_0 k_1000000) (fun v4095 S4095 w4095 h4095 hS4095 hM4095 => ?_)
      refine qs_ite (c_eq h4095 k_0) ?_ ?_
      · exact (qz_X11_right_J35 hS4095 hM4095 ei1 ei2 ei3 ei4 ei5)
      · exact (qz_X11_right_J36 hS4095 hM4095 ei1 ei2 ei3 ei4 ei5 k_1)
set_option maxRecDepth 20000 in
theorem qz_L_right {P : Nat → Nat} {S : zm_S} {M : qm} {i1 : Int32} {qi1 : Int} {i2 : Int32} {qi2 : Int} {i3 : Int32} {qi3 : Int} {i4 : Int32} {qi4 : Int} {i5 : Int32} {qi5 : Int} (hS : Sh L xs P S) (hM : qM P S = M) (ei1 : i1.toInt = qi1) (ei2 : i2.toInt = qi2) (ei3 : i3.toInt = qi3) (ei4 : i4.toInt = qi4) (ei5 : i5.toInt = qi5) : qs (zf_L_right 20000 6 i1 i2 i3 i4 i5 2332 S) (qf_L_right 20000 qi1 qi2 qi3 qi4 qi5 M) (tO (rr L xs P vi)) := by
  unfold zf_L_right qf_L_right
  refine qs_zi hS pl_6 ts_6 ?_
  refine qs_xr (qz_X11_right hS hM ei1 ei2 ei3 ei4 ei5) ?_ ?_
  · intro v4098 S4098 w4098 M4098 h4098 hS4098 hM4098
    dsimp only
    refine qs_sl hS4098 hM4098 (pa_p hS4098 pl_2332 ts_2332) k_0 (by decide) (p_64 h4098) (fun S4099 M4099 hS4099 hM4099 => ?_)
    exact qs_tr (show vi _ _ from k_0) hS4099 hM4099
  · intro v4098 S4098 M4098 hS4098 hM4098
    dsimp only
    refine qs_ite Iff.rfl ?_ ?_
    · exact qs_tr (show vi _ _ from k_1) hS4098 hM4098
    · refine qs_ite Iff.rfl ?_ ?_
      · exact qs_tr (show vi _ _ from k_2) hS4098 hM4098
      · exact qs_none
set_option maxRecDepth 20000 in
theorem qz_X18_right_J78 {P : Nat → Nat} {S : zm_S} {M : qm} {i1 : Int32} {qi1 : Int} {i2 : Int32} {qi2 : Int} {i3 : Int32} {qi3 : Int} {i4 : Int32} {qi4 : Int} {i5 : Int32} {qi5 : Int} {t1 : Int32} {qt1 : Int} {t2 : Int32} {qt2 : Int} (hS : Sh L xs P S) (hM : qM P S = M) (ei1 : i1.toInt = qi1) (ei2 : i2.toInt = qi2) (ei3 : i3.toInt = qi3) (ei4 : i4.toInt = qi4) (ei5 : i5.toInt = qi5) (et1 : t1.toInt = qt1) (et2 : t2.toInt = qt2) : qs (zf_X18_right_J78 20000 2156 i1 i2 i3 i4 i5 2156 t1 t2 S) (qf_X18_right_J78 20000 qi1 qi2 qi3 qi4 qi5 qt1 qt2 M) (tO (rr L xs P vi)) := by
  unfold zf_X18_right_J78 qf_X18_right_J78
  refine qs_zi hS pl_2156 ts_2156 ?_
  refine qs_b (qz_X18_goes hS hM et1 et2) (fun v4101 S4101 w4101 M4101 h4101 hS4101 hM4101 => ?_)
  refine qs_ite (c_eq h4101 k_0) ?_ ?_
  · exact qs_tr (show vi _ _ from k_0) hS4101 hM4101
  · refine qs_gr hS4101 pl_2156 ts_2156 rfl ?_
    refine qs_gi hS4101 hM4101 pl_2156 ts_2156 (z := 39) rfl rfl (fun v4103 h4103 => ?_)
    refine qs_gd (fun g4105 => ?_)
    refine qs_si hS4101 hM4101 (pa_p hS4101 pl_2314 ts_2314) h4103 g4105 ei1 (fun S4104 M4104 hS4104 hM4104 => ?_)
    refine qs_gr hS4104 pl_2156 ts_2156 rfl ?_
    refine qs_gi hS4104 hM4104 pl_2156 ts_2156 (z := 39) rfl rfl (fun v4107 h4107 => ?_)
    refine qs_gd (fun g4109 => ?_)
    refine qs_si hS4104 hM4104 (pa_p hS4104 pl_2315 ts_2315) h4107 g4109 ei2 (fun S4108 M4108 hS4108 hM4108 => ?_)
    refine qs_gr hS4108 pl_2156 ts_2156 rfl ?_
    refine qs_gi hS4108 hM4108 pl_2156 ts_2156 (z := 39) rfl rfl (fun v4111 h4111 => ?_)
    refine qs_gd (fun g4113 => ?_)
    refine qs_si hS4108 hM4108 (pa_p hS4108 pl_2316 ts_2316) h4111 g4113 ei3 (fun S4112 M4112 hS4112 hM4112 => ?_)
    refine qs_gr hS4112 pl_2156 ts_2156 rfl ?_
    refine qs_gi hS4112 hM4112 pl_2156 ts_2156 (z := 39) rfl rfl (fun v4115 h4115 => ?_)
    refine qs_gd (fun g4117 => ?_)
    refine qs_si hS4112 hM4112 (pa_p hS4112 pl_2317 ts_2317) h4115 g4117 ei4 (fun S4116 M4116 hS4116 hM4116 => ?_)
    refine qs_gr hS4116 pl_2156 ts_2156 rfl ?_
    refine qs_gi hS4116 hM4116 pl_2156 ts_2156 (z := 39) rfl rfl (fun v4119 h4119 => ?_)
    refine qs_gd (fun g4121 => ?_)
    refine qs_si hS4116 hM4116 (pa_p hS4116 pl_2318 ts_2318) h4119 g4121 ei5 (fun S4120 M4120 hS4120 hM4120 => ?_)
    refine qs_gi hS4120 hM4120 pl_2156 ts_2156 (z := 39) rfl rfl (fun v4122 h4122 => ?_)
    refine qs_zi hS4120 pl_2156 ts_2156 ?_
    refine qs_b (qz_X18_tell hS4120 hM4120 k_1 h4122 ei5) (fun v4124 S4124 w4124 M4124 h4124 hS4124 hM4124 => ?_)
    refine qs_gi hS4124 hM4124 pl_2156 ts_2156 (z := 39) rfl rfl (fun v4125 h4125 => ?_)
    refine qs_pi hS4124 hM4124 pl_2156 ts_2156 (z := 39) rfl rfl (p_add h4125 k_1) (fun S4126 M4126 hS4126 hM4126 => ?_)
    refine qs_gi hS4126 hM4126 pl_2156 ts_2156 (z := 39) rfl rfl (fun v4127 h4127 => ?_)
    exact qs_tr (show vi _ _ from (p_sub h4127 k_1)) hS4126 hM4126
set_option maxRecDepth 20000 in
theorem qz_X18_right_J77 {P : Nat → Nat} {S : zm_S} {M : qm} {i1 : Int32} {qi1 : Int} {i2 : Int32} {qi2 : Int} {i3 : Int32} {qi3 : Int} {i4 : Int32} {qi4 : Int} {i5 : Int32} {qi5 : Int} {t1 : Int32} {qt1 : Int} (hS : Sh L xs P S) (hM : qM P S = M) (ei1 : i1.toInt = qi1) (ei2 : i2.toInt = qi2) (ei3 : i3.toInt = qi3) (ei4 : i4.toInt = qi4) (ei5 : i5.toInt = qi5) (et1 : t1.toInt = qt1) : qs (zf_X18_right_J77 20000 2156 i1 i2 i3 i4 i5 2156 t1 S) (qf_X18_right_J77 20000 qi1 qi2 qi3 qi4 qi5 qt1 M) (tO (rr L xs P vi)) := by
  unfold zf_X18_right_J77 qf_X18_right_J77
  exact (qz_X18_right_J78 hS hM ei1 ei2 ei3 ei4 ei5 et1 k_0)
set_option maxRecDepth 20000 in
theorem qz_X18_right_J52 {P : Nat → Nat} {S : zm_S} {M : qm} {i1 : Int32} {qi1 : Int} {i2 : Int32} {qi2 : Int} {i3 : Int32} {qi3 : Int} {i4 : Int32} {qi4 : Int} {i5 : Int32} {qi5 : Int} {t0 : Int32} {qt0 : Int} (hS : Sh L xs P S) (hM : qM P S = M) (ei1 : i1.toInt = qi1) (ei2 : i2.toInt = qi2) (ei3 : i3.toInt = qi3) (ei4 : i4.toInt = qi4) (ei5 : i5.toInt = qi5) (et0 : t0.toInt = qt0) : qs (zf_X18_right_J52 20000 2156 i1 i2 i3 i4 i5 t0 S) (qf_X18_right_J52 20000 qi1 qi2 qi3 qi4 qi5 qt0 M) (tO (rr L xs P vi)) := by
  unfold zf_X18_right_J52 qf_X18_right_J52
  refine qs_gi hS hM pl_2156 ts_2156 (z := 1) rfl rfl (fun v4128 h4128 => ?_)
  refine qs_ite (c_eq h4128 k_0) ?_ ?_
  · exact (qz_X18_right_J77 hS hM ei1 ei2 ei3 ei4 ei5 et0)
  · refine qs_gi hS hM pl_2156 ts_2156 (z := 39) rfl rfl (fun v4129 h4129 => ?_)
    refine qs_ite (c_le k_16 h4129) ?_ ?_
    · exact (qz_X18_right_J77 hS hM ei1 ei2 ei3 ei4 ei5 et0)
    · exact (qz_X18_right_J78 hS hM ei1 ei2 ei3 ei4 ei5 et0 k_1)
set_option maxRecDepth 20000 in
theorem qz_X18_right_J51 {P : Nat → Nat} {S : zm_S} {M : qm} {i1 : Int32} {qi1 : Int} {i2 : Int32} {qi2 : Int} {i3 : Int32} {qi3 : Int} {i4 : Int32} {qi4 : Int} {i5 : Int32} {qi5 : Int} (hS : Sh L xs P S) (hM : qM P S = M) (ei1 : i1.toInt = qi1) (ei2 : i2.toInt = qi2) (ei3 : i3.toInt = qi3) (ei4 : i4.toInt = qi4) (ei5 : i5.toInt = qi5) : qs (zf_X18_right_J51 20000 2156 i1 i2 i3 i4 i5 S) (qf_X18_right_J51 20000 qi1 qi2 qi3 qi4 qi5 M) (tO (rr L xs P vi)) := by
  unfold zf_X18_right_J51 qf_X18_right_J51
  exact (qz_X18_right_J52 hS hM ei1 ei2 ei3 ei4 ei5 k_0)
set_option maxRecDepth 20000 in
theorem qz_X18_right {P : Nat → Nat} {S : zm_S} {M : qm} {i1 : Int32} {qi1 : Int} {i2 : Int32} {qi2 : Int} {i3 : Int32} {qi3 : Int} {i4 : Int32} {qi4 : Int} {i5 : Int32} {qi5 : Int} (hS : Sh L xs P S) (hM : qM P S = M) (ei1 : i1.toInt = qi1) (ei2 : i2.toInt = qi2) (ei3 : i3.toInt = qi3) (ei4 : i4.toInt = qi4) (ei5 : i5.toInt = qi5) : qs (zf_X18_right 20000 2156 i1 i2 i3 i4 i5 S) (qf_X18_right 20000 qi1 qi2 qi3 qi4 qi5 M) (tO (rr L xs P vi)) := by
  unfold zf_X18_right qf_X18_right
  refine qs_bp (qz_X18_isIn hS hM ei1 k_10) (fun v4130 S4130 w4130 h4130 hS4130 hM4130 => ?_)
  refine qs_ite (c_eq h4130 k_0) ?_ ?_
  · exact (qz_X18_right_J51 hS4130 hM4130 ei1 ei2 ei3 ei4 ei5)
  · refine qs_bp (qz_X18_isIn hS4130 hM4130 ei2 k_10) (fun v4131 S4131 w4131 h4131 hS4131 hM4131 => ?_)
    refine qs_ite (c_eq h4131 k_0) ?_ ?_
    · exact (qz_X18_right_J51 hS4131 hM4131 ei1 ei2 ei3 ei4 ei5)
    · refine qs_bp (qz_X18_isIn hS4131 hM4131 ei3 k_1440) (fun v4132 S4132 w4132 h4132 hS4132 hM4132 => ?_)
      refine qs_ite (c_eq h4132 k_0) ?_ ?_
      · exact (qz_X18_right_J51 hS4132 hM4132 ei1 ei2 ei3 ei4 ei5)
      · refine qs_bp (qz_X18_isIn hS4132 hM4132 ei4 k_1440) (fun v4133 S4133 w4133 h4133 hS4133 hM4133 => ?_)
        refine qs_ite (c_eq h4133 k_0) ?_ ?_
        · exact (qz_X18_right_J51 hS4133 hM4133 ei1 ei2 ei3 ei4 ei5)
        · refine qs_bp (qz_X18_isMinute hS4133 hM4133 ei5) (fun v4134 S4134 w4134 h4134 hS4134 hM4134 => ?_)
          refine qs_ite (c_eq h4134 k_0) ?_ ?_
          · exact (qz_X18_right_J51 hS4134 hM4134 ei1 ei2 ei3 ei4 ei5)
          · exact (qz_X18_right_J52 hS4134 hM4134 ei1 ei2 ei3 ei4 ei5 k_1)
set_option maxRecDepth 20000 in
theorem qz_X0_latestNote_L7_b (n : Nat) {P : Nat → Nat} {S : zm_S} {M : qm} {i1 : Int32} {qi1 : Int} {i2 : Int32} {qi2 : Int} {i3 : Int32} {qi3 : Int} (hS : Sh L xs P S) (hM : qM P S = M) (ei1 : i1.toInt = qi1) (ei2 : i2.toInt = qi2) (ei3 : i3.toInt = qi3) : qs (zf_X0_latestNote_L7 20000 (n + 1) 824 i1 i2 i3 S) (qf_X0_latestNote_L7_b 20000 qi1 qi2 qi3 M) (tk (vs (rp L xs P M vi) (rp L xs P M vu)) (qc_X0_latestNote_L7 L xs P M (zf_X0_latestNote_L7 20000 n))) := by
  refine qs_eq (zf_X0_latestNote_L7.eq_2 ..) ?_
  unfold qf_X0_latestNote_L7_b
  refine qs_ite (c_lt ei3 k_0) ?_ ?_
  · exact qs_tp2 (show vu _ _ from trivial) hS hM
  · refine qs_gr hS pl_824 ts_824 rfl ?_
    refine qs_gd (fun g4137 => ?_)
    refine qs_xi hM (pa_p hS pl_906 ts_906) (p_mul k_3 ei3) g4137 (fun v4136 h4136 => ?_)
    refine qs_ite (c_eq h4136 ei1) ?_ ?_
    · refine qs_gr hS pl_824 ts_824 rfl ?_
      refine qs_gd (fun g4140 => ?_)
      refine qs_xi hM (pa_p hS pl_906 ts_906) (p_add (p_mul k_3 ei3) k_2) g4140 (fun v4139 h4139 => ?_)
      refine qs_ite (c_le ei2 h4139) ?_ ?_
      · exact qs_tk ⟨_, _, _, _, rfl, ei1, ei2, (p_addm ei3 k_m1), hS, hM⟩
      · refine qs_gr hS pl_824 ts_824 rfl ?_
        refine qs_gd (fun g4143 => ?_)
        refine qs_xi hM (pa_p hS pl_906 ts_906) (p_add (p_mul k_3 ei3) k_1) g4143 (fun v4142 h4142 => ?_)
        exact qs_tp1 (show vi _ _ from h4142) hS hM
    · exact qs_tk ⟨_, _, _, _, rfl, ei1, ei2, (p_addm ei3 k_m1), hS, hM⟩
theorem qz_X0_latestNote_L7 (n : Nat) : ∀ {P : Nat → Nat} {S : zm_S} {M : qm} {i1 : Int32} {qi1 : Int} {i2 : Int32} {qi2 : Int} {i3 : Int32} {qi3 : Int} (hS : Sh L xs P S) (hM : qM P S = M) (ei1 : i1.toInt = qi1) (ei2 : i2.toInt = qi2) (ei3 : i3.toInt = qi3), qs (zf_X0_latestNote_L7 20000 n 824 i1 i2 i3 S) (qf_X0_latestNote_L7 20000 n qi1 qi2 qi3 M) (tO (vs (rp L xs P M vi) (rp L xs P M vu))) := by
  induction n with
  | zero =>
    intros
    exact qs_none
  | succ n ih =>
    intro P S M i1 qi1 i2 qi2 i3 qi3 hS hM ei1 ei2 ei3
    unfold qf_X0_latestNote_L7
    refine qs_loop (C := (qc_X0_latestNote_L7 L xs P M (zf_X0_latestNote_L7 20000 n))) (qz_X0_latestNote_L7_b n hS hM ei1 ei2 ei3) ?_
    rintro x s ⟨_, _, _, _, rfl, u0, u1, u2, hS2, hM2⟩
    exact ih hS2 hM2 u0 u1 u2
set_option maxRecDepth 20000 in
theorem qz_X0_latestNote {P : Nat → Nat} {S : zm_S} {M : qm} {i1 : Int32} {qi1 : Int} {i2 : Int32} {qi2 : Int} (hS : Sh L xs P S) (hM : qM P S = M) (ei1 : i1.toInt = qi1) (ei2 : i2.toInt = qi2) : qs (zf_X0_latestNote 20000 824 i1 i2 S) (qf_X0_latestNote 20000 qi1 qi2 M) (tO (rp L xs P M vi)) := by
  unfold zf_X0_latestNote qf_X0_latestNote
  refine qs_gi hS hM pl_824 ts_824 (z := 13) rfl rfl (fun v4144 h4144 => ?_)
  refine qs_lp (qz_X0_latestNote_L7 20000 hS hM ei1 ei2 (p_sub h4144 k_1)) ?_ ?_
  · intro v4146 S4146 w4146 h4146 hS4146 hM4146
    dsimp only
    exact qs_tp h4146 hS4146 hM4146
  · intro v4146 S4146 w4146 h4146 hS4146 hM4146
    dsimp only
    exact qs_tp (show vi _ _ from k_m1) hS4146 hM4146
set_option maxRecDepth 20000 in
theorem qz_X0_note_J73 {P : Nat → Nat} {S : zm_S} {M : qm} {i3 : Int32} {qi3 : Int} (hS : Sh L xs P S) (hM : qM P S = M) (ei3 : i3.toInt = qi3) : qs (zf_X0_note_J73 20000 824 i3 S) (qf_X0_note_J73 20000 qi3 M) (tO (rr L xs P vi)) := by
  unfold zf_X0_note_J73 qf_X0_note_J73
  refine qs_gi hS hM pl_824 ts_824 (z := 12) rfl rfl (fun v4147 h4147 => ?_)
  refine qs_pi hS hM pl_824 ts_824 (z := 12) rfl rfl (p_add h4147 k_1) (fun S4148 M4148 hS4148 hM4148 => ?_)
  exact qs_tr (show vi _ _ from ei3) hS4148 hM4148
set_option maxRecDepth 20000 in
theorem qz_X0_note {P : Nat → Nat} {S : zm_S} {M : qm} {i1 : Int32} {qi1 : Int} {i2 : Int32} {qi2 : Int} (hS : Sh L xs P S) (hM : qM P S = M) (ei1 : i1.toInt = qi1) (ei2 : i2.toInt = qi2) : qs (zf_X0_note 20000 824 i1 i2 S) (qf_X0_note 20000 qi1 qi2 M) (tO (rr L xs P vi)) := by
  unfold zf_X0_note qf_X0_note
  refine qs_gi hS hM pl_824 ts_824 (z := 12) rfl rfl (fun v4149 h4149 => ?_)
  refine qs_zi hS pl_824 ts_824 ?_
  refine qs_bp (qz_X0_latestNote hS hM ei1 h4149) (fun v4151 S4151 w4151 h4151 hS4151 hM4151 => ?_)
  refine qs_gi hS4151 hM4151 pl_824 ts_824 (z := 13) rfl rfl (fun v4152 h4152 => ?_)
  refine qs_ite (c_le k_512 h4152) ?_ ?_
  · exact (qz_X0_note_J73 hS4151 hM4151 h4151)
  · refine qs_gr hS4151 pl_824 ts_824 rfl ?_
    refine qs_gi hS4151 hM4151 pl_824 ts_824 (z := 13) rfl rfl (fun v4154 h4154 => ?_)
    refine qs_gd (fun g4156 => ?_)
    refine qs_si hS4151 hM4151 (pa_p hS4151 pl_906 ts_906) (p_mul k_3 h4154) g4156 ei1 (fun S4155 M4155 hS4155 hM4155 => ?_)
    refine qs_gr hS4155 pl_824 ts_824 rfl ?_
    refine qs_gi hS4155 hM4155 pl_824 ts_824 (z := 13) rfl rfl (fun v4158 h4158 => ?_)
    refine qs_gd (fun g4160 => ?_)
    refine qs_si hS4155 hM4155 (pa_p hS4155 pl_906 ts_906) (p_add (p_mul k_3 h4158) k_1) g4160 ei2 (fun S4159 M4159 hS4159 hM4159 => ?_)
    refine qs_gr hS4159 pl_824 ts_824 rfl ?_
    refine qs_gi hS4159 hM4159 pl_824 ts_824 (z := 13) rfl rfl (fun v4162 h4162 => ?_)
    refine qs_gi hS4159 hM4159 pl_824 ts_824 (z := 12) rfl rfl (fun v4163 h4163 => ?_)
    refine qs_gd (fun g4165 => ?_)
    refine qs_si hS4159 hM4159 (pa_p hS4159 pl_906 ts_906) (p_add (p_mul k_3 h4162) k_2) g4165 h4163 (fun S4164 M4164 hS4164 hM4164 => ?_)
    refine qs_gi hS4164 hM4164 pl_824 ts_824 (z := 13) rfl rfl (fun v4166 h4166 => ?_)
    refine qs_pi hS4164 hM4164 pl_824 ts_824 (z := 13) rfl rfl (p_add h4166 k_1) (fun S4167 M4167 hS4167 hM4167 => ?_)
    exact (qz_X0_note_J73 hS4167 hM4167 h4151)
set_option maxRecDepth 20000 in
theorem qz_X0_tellEnd {P : Nat → Nat} {S : zm_S} {M : qm} {i1 : Int32} {qi1 : Int} {i2 : Int32} {qi2 : Int} (hS : Sh L xs P S) (hM : qM P S = M) (ei1 : i1.toInt = qi1) (ei2 : i2.toInt = qi2) : qs (zf_X0_tellEnd 20000 824 i1 i2 S) (qf_X0_tellEnd 20000 qi1 qi2 M) (tO (rr L xs P vi)) := by
  unfold zf_X0_tellEnd qf_X0_tellEnd
  refine qs_zi hS pl_824 ts_824 ?_
  refine qs_b (qz_X0_note hS hM ei1 ei2) (fun v4169 S4169 w4169 M4169 h4169 hS4169 hM4169 => ?_)
  exact qs_tr (show vi _ _ from h4169) hS4169 hM4169
set_option maxRecDepth 20000 in
theorem qz_X11_end_J32 {P : Nat → Nat} {S : zm_S} {M : qm} {i1 : Int32} {qi1 : Int} {i2 : Int32} {qi2 : Int} {t0 : Int32} {qt0 : Int} (hS : Sh L xs P S) (hM : qM P S = M) (ei1 : i1.toInt = qi1) (ei2 : i2.toInt = qi2) (et0 : t0.toInt = qt0) : qs (zf_X11_end_J32 20000 6 i1 i2 t0 S) (qf_X11_end_J32 20000 qi1 qi2 qt0 M) (tO (rr L xs P (vs vi ve))) := by
  unfold zf_X11_end_J32 qf_X11_end_J32
  refine qs_xp (qz_X11_needArgument hS hM et0) ?_ ?_
  · intro v4171 S4171 w4171 h4171 hS4171 hM4171
    dsimp only
    refine qs_gi hS4171 hM4171 pl_6 ts_6 (z := 11) rfl rfl (fun v4172 h4172 => ?_)
    refine qs_xp (qz_X11_needState hS4171 hM4171 h4172) ?_ ?_
    · intro v4174 S4174 w4174 h4174 hS4174 hM4174
      dsimp only
      refine qs_gr hS4174 pl_6 ts_6 rfl ?_
      refine qs_zi hS4174 pl_824 ts_824 ?_
      refine qs_b (qz_X0_tellEnd hS4174 hM4174 ei1 ei2) (fun v4177 S4177 w4177 M4177 h4177 hS4177 hM4177 => ?_)
      exact qs_tr (show (vs vi ve) _ _ from h4177) hS4177 hM4177
    · intro v4174 S4174 hS4174 hM4174
      dsimp only
      exact qs_tr (show (vs vi ve) _ _ from rfl) hS4174 hM4174
  · intro v4171 S4171 hS4171 hM4171
    dsimp only
    exact qs_tr (show (vs vi ve) _ _ from rfl) hS4171 hM4171
set_option maxRecDepth 20000 in
theorem qz_X11_end_J31 {P : Nat → Nat} {S : zm_S} {M : qm} {i1 : Int32} {qi1 : Int} {i2 : Int32} {qi2 : Int} (hS : Sh L xs P S) (hM : qM P S = M) (ei1 : i1.toInt = qi1) (ei2 : i2.toInt = qi2) : qs (zf_X11_end_J31 20000 6 i1 i2 S) (qf_X11_end_J31 20000 qi1 qi2 M) (tO (rr L xs P (vs vi ve))) := by
  unfold zf_X11_end_J31 qf_X11_end_J31
  exact (qz_X11_end_J32 hS hM ei1 ei2 k_0)
set_option maxRecDepth 20000 in
theorem qz_X11_end {P : Nat → Nat} {S : zm_S} {M : qm} {i1 : Int32} {qi1 : Int} {i2 : Int32} {qi2 : Int} (hS : Sh L xs P S) (hM : qM P S = M) (ei1 : i1.toInt = qi1) (ei2 : i2.toInt = qi2) : qs (zf_X11_end 20000 6 i1 i2 S) (qf_X11_end 20000 qi1 qi2 M) (tO (rr L xs P (vs vi ve))) := by
  unfold zf_X11_end qf_X11_end
  refine qs_gr hS pl_6 ts_6 rfl ?_
  refine qs_gi hS hM pl_824 ts_824 (z := 10) rfl rfl (fun v4179 h4179 => ?_)
  refine qs_bp (qz_X11_isWithin hS hM ei1 k_0 (p_sub h4179 k_1)) (fun v4180 S4180 w4180 h4180 hS4180 hM4180 => ?_)
  refine qs_ite (c_eq h4180 k_0) ?_ ?_
  · exact (qz_X11_end_J31 hS4180 hM4180 ei1 ei2)
  · refine qs_bp (qz_X11_isWithin hS4180 hM4180 ei2 k_0 k_1000000) (fun v4181 S4181 w4181 h4181 hS4181 hM4181 => ?_)
    refine qs_ite (c_eq h4181 k_0) ?_ ?_
    · exact (qz_X11_end_J31 hS4181 hM4181 ei1 ei2)
    · exact (qz_X11_end_J32 hS4181 hM4181 ei1 ei2 k_1)
set_option maxRecDepth 20000 in
theorem qz_L_end {P : Nat → Nat} {S : zm_S} {M : qm} {i1 : Int32} {qi1 : Int} {i2 : Int32} {qi2 : Int} (hS : Sh L xs P S) (hM : qM P S = M) (ei1 : i1.toInt = qi1) (ei2 : i2.toInt = qi2) : qs (zf_L_end 20000 6 i1 i2 2332 S) (qf_L_end 20000 qi1 qi2 M) (tO (rr L xs P vi)) := by
  unfold zf_L_end qf_L_end
  refine qs_zi hS pl_6 ts_6 ?_
  refine qs_xr (qz_X11_end hS hM ei1 ei2) ?_ ?_
  · intro v4184 S4184 w4184 M4184 h4184 hS4184 hM4184
    dsimp only
    refine qs_sl hS4184 hM4184 (pa_p hS4184 pl_2332 ts_2332) k_0 (by decide) (p_64 h4184) (fun S4185 M4185 hS4185 hM4185 => ?_)
    exact qs_tr (show vi _ _ from k_0) hS4185 hM4185
  · intro v4184 S4184 M4184 hS4184 hM4184
    dsimp only
    refine qs_ite Iff.rfl ?_ ?_
    · exact qs_tr (show vi _ _ from k_1) hS4184 hM4184
    · refine qs_ite Iff.rfl ?_ ?_
      · exact qs_tr (show vi _ _ from k_2) hS4184 hM4184
      · exact qs_none
set_option maxRecDepth 20000 in
theorem qz_X18_lastTold_L20_b (n : Nat) {P : Nat → Nat} {S : zm_S} {M : qm} {i1 : Int32} {qi1 : Int} {i2 : Int32} {qi2 : Int} {i4 : Int32} {qi4 : Int} (hS : Sh L xs P S) (hM : qM P S = M) (ei1 : i1.toInt = qi1) (ei2 : i2.toInt = qi2) (ei4 : i4.toInt = qi4) : qs (zf_X18_lastTold_L20 20000 (n + 1) 2156 i1 i2 i4 S) (qf_X18_lastTold_L20_b 20000 qi1 qi2 qi4 M) (tk (vs (rp L xs P M vi) (rp L xs P M vu)) (qc_X18_lastTold_L20 L xs P M (zf_X18_lastTold_L20 20000 n))) := by
  refine qs_eq (zf_X18_lastTold_L20.eq_2 ..) ?_
  unfold qf_X18_lastTold_L20_b
  refine qs_ite (c_lt ei4 k_0) ?_ ?_
  · exact qs_tp2 (show vu _ _ from trivial) hS hM
  · refine qs_gr hS pl_2156 ts_2156 rfl ?_
    refine qs_gd (fun g4188 => ?_)
    refine qs_xi hM (pa_p hS pl_2319 ts_2319) ei4 g4188 (fun v4187 h4187 => ?_)
    refine qs_ite (c_eq h4187 ei1) ?_ ?_
    · refine qs_gr hS pl_2156 ts_2156 rfl ?_
      refine qs_gd (fun g4191 => ?_)
      refine qs_xi hM (pa_p hS pl_2320 ts_2320) ei4 g4191 (fun v4190 h4190 => ?_)
      refine qs_ite (c_eq h4190 ei2) ?_ ?_
      · refine qs_gr hS pl_2156 ts_2156 rfl ?_
        refine qs_gd (fun g4194 => ?_)
        refine qs_xi hM (pa_p hS pl_2321 ts_2321) ei4 g4194 (fun v4193 h4193 => ?_)
        exact qs_tp1 (show vi _ _ from h4193) hS hM
      · exact qs_tk ⟨_, _, _, _, rfl, ei1, ei2, (p_addm ei4 k_m1), hS, hM⟩
    · exact qs_tk ⟨_, _, _, _, rfl, ei1, ei2, (p_addm ei4 k_m1), hS, hM⟩
theorem qz_X18_lastTold_L20 (n : Nat) : ∀ {P : Nat → Nat} {S : zm_S} {M : qm} {i1 : Int32} {qi1 : Int} {i2 : Int32} {qi2 : Int} {i4 : Int32} {qi4 : Int} (hS : Sh L xs P S) (hM : qM P S = M) (ei1 : i1.toInt = qi1) (ei2 : i2.toInt = qi2) (ei4 : i4.toInt = qi4), qs (zf_X18_lastTold_L20 20000 n 2156 i1 i2 i4 S) (qf_X18_lastTold_L20 20000 n qi1 qi2 qi4 M) (tO (vs (rp L xs P M vi) (rp L xs P M vu))) := by
  induction n with
  | zero =>
    intros
    exact qs_none
  | succ n ih =>
    intro P S M i1 qi1 i2 qi2 i4 qi4 hS hM ei1 ei2 ei4
    unfold qf_X18_lastTold_L20
    refine qs_loop (C := (qc_X18_lastTold_L20 L xs P M (zf_X18_lastTold_L20 20000 n))) (qz_X18_lastTold_L20_b n hS hM ei1 ei2 ei4) ?_
    rintro x s ⟨_, _, _, _, rfl, u0, u1, u2, hS2, hM2⟩
    exact ih hS2 hM2 u0 u1 u2
set_option maxRecDepth 20000 in
theorem qz_X18_lastTold_J16 {P : Nat → Nat} {S : zm_S} {M : qm} {i1 : Int32} {qi1 : Int} {i2 : Int32} {qi2 : Int} {t0 : Int32} {qt0 : Int} (hS : Sh L xs P S) (hM : qM P S = M) (ei1 : i1.toInt = qi1) (ei2 : i2.toInt = qi2) (et0 : t0.toInt = qt0) : qs (zf_X18_lastTold_J16 20000 2156 i1 i2 t0 S) (qf_X18_lastTold_J16 20000 qi1 qi2 qt0 M) (tO (rp L xs P M vi)) := by
  unfold zf_X18_lastTold_J16 qf_X18_lastTold_J16
  refine qs_lp (qz_X18_lastTold_L20 20000 hS hM ei1 ei2 (p_sub et0 k_1)) ?_ ?_
  · intro v4196 S4196 w4196 h4196 hS4196 hM4196
    dsimp only
    exact qs_tp h4196 hS4196 hM4196
  · intro v4196 S4196 w4196 h4196 hS4196 hM4196
    dsimp only
    exact qs_tp (show vi _ _ from k_m1) hS4196 hM4196
set_option maxRecDepth 20000 in
theorem qz_X18_lastTold {P : Nat → Nat} {S : zm_S} {M : qm} {i1 : Int32} {qi1 : Int} {i2 : Int32} {qi2 : Int} {i3 : Int32} {qi3 : Int} (hS : Sh L xs P S) (hM : qM P S = M) (ei1 : i1.toInt = qi1) (ei2 : i2.toInt = qi2) (ei3 : i3.toInt = qi3) : qs (zf_X18_lastTold 20000 2156 i1 i2 i3 S) (qf_X18_lastTold 20000 qi1 qi2 qi3 M) (tO (rp L xs P M vi)) := by
  unfold zf_X18_lastTold qf_X18_lastTold
  refine qs_gi hS hM pl_2156 ts_2156 (z := 45) rfl rfl (fun v4197 h4197 => ?_)
  refine qs_ite (c_le h4197 ei3) ?_ ?_
  · refine qs_gi hS hM pl_2156 ts_2156 (z := 45) rfl rfl (fun v4198 h4198 => ?_)
    exact (qz_X18_lastTold_J16 hS hM ei1 ei2 h4198)
  · exact (qz_X18_lastTold_J16 hS hM ei1 ei2 ei3)
set_option maxRecDepth 20000 in
theorem qz_X18_end_J24 {P : Nat → Nat} {S : zm_S} {M : qm} {i1 : Int32} {qi1 : Int} {i2 : Int32} {qi2 : Int} {t1 : Int32} {qt1 : Int} (hS : Sh L xs P S) (hM : qM P S = M) (ei1 : i1.toInt = qi1) (ei2 : i2.toInt = qi2) (et1 : t1.toInt = qt1) : qs (zf_X18_end_J24 20000 2156 i1 i2 2156 t1 S) (qf_X18_end_J24 20000 qi1 qi2 qt1 M) (tO (rr L xs P vi)) := by
  unfold zf_X18_end_J24 qf_X18_end_J24
  refine qs_gi hS hM pl_2156 ts_2156 (z := 1) rfl rfl (fun v4199 h4199 => ?_)
  refine qs_zi hS pl_2156 ts_2156 ?_
  refine qs_b (qz_X18_goes hS hM et1 h4199) (fun v4201 S4201 w4201 M4201 h4201 hS4201 hM4201 => ?_)
  refine qs_ite (c_eq h4201 k_0) ?_ ?_
  · exact qs_tr (show vi _ _ from k_0) hS4201 hM4201
  · refine qs_zi hS4201 pl_2156 ts_2156 ?_
    refine qs_bp (qz_X18_lastTold hS4201 hM4201 k_2 ei1 k_2147483647) (fun v4203 S4203 w4203 h4203 hS4203 hM4203 => ?_)
    refine qs_zi hS4203 pl_2156 ts_2156 ?_
    refine qs_b (qz_X18_tell hS4203 hM4203 k_2 ei1 ei2) (fun v4205 S4205 w4205 M4205 h4205 hS4205 hM4205 => ?_)
    exact qs_tr (show vi _ _ from h4203) hS4205 hM4205
set_option maxRecDepth 20000 in
theorem qz_X18_end_J23 {P : Nat → Nat} {S : zm_S} {M : qm} {i1 : Int32} {qi1 : Int} {i2 : Int32} {qi2 : Int} (hS : Sh L xs P S) (hM : qM P S = M) (ei1 : i1.toInt = qi1) (ei2 : i2.toInt = qi2) : qs (zf_X18_end_J23 20000 2156 i1 i2 2156 S) (qf_X18_end_J23 20000 qi1 qi2 M) (tO (rr L xs P vi)) := by
  unfold zf_X18_end_J23 qf_X18_end_J23
  exact (qz_X18_end_J24 hS hM ei1 ei2 k_0)
set_option maxRecDepth 20000 in
theorem qz_X18_end {P : Nat → Nat} {S : zm_S} {M : qm} {i1 : Int32} {qi1 : Int} {i2 : Int32} {qi2 : Int} (hS : Sh L xs P S) (hM : qM P S = M) (ei1 : i1.toInt = qi1) (ei2 : i2.toInt = qi2) : qs (zf_X18_end 20000 2156 i1 i2 S) (qf_X18_end 20000 qi1 qi2 M) (tO (rr L xs P vi)) := by
  unfold zf_X18_end qf_X18_end
  refine qs_gi hS hM pl_2156 ts_2156 (z := 39) rfl rfl (fun v4206 h4206 => ?_)
  refine qs_bp (qz_X18_isIn hS hM ei1 h4206) (fun v4207 S4207 w4207 h4207 hS4207 hM4207 => ?_)
  refine qs_ite (c_eq h4207 k_0) ?_ ?_
  · exact (qz_X18_end_J23 hS4207 hM4207 ei1 ei2)
  · refine qs_bp (qz_X18_isMinute hS4207 hM4207 ei2) (fun v4208 S4208 w4208 h4208 hS4208 hM4208 => ?_)
    refine qs_ite (c_eq h4208 k_0) ?_ ?_
    · exact (qz_X18_end_J23 hS4208 hM4208 ei1 ei2)
    · exact (qz_X18_end_J24 hS4208 hM4208 ei1 ei2 k_1)
set_option maxRecDepth 20000 in
theorem qz_X11_isCard {P : Nat → Nat} {S : zm_S} {M : qm} {i1 : Int32} {qi1 : Int} (hS : Sh L xs P S) (hM : qM P S = M) (ei1 : i1.toInt = qi1) : qs (zf_X11_isCard 20000 6 i1 S) (qf_X11_isCard 20000 qi1 M) (tO (rp L xs P M vi)) := by
  unfold zf_X11_isCard qf_X11_isCard
  refine qs_gr hS pl_6 ts_6 rfl ?_
  refine qs_gi hS hM pl_824 ts_824 (z := 8) rfl rfl (fun v4210 h4210 => ?_)
  refine qs_bp (qz_X11_isWithin hS hM ei1 k_0 (p_sub h4210 k_1)) (fun v4211 S4211 w4211 h4211 hS4211 hM4211 => ?_)
  refine qs_ite (or_congr (c_eq h4211 k_0) (c_eq h4211 k_1)) ?_ ?_
  · exact qs_tp (show vi _ _ from h4211) hS4211 hM4211
  · exact qs_none
set_option maxRecDepth 20000 in
theorem qz_X0_tellLost {P : Nat → Nat} {S : zm_S} {M : qm} {i1 : Int32} {qi1 : Int} {i2 : Int32} {qi2 : Int} (hS : Sh L xs P S) (hM : qM P S = M) (ei1 : i1.toInt = qi1) (ei2 : i2.toInt = qi2) : qs (zf_X0_tellLost 20000 824 i1 i2 S) (qf_X0_tellLost 20000 qi1 qi2 M) (tO (rr L xs P vi)) := by
  unfold zf_X0_tellLost qf_X0_tellLost
  refine qs_zi hS pl_824 ts_824 ?_
  refine qs_b (qz_X0_note hS hM (p_add k_100 ei1) ei2) (fun v4213 S4213 w4213 M4213 h4213 hS4213 hM4213 => ?_)
  exact qs_tr (show vi _ _ from h4213) hS4213 hM4213
set_option maxRecDepth 20000 in
theorem qz_X11_lost_J23 {P : Nat → Nat} {S : zm_S} {M : qm} {i1 : Int32} {qi1 : Int} {i2 : Int32} {qi2 : Int} {t0 : Int32} {qt0 : Int} (hS : Sh L xs P S) (hM : qM P S = M) (ei1 : i1.toInt = qi1) (ei2 : i2.toInt = qi2) (et0 : t0.toInt = qt0) : qs (zf_X11_lost_J23 20000 6 i1 i2 t0 S) (qf_X11_lost_J23 20000 qi1 qi2 qt0 M) (tO (rr L xs P (vs vi ve))) := by
  unfold zf_X11_lost_J23 qf_X11_lost_J23
  refine qs_xp (qz_X11_needArgument hS hM et0) ?_ ?_
  · intro v4215 S4215 w4215 h4215 hS4215 hM4215
    dsimp only
    refine qs_gi hS4215 hM4215 pl_6 ts_6 (z := 11) rfl rfl (fun v4216 h4216 => ?_)
    refine qs_xp (qz_X11_needState hS4215 hM4215 h4216) ?_ ?_
    · intro v4218 S4218 w4218 h4218 hS4218 hM4218
      dsimp only
      refine qs_gr hS4218 pl_6 ts_6 rfl ?_
      refine qs_zi hS4218 pl_824 ts_824 ?_
      refine qs_b (qz_X0_tellLost hS4218 hM4218 ei1 ei2) (fun v4221 S4221 w4221 M4221 h4221 hS4221 hM4221 => ?_)
      exact qs_tr (show (vs vi ve) _ _ from h4221) hS4221 hM4221
    · intro v4218 S4218 hS4218 hM4218
      dsimp only
      exact qs_tr (show (vs vi ve) _ _ from rfl) hS4218 hM4218
  · intro v4215 S4215 hS4215 hM4215
    dsimp only
    exact qs_tr (show (vs vi ve) _ _ from rfl) hS4215 hM4215
set_option maxRecDepth 20000 in
theorem qz_X11_lost_J22 {P : Nat → Nat} {S : zm_S} {M : qm} {i1 : Int32} {qi1 : Int} {i2 : Int32} {qi2 : Int} (hS : Sh L xs P S) (hM : qM P S = M) (ei1 : i1.toInt = qi1) (ei2 : i2.toInt = qi2) : qs (zf_X11_lost_J22 20000 6 i1 i2 S) (qf_X11_lost_J22 20000 qi1 qi2 M) (tO (rr L xs P (vs vi ve))) := by
  unfold zf_X11_lost_J22 qf_X11_lost_J22
  exact (qz_X11_lost_J23 hS hM ei1 ei2 k_0)
set_option maxRecDepth 20000 in
theorem qz_X11_lost {P : Nat → Nat} {S : zm_S} {M : qm} {i1 : Int32} {qi1 : Int} {i2 : Int32} {qi2 : Int} (hS : Sh L xs P S) (hM : qM P S = M) (ei1 : i1.toInt = qi1) (ei2 : i2.toInt = qi2) : qs (zf_X11_lost 20000 6 i1 i2 S) (qf_X11_lost 20000 qi1 qi2 M) (tO (rr L xs P (vs vi ve))) := by
  unfold zf_X11_lost qf_X11_lost
  refine qs_zi hS pl_6 ts_6 ?_
  refine qs_bp (qz_X11_isCard hS hM ei1) (fun v4223 S4223 w4223 h4223 hS4223 hM4223 => ?_)
  refine qs_ite (c_eq h4223 k_0) ?_ ?_
  · exact (qz_X11_lost_J22 hS4223 hM4223 ei1 ei2)
  · refine qs_bp (qz_X11_isWithin hS4223 hM4223 ei2 k_0 k_1000000) (fun v4224 S4224 w4224 h4224 hS4224 hM4224 => ?_)
    refine qs_ite (c_eq h4224 k_0) ?_ ?_
    · exact (qz_X11_lost_J22 hS4224 hM4224 ei1 ei2)
    · exact (qz_X11_lost_J23 hS4224 hM4224 ei1 ei2 k_1)
set_option maxRecDepth 20000 in
theorem qz_L_lost {P : Nat → Nat} {S : zm_S} {M : qm} {i1 : Int32} {qi1 : Int} {i2 : Int32} {qi2 : Int} (hS : Sh L xs P S) (hM : qM P S = M) (ei1 : i1.toInt = qi1) (ei2 : i2.toInt = qi2) : qs (zf_L_lost 20000 6 i1 i2 2332 S) (qf_L_lost 20000 qi1 qi2 M) (tO (rr L xs P vi)) := by
  unfold zf_L_lost qf_L_lost
  refine qs_zi hS pl_6 ts_6 ?_
  refine qs_xr (qz_X11_lost hS hM ei1 ei2) ?_ ?_
  · intro v4227 S4227 w4227 M4227 h4227 hS4227 hM4227
    dsimp only
    refine qs_sl hS4227 hM4227 (pa_p hS4227 pl_2332 ts_2332) k_0 (by decide) (p_64 h4227) (fun S4228 M4228 hS4228 hM4228 => ?_)
    exact qs_tr (show vi _ _ from k_0) hS4228 hM4228
  · intro v4227 S4227 M4227 hS4227 hM4227
    dsimp only
    refine qs_ite Iff.rfl ?_ ?_
    · exact qs_tr (show vi _ _ from k_1) hS4227 hM4227
    · refine qs_ite Iff.rfl ?_ ?_
      · exact qs_tr (show vi _ _ from k_2) hS4227 hM4227
      · exact qs_none
set_option maxRecDepth 20000 in
theorem qz_X18_lost_J24 {P : Nat → Nat} {S : zm_S} {M : qm} {i1 : Int32} {qi1 : Int} {i2 : Int32} {qi2 : Int} {t1 : Int32} {qt1 : Int} (hS : Sh L xs P S) (hM : qM P S = M) (ei1 : i1.toInt = qi1) (ei2 : i2.toInt = qi2) (et1 : t1.toInt = qt1) : qs (zf_X18_lost_J24 20000 2156 i1 i2 2156 t1 S) (qf_X18_lost_J24 20000 qi1 qi2 qt1 M) (tO (rr L xs P vi)) := by
  unfold zf_X18_lost_J24 qf_X18_lost_J24
  refine qs_gi hS hM pl_2156 ts_2156 (z := 1) rfl rfl (fun v4229 h4229 => ?_)
  refine qs_zi hS pl_2156 ts_2156 ?_
  refine qs_b (qz_X18_goes hS hM et1 h4229) (fun v4231 S4231 w4231 M4231 h4231 hS4231 hM4231 => ?_)
  refine qs_ite (c_eq h4231 k_0) ?_ ?_
  · exact qs_tr (show vi _ _ from k_0) hS4231 hM4231
  · refine qs_zi hS4231 pl_2156 ts_2156 ?_
    refine qs_bp (qz_X18_lastTold hS4231 hM4231 k_3 ei1 k_2147483647) (fun v4233 S4233 w4233 h4233 hS4233 hM4233 => ?_)
    refine qs_zi hS4233 pl_2156 ts_2156 ?_
    refine qs_b (qz_X18_tell hS4233 hM4233 k_3 ei1 ei2) (fun v4235 S4235 w4235 M4235 h4235 hS4235 hM4235 => ?_)
    exact qs_tr (show vi _ _ from h4233) hS4235 hM4235
set_option maxRecDepth 20000 in
theorem qz_X18_lost_J23 {P : Nat → Nat} {S : zm_S} {M : qm} {i1 : Int32} {qi1 : Int} {i2 : Int32} {qi2 : Int} (hS : Sh L xs P S) (hM : qM P S = M) (ei1 : i1.toInt = qi1) (ei2 : i2.toInt = qi2) : qs (zf_X18_lost_J23 20000 2156 i1 i2 2156 S) (qf_X18_lost_J23 20000 qi1 qi2 M) (tO (rr L xs P vi)) := by
  unfold zf_X18_lost_J23 qf_X18_lost_J23
  exact (qz_X18_lost_J24 hS hM ei1 ei2 k_0)
set_option maxRecDepth 20000 in
theorem qz_X18_lost {P : Nat → Nat} {S : zm_S} {M : qm} {i1 : Int32} {qi1 : Int} {i2 : Int32} {qi2 : Int} (hS : Sh L xs P S) (hM : qM P S = M) (ei1 : i1.toInt = qi1) (ei2 : i2.toInt = qi2) : qs (zf_X18_lost 20000 2156 i1 i2 S) (qf_X18_lost 20000 qi1 qi2 M) (tO (rr L xs P vi)) := by
  unfold zf_X18_lost qf_X18_lost
  refine qs_gi hS hM pl_2156 ts_2156 (z := 36) rfl rfl (fun v4236 h4236 => ?_)
  refine qs_bp (qz_X18_isIn hS hM ei1 h4236) (fun v4237 S4237 w4237 h4237 hS4237 hM4237 => ?_)
  refine qs_ite (c_eq h4237 k_0) ?_ ?_
  · exact (qz_X18_lost_J23 hS4237 hM4237 ei1 ei2)
  · refine qs_bp (qz_X18_isMinute hS4237 hM4237 ei2) (fun v4238 S4238 w4238 h4238 hS4238 hM4238 => ?_)
    refine qs_ite (c_eq h4238 k_0) ?_ ?_
    · exact (qz_X18_lost_J23 hS4238 hM4238 ei1 ei2)
    · exact (qz_X18_lost_J24 hS4238 hM4238 ei1 ei2 k_1)
set_option maxRecDepth 20000 in
theorem qz_X18_two {P : Nat → Nat} {S : zm_S} {M : qm} {i1 : Int32} {qi1 : Int} {i2 : Int32} {qi2 : Int} (hS : Sh L xs P S) (hM : qM P S = M) (ei1 : i1.toInt = qi1) (ei2 : i2.toInt = qi2) : qs (zf_X18_two 20000 2156 i1 i2 S) (qf_X18_two 20000 qi1 qi2 M) (tO (rr L xs P vi)) := by
  unfold zf_X18_two qf_X18_two
  refine qs_gi hS hM pl_2156 ts_2156 (z := 10) rfl rfl (fun v4239 h4239 => ?_)
  refine qs_bp (qz_X18_isIn hS hM ei1 h4239) (fun v4240 S4240 w4240 h4240 hS4240 hM4240 => ?_)
  refine qs_gi hS4240 hM4240 pl_2156 ts_2156 (z := 1) rfl rfl (fun v4241 h4241 => ?_)
  refine qs_zi hS4240 pl_2156 ts_2156 ?_
  refine qs_b (qz_X18_goes hS4240 hM4240 h4240 h4241) (fun v4243 S4243 w4243 M4243 h4243 hS4243 hM4243 => ?_)
  refine qs_ite (c_eq h4243 k_0) ?_ ?_
  · exact qs_tr (show vi _ _ from k_0) hS4243 hM4243
  · refine qs_gr hS4243 pl_2156 ts_2156 rfl ?_
    refine qs_gd (fun g4246 => ?_)
    refine qs_xi hM4243 (pa_p hS4243 pl_2294 ts_2294) ei1 g4246 (fun v4245 h4245 => ?_)
    refine qs_gr hS4243 pl_2156 ts_2156 rfl ?_
    refine qs_gd (fun g4249 => ?_)
    refine qs_sz hS4243 hM4243 (pa_p hS4243 pl_2294 ts_2294) ei1 g4249.1 ei2 g4249.2 (fun S4248 M4248 hS4248 hM4248 => ?_)
    refine qs_ite (or_congr (c_eq h4245 k_0) (c_eq h4245 k_1)) ?_ ?_
    · exact qs_tr (show vi _ _ from h4245) hS4248 hM4248
    · exact qs_none
set_option maxRecDepth 20000 in
theorem qz_X0_setTwo_J15 {P : Nat → Nat} {S : zm_S} {M : qm} {i1 : Int32} {qi1 : Int} {i2 : Int32} {qi2 : Int} {t0 : Int32} {qt0 : Int} (hS : Sh L xs P S) (hM : qM P S = M) (ei1 : i1.toInt = qi1) (ei2 : i2.toInt = qi2) (et0 : t0.toInt = qt0) : qs (zf_X0_setTwo_J15 20000 824 i1 i2 t0 S) (qf_X0_setTwo_J15 20000 qi1 qi2 qt0 M) (tO (rr L xs P vi)) := by
  unfold zf_X0_setTwo_J15 qf_X0_setTwo_J15
  refine qs_ite (c_eq ei2 k_0) ?_ ?_
  · refine qs_zi hS pl_824 ts_824 ?_
    refine qs_b (qz_X0_setFact hS hM ei1 k_10 k_0) (fun v4251 S4251 w4251 M4251 h4251 hS4251 hM4251 => ?_)
    refine qs_ite (or_congr (c_eq et0 k_0) (c_eq et0 k_1)) ?_ ?_
    · exact qs_tr (show vi _ _ from et0) hS4251 hM4251
    · exact qs_none
  · refine qs_zi hS pl_824 ts_824 ?_
    refine qs_b (qz_X0_setFact hS hM ei1 k_10 k_1) (fun v4253 S4253 w4253 M4253 h4253 hS4253 hM4253 => ?_)
    refine qs_ite (or_congr (c_eq et0 k_0) (c_eq et0 k_1)) ?_ ?_
    · exact qs_tr (show vi _ _ from et0) hS4253 hM4253
    · exact qs_none
set_option maxRecDepth 20000 in
theorem qz_X0_setTwo {P : Nat → Nat} {S : zm_S} {M : qm} {i1 : Int32} {qi1 : Int} {i2 : Int32} {qi2 : Int} (hS : Sh L xs P S) (hM : qM P S = M) (ei1 : i1.toInt = qi1) (ei2 : i2.toInt = qi2) : qs (zf_X0_setTwo 20000 824 i1 i2 S) (qf_X0_setTwo 20000 qi1 qi2 M) (tO (rr L xs P vi)) := by
  unfold zf_X0_setTwo qf_X0_setTwo
  refine qs_zi hS pl_824 ts_824 ?_
  refine qs_bp (qz_X0_factOf hS hM ei1 k_10) (fun v4255 S4255 w4255 h4255 hS4255 hM4255 => ?_)
  refine qs_ite (c_eq h4255 k_0) ?_ ?_
  · exact (qz_X0_setTwo_J15 hS4255 hM4255 ei1 ei2 k_0)
  · exact (qz_X0_setTwo_J15 hS4255 hM4255 ei1 ei2 k_1)
set_option maxRecDepth 20000 in
theorem qz_X11_two {P : Nat → Nat} {S : zm_S} {M : qm} {i1 : Int32} {qi1 : Int} {i2 : Int32} {qi2 : Int} (hS : Sh L xs P S) (hM : qM P S = M) (ei1 : i1.toInt = qi1) (ei2 : i2.toInt = qi2) : qs (zf_X11_two 20000 6 i1 i2 S) (qf_X11_two 20000 qi1 qi2 M) (tO (rr L xs P (vs vi ve))) := by
  unfold zf_X11_two qf_X11_two
  refine qs_zi hS pl_6 ts_6 ?_
  refine qs_bp (qz_X11_isPortal hS hM ei1) (fun v4257 S4257 w4257 h4257 hS4257 hM4257 => ?_)
  refine qs_xp (qz_X11_needArgument hS4257 hM4257 h4257) ?_ ?_
  · intro v4259 S4259 w4259 h4259 hS4259 hM4259
    dsimp only
    refine qs_gi hS4259 hM4259 pl_6 ts_6 (z := 11) rfl rfl (fun v4260 h4260 => ?_)
    refine qs_xp (qz_X11_needState hS4259 hM4259 h4260) ?_ ?_
    · intro v4262 S4262 w4262 h4262 hS4262 hM4262
      dsimp only
      refine qs_gr hS4262 pl_6 ts_6 rfl ?_
      refine qs_zi hS4262 pl_824 ts_824 ?_
      refine qs_b (qz_X0_setTwo hS4262 hM4262 ei1 ei2) (fun v4265 S4265 w4265 M4265 h4265 hS4265 hM4265 => ?_)
      refine qs_ite (or_congr (c_eq h4265 k_0) (c_eq h4265 k_1)) ?_ ?_
      · exact qs_tr (show (vs vi ve) _ _ from h4265) hS4265 hM4265
      · exact qs_none
    · intro v4262 S4262 hS4262 hM4262
      dsimp only
      exact qs_tr (show (vs vi ve) _ _ from rfl) hS4262 hM4262
  · intro v4259 S4259 hS4259 hM4259
    dsimp only
    exact qs_tr (show (vs vi ve) _ _ from rfl) hS4259 hM4259
set_option maxRecDepth 20000 in
theorem qz_L_two_J16 {P : Nat → Nat} {S : zm_S} {M : qm} {t1 : Int32} {qt1 : Int} {t2 : Int64} {qt2 : Int} (hS : Sh L xs P S) (hM : qM P S = M) (et1 : t1.toInt = qt1) (et2 : t2.toInt = qt2) : qs (zf_L_two_J16 20000 2332 t1 t2 S) (qf_L_two_J16 20000 qt1 qt2 M) (tO (rr L xs P vi)) := by
  unfold zf_L_two_J16 qf_L_two_J16
  refine qs_gd (fun g4267 => ?_)
  refine qs_sl hS hM (pa_p hS pl_2332 ts_2332) et1 g4267 et2 (fun S4266 M4266 hS4266 hM4266 => ?_)
  exact qs_tr (show vi _ _ from k_0) hS4266 hM4266
set_option maxRecDepth 20000 in
theorem qz_L_two {P : Nat → Nat} {S : zm_S} {M : qm} {i1 : Int32} {qi1 : Int} {i2 : Int32} {qi2 : Int} (hS : Sh L xs P S) (hM : qM P S = M) (ei1 : i1.toInt = qi1) (ei2 : i2.toInt = qi2) : qs (zf_L_two 20000 6 i1 i2 2332 S) (qf_L_two 20000 qi1 qi2 M) (tO (rr L xs P vi)) := by
  unfold zf_L_two qf_L_two
  refine qs_zi hS pl_6 ts_6 ?_
  refine qs_xr (qz_X11_two hS hM ei1 ei2) ?_ ?_
  · intro v4270 S4270 w4270 M4270 h4270 hS4270 hM4270
    dsimp only
    refine qs_ite (c_eq h4270 k_0) ?_ ?_
    · exact (qz_L_two_J16 hS4270 hM4270 k_0 kl_0)
    · exact (qz_L_two_J16 hS4270 hM4270 k_0 kl_1)
  · intro v4270 S4270 M4270 hS4270 hM4270
    dsimp only
    refine qs_ite Iff.rfl ?_ ?_
    · exact qs_tr (show vi _ _ from k_1) hS4270 hM4270
    · refine qs_ite Iff.rfl ?_ ?_
      · exact qs_tr (show vi _ _ from k_2) hS4270 hM4270
      · exact qs_none
set_option maxRecDepth 20000 in
theorem qz_X18_lockOf_J58 {P : Nat → Nat} {S : zm_S} {M : qm} {i1 : Int32} {qi1 : Int} {i2 : Int32} {qi2 : Int} {i4 : Int32} {qi4 : Int} (hS : Sh L xs P S) (hM : qM P S = M) (ei1 : i1.toInt = qi1) (ei2 : i2.toInt = qi2) (ei4 : i4.toInt = qi4) {k : Nat → Int32 → Int32 → Int32 → Int32 → zm_S → Option ((Int32 × zm_S) ⊕ ((Int32) × zm_S))} : qs (zf_X18_lockOf_J58 20000 k 2156 i1 i2 i4 S) (qf_X18_lockOf_J58 20000 qi1 qi2 qi4 M) (tk (vs (rp L xs P M vi) (rp L xs P M vi)) (qc_X18_lockOf_L5 L xs P M k)) := by
  unfold zf_X18_lockOf_J58 qf_X18_lockOf_J58
  exact qs_tk ⟨_, _, _, _, _, rfl, ei1, ei2, ei4, (p_add ei4 k_1), hS, hM⟩
set_option maxRecDepth 20000 in
theorem qz_X18_lockOf_J63 {P : Nat → Nat} {S : zm_S} {M : qm} {i1 : Int32} {qi1 : Int} {i2 : Int32} {qi2 : Int} {i3 : Int32} {qi3 : Int} {i4 : Int32} {qi4 : Int} (hS : Sh L xs P S) (hM : qM P S = M) (ei1 : i1.toInt = qi1) (ei2 : i2.toInt = qi2) (ei3 : i3.toInt = qi3) (ei4 : i4.toInt = qi4) {k : Nat → Int32 → Int32 → Int32 → Int32 → zm_S → Option ((Int32 × zm_S) ⊕ ((Int32) × zm_S))} : qs (zf_X18_lockOf_J63 20000 k 2156 i1 i2 i3 i4 S) (qf_X18_lockOf_J63 20000 qi1 qi2 qi3 qi4 M) (tk (vs (rp L xs P M vi) (rp L xs P M vi)) (qc_X18_lockOf_L5 L xs P M k)) := by
  unfold zf_X18_lockOf_J63 qf_X18_lockOf_J63
  exact qs_tk ⟨_, _, _, _, _, rfl, ei1, ei2, ei3, (p_add ei4 k_1), hS, hM⟩
set_option maxRecDepth 20000 in
theorem qz_X18_lockOf_J36 {P : Nat → Nat} {S : zm_S} {M : qm} {i1 : Int32} {qi1 : Int} {i2 : Int32} {qi2 : Int} {i3 : Int32} {qi3 : Int} {i4 : Int32} {qi4 : Int} (hS : Sh L xs P S) (hM : qM P S = M) (ei1 : i1.toInt = qi1) (ei2 : i2.toInt = qi2) (ei3 : i3.toInt = qi3) (ei4 : i4.toInt = qi4) {k : Nat → Int32 → Int32 → Int32 → Int32 → zm_S → Option ((Int32 × zm_S) ⊕ ((Int32) × zm_S))} : qs (zf_X18_lockOf_J36 20000 k 2156 i1 i2 i3 i4 S) (qf_X18_lockOf_J36 20000 qi1 qi2 qi3 qi4 M) (tk (vs (rp L xs P M vi) (rp L xs P M vi)) (qc_X18_lockOf_L5 L xs P M k)) := by
  unfold zf_X18_lockOf_J36 qf_X18_lockOf_J36
  refine qs_gr hS pl_2156 ts_2156 rfl ?_
  refine qs_gd (fun g4273 => ?_)
  refine qs_xi hM (pa_p hS pl_2302 ts_2302) ei4 g4273 (fun v4272 h4272 => ?_)
  refine qs_ite (c_eq h4272 ei2) ?_ ?_
  · refine qs_gr hS pl_2156 ts_2156 rfl ?_
    refine qs_gd (fun g4276 => ?_)
    refine qs_xi hM (pa_p hS pl_2303 ts_2303) ei4 g4276 (fun v4275 h4275 => ?_)
    refine qs_ite (c_eq h4275 ei1) ?_ ?_
    · exact (qz_X18_lockOf_J58 hS hM ei1 ei2 ei4)
    · exact (qz_X18_lockOf_J63 hS hM ei1 ei2 ei3 ei4)
  · exact (qz_X18_lockOf_J63 hS hM ei1 ei2 ei3 ei4)
set_option maxRecDepth 20000 in
theorem qz_X18_lockOf_L5_b (n : Nat) {P : Nat → Nat} {S : zm_S} {M : qm} {i1 : Int32} {qi1 : Int} {i2 : Int32} {qi2 : Int} {i3 : Int32} {qi3 : Int} {i4 : Int32} {qi4 : Int} (hS : Sh L xs P S) (hM : qM P S = M) (ei1 : i1.toInt = qi1) (ei2 : i2.toInt = qi2) (ei3 : i3.toInt = qi3) (ei4 : i4.toInt = qi4) : qs (zf_X18_lockOf_L5 20000 (n + 1) 2156 i1 i2 i3 i4 S) (qf_X18_lockOf_L5_b 20000 qi1 qi2 qi3 qi4 M) (tk (vs (rp L xs P M vi) (rp L xs P M vi)) (qc_X18_lockOf_L5 L xs P M (zf_X18_lockOf_L5 20000 n))) := by
  refine qs_eq (zf_X18_lockOf_L5.eq_2 ..) ?_
  unfold qf_X18_lockOf_L5_b
  refine qs_gi hS hM pl_2156 ts_2156 (z := 24) rfl rfl (fun v4277 h4277 => ?_)
  refine qs_ite (c_le h4277 ei4) ?_ ?_
  · exact qs_tp2 (show vi _ _ from ei3) hS hM
  · refine qs_gr hS pl_2156 ts_2156 rfl ?_
    refine qs_gd (fun g4280 => ?_)
    refine qs_xi hM (pa_p hS pl_2302 ts_2302) ei4 g4280 (fun v4279 h4279 => ?_)
    refine qs_ite (c_eq h4279 ei1) ?_ ?_
    · refine qs_gr hS pl_2156 ts_2156 rfl ?_
      refine qs_gd (fun g4283 => ?_)
      refine qs_xi hM (pa_p hS pl_2303 ts_2303) ei4 g4283 (fun v4282 h4282 => ?_)
      refine qs_ite (c_eq h4282 ei2) ?_ ?_
      · exact (qz_X18_lockOf_J58 hS hM ei1 ei2 ei4)
      · exact (qz_X18_lockOf_J36 hS hM ei1 ei2 ei3 ei4)
    · exact (qz_X18_lockOf_J36 hS hM ei1 ei2 ei3 ei4)
theorem qz_X18_lockOf_L5 (n : Nat) : ∀ {P : Nat → Nat} {S : zm_S} {M : qm} {i1 : Int32} {qi1 : Int} {i2 : Int32} {qi2 : Int} {i3 : Int32} {qi3 : Int} {i4 : Int32} {qi4 : Int} (hS : Sh L xs P S) (hM : qM P S = M) (ei1 : i1.toInt = qi1) (ei2 : i2.toInt = qi2) (ei3 : i3.toInt = qi3) (ei4 : i4.toInt = qi4), qs (zf_X18_lockOf_L5 20000 n 2156 i1 i2 i3 i4 S) (qf_X18_lockOf_L5 20000 n qi1 qi2 qi3 qi4 M) (tO (vs (rp L xs P M vi) (rp L xs P M vi))) := by
  induction n with
  | zero =>
    intros
    exact qs_none
  | succ n ih =>
    intro P S M i1 qi1 i2 qi2 i3 qi3 i4 qi4 hS hM ei1 ei2 ei3 ei4
    unfold qf_X18_lockOf_L5
    refine qs_loop (C := (qc_X18_lockOf_L5 L xs P M (zf_X18_lockOf_L5 20000 n))) (qz_X18_lockOf_L5_b n hS hM ei1 ei2 ei3 ei4) ?_
    rintro x s ⟨_, _, _, _, _, rfl, u0, u1, u2, u3, hS2, hM2⟩
    exact ih hS2 hM2 u0 u1 u2 u3
set_option maxRecDepth 20000 in
theorem qz_X18_lockOf {P : Nat → Nat} {S : zm_S} {M : qm} {i1 : Int32} {qi1 : Int} {i2 : Int32} {qi2 : Int} (hS : Sh L xs P S) (hM : qM P S = M) (ei1 : i1.toInt = qi1) (ei2 : i2.toInt = qi2) : qs (zf_X18_lockOf 20000 2156 i1 i2 S) (qf_X18_lockOf 20000 qi1 qi2 M) (tO (rp L xs P M vi)) := by
  unfold zf_X18_lockOf qf_X18_lockOf
  refine qs_lp (qz_X18_lockOf_L5 20000 hS hM ei1 ei2 k_m1 k_0) ?_ ?_
  · intro v4285 S4285 w4285 h4285 hS4285 hM4285
    dsimp only
    exact qs_tp h4285 hS4285 hM4285
  · intro v4285 S4285 w4285 h4285 hS4285 hM4285
    dsimp only
    exact qs_tp (show vi _ _ from h4285) hS4285 hM4285
set_option maxRecDepth 20000 in
theorem qz_X18_airlock_J180 {P : Nat → Nat} {S : zm_S} {M : qm} {i4 : Int32} {qi4 : Int} (hS : Sh L xs P S) (hM : qM P S = M) (ei4 : i4.toInt = qi4) : qs (zf_X18_airlock_J180 20000 i4 S) (qf_X18_airlock_J180 20000 qi4 M) (tO (rr L xs P vi)) := by
  unfold zf_X18_airlock_J180 qf_X18_airlock_J180
  refine qs_ite (c_lt ei4 k_0) ?_ ?_
  · exact qs_tr (show vi _ _ from k_0) hS hM
  · exact qs_tr (show vi _ _ from k_1) hS hM
set_option maxRecDepth 20000 in
theorem qz_X18_airlock_J129 {P : Nat → Nat} {S : zm_S} {M : qm} {i3 : Int32} {qi3 : Int} {i4 : Int32} {qi4 : Int} (hS : Sh L xs P S) (hM : qM P S = M) (ei3 : i3.toInt = qi3) (ei4 : i4.toInt = qi4) : qs (zf_X18_airlock_J129 20000 2156 i3 i4 S) (qf_X18_airlock_J129 20000 qi3 qi4 M) (tO (rr L xs P vi)) := by
  unfold zf_X18_airlock_J129 qf_X18_airlock_J129
  refine qs_ite (c_lt ei4 k_0) ?_ ?_
  · exact (qz_X18_airlock_J180 hS hM ei4)
  · refine qs_ite (c_eq ei3 k_0) ?_ ?_
    · refine qs_gi hS hM pl_2156 ts_2156 (z := 24) rfl rfl (fun v4286 h4286 => ?_)
      refine qs_pi hS hM pl_2156 ts_2156 (z := 24) rfl rfl (p_sub h4286 k_1) (fun S4287 M4287 hS4287 hM4287 => ?_)
      refine qs_gr hS4287 pl_2156 ts_2156 rfl ?_
      refine qs_gr hS4287 pl_2156 ts_2156 rfl ?_
      refine qs_gi hS4287 hM4287 pl_2156 ts_2156 (z := 24) rfl rfl (fun v4290 h4290 => ?_)
      refine qs_gd (fun g4292 => ?_)
      refine qs_xi hM4287 (pa_p hS4287 pl_2302 ts_2302) h4290 g4292 (fun v4291 h4291 => ?_)
      refine qs_gd (fun g4294 => ?_)
      refine qs_si hS4287 hM4287 (pa_p hS4287 pl_2302 ts_2302) ei4 g4294 h4291 (fun S4293 M4293 hS4293 hM4293 => ?_)
      refine qs_gr hS4293 pl_2156 ts_2156 rfl ?_
      refine qs_gr hS4293 pl_2156 ts_2156 rfl ?_
      refine qs_gi hS4293 hM4293 pl_2156 ts_2156 (z := 24) rfl rfl (fun v4297 h4297 => ?_)
      refine qs_gd (fun g4299 => ?_)
      refine qs_xi hM4293 (pa_p hS4293 pl_2303 ts_2303) h4297 g4299 (fun v4298 h4298 => ?_)
      refine qs_gd (fun g4301 => ?_)
      refine qs_si hS4293 hM4293 (pa_p hS4293 pl_2303 ts_2303) ei4 g4301 h4298 (fun S4300 M4300 hS4300 hM4300 => ?_)
      exact (qz_X18_airlock_J180 hS4300 hM4300 ei4)
    · exact (qz_X18_airlock_J180 hS hM ei4)
set_option maxRecDepth 20000 in
theorem qz_X18_airlock_J96 {P : Nat → Nat} {S : zm_S} {M : qm} {i1 : Int32} {qi1 : Int} {i2 : Int32} {qi2 : Int} {i4 : Int32} {qi4 : Int} (hS : Sh L xs P S) (hM : qM P S = M) (ei1 : i1.toInt = qi1) (ei2 : i2.toInt = qi2) (ei4 : i4.toInt = qi4) : qs (zf_X18_airlock_J96 20000 2156 i1 i2 i4 S) (qf_X18_airlock_J96 20000 qi1 qi2 qi4 M) (tO (rr L xs P vi)) := by
  unfold zf_X18_airlock_J96 qf_X18_airlock_J96
  refine qs_gr hS pl_2156 ts_2156 rfl ?_
  refine qs_gi hS hM pl_2156 ts_2156 (z := 24) rfl rfl (fun v4303 h4303 => ?_)
  refine qs_gd (fun g4305 => ?_)
  refine qs_si hS hM (pa_p hS pl_2302 ts_2302) h4303 g4305 ei1 (fun S4304 M4304 hS4304 hM4304 => ?_)
  refine qs_gr hS4304 pl_2156 ts_2156 rfl ?_
  refine qs_gi hS4304 hM4304 pl_2156 ts_2156 (z := 24) rfl rfl (fun v4307 h4307 => ?_)
  refine qs_gd (fun g4309 => ?_)
  refine qs_si hS4304 hM4304 (pa_p hS4304 pl_2303 ts_2303) h4307 g4309 ei2 (fun S4308 M4308 hS4308 hM4308 => ?_)
  refine qs_gi hS4308 hM4308 pl_2156 ts_2156 (z := 24) rfl rfl (fun v4310 h4310 => ?_)
  refine qs_pi hS4308 hM4308 pl_2156 ts_2156 (z := 24) rfl rfl (p_add h4310 k_1) (fun S4311 M4311 hS4311 hM4311 => ?_)
  exact (qz_X18_airlock_J180 hS4311 hM4311 ei4)
set_option maxRecDepth 20000 in
theorem qz_X18_airlock_J33 {P : Nat → Nat} {S : zm_S} {M : qm} {i1 : Int32} {qi1 : Int} {i2 : Int32} {qi2 : Int} {i3 : Int32} {qi3 : Int} {t1 : Int32} {qt1 : Int} (hS : Sh L xs P S) (hM : qM P S = M) (ei1 : i1.toInt = qi1) (ei2 : i2.toInt = qi2) (ei3 : i3.toInt = qi3) (et1 : t1.toInt = qt1) : qs (zf_X18_airlock_J33 20000 2156 i1 i2 i3 2156 t1 S) (qf_X18_airlock_J33 20000 qi1 qi2 qi3 qt1 M) (tO (rr L xs P vi)) := by
  unfold zf_X18_airlock_J33 qf_X18_airlock_J33
  refine qs_gi hS hM pl_2156 ts_2156 (z := 1) rfl rfl (fun v4312 h4312 => ?_)
  refine qs_zi hS pl_2156 ts_2156 ?_
  refine qs_b (qz_X18_goes hS hM et1 h4312) (fun v4314 S4314 w4314 M4314 h4314 hS4314 hM4314 => ?_)
  refine qs_ite (c_eq h4314 k_0) ?_ ?_
  · exact qs_tr (show vi _ _ from k_0) hS4314 hM4314
  · refine qs_zi hS4314 pl_2156 ts_2156 ?_
    refine qs_bp (qz_X18_lockOf hS4314 hM4314 ei1 ei2) (fun v4316 S4316 w4316 h4316 hS4316 hM4316 => ?_)
    refine qs_ite (c_le k_0 h4316) ?_ ?_
    · exact (qz_X18_airlock_J129 hS4316 hM4316 ei3 h4316)
    · refine qs_ite (c_eq ei3 k_0) ?_ ?_
      · exact (qz_X18_airlock_J129 hS4316 hM4316 ei3 h4316)
      · refine qs_gi hS4316 hM4316 pl_2156 ts_2156 (z := 24) rfl rfl (fun v4317 h4317 => ?_)
        refine qs_gr hS4316 pl_2156 ts_2156 rfl ?_
        refine qs_n (pa_p hS4316 pl_2302 ts_2302) (by decide) (x := 4100) (by decide) (fun v4319 h4319 => ?_)
        refine qs_ite (c_eq h4317 h4319) ?_ ?_
        · refine qs_gr hS4316 pl_2156 ts_2156 rfl ?_
          exact qs_none
        · exact (qz_X18_airlock_J96 hS4316 hM4316 ei1 ei2 h4316)
set_option maxRecDepth 20000 in
theorem qz_X18_airlock_J32 {P : Nat → Nat} {S : zm_S} {M : qm} {i1 : Int32} {qi1 : Int} {i2 : Int32} {qi2 : Int} {i3 : Int32} {qi3 : Int} (hS : Sh L xs P S) (hM : qM P S = M) (ei1 : i1.toInt = qi1) (ei2 : i2.toInt = qi2) (ei3 : i3.toInt = qi3) : qs (zf_X18_airlock_J32 20000 2156 i1 i2 i3 2156 S) (qf_X18_airlock_J32 20000 qi1 qi2 qi3 M) (tO (rr L xs P vi)) := by
  unfold zf_X18_airlock_J32 qf_X18_airlock_J32
  exact (qz_X18_airlock_J33 hS hM ei1 ei2 ei3 k_0)
set_option maxRecDepth 20000 in
theorem qz_X18_airlock {P : Nat → Nat} {S : zm_S} {M : qm} {i1 : Int32} {qi1 : Int} {i2 : Int32} {qi2 : Int} {i3 : Int32} {qi3 : Int} (hS : Sh L xs P S) (hM : qM P S = M) (ei1 : i1.toInt = qi1) (ei2 : i2.toInt = qi2) (ei3 : i3.toInt = qi3) : qs (zf_X18_airlock 20000 2156 i1 i2 i3 S) (qf_X18_airlock 20000 qi1 qi2 qi3 M) (tO (rr L xs P vi)) := by
  unfold zf_X18_airlock qf_X18_airlock
  refine qs_gi hS hM pl_2156 ts_2156 (z := 10) rfl rfl (fun v4322 h4322 => ?_)
  refine qs_bp (qz_X18_isIn hS hM ei1 h4322) (fun v4323 S4323 w4323 h4323 hS4323 hM4323 => ?_)
  refine qs_ite (c_eq h4323 k_0) ?_ ?_
  · exact (qz_X18_airlock_J32 hS4323 hM4323 ei1 ei2 ei3)
  · refine qs_gi hS4323 hM4323 pl_2156 ts_2156 (z := 10) rfl rfl (fun v4324 h4324 => ?_)
    refine qs_bp (qz_X18_isIn hS4323 hM4323 ei2 h4324) (fun v4325 S4325 w4325 h4325 hS4325 hM4325 => ?_)
    refine qs_ite (c_eq h4325 k_0) ?_ ?_
    · exact (qz_X18_airlock_J32 hS4325 hM4325 ei1 ei2 ei3)
    · refine qs_ite (c_eq ei1 ei2) ?_ ?_
      · exact (qz_X18_airlock_J32 hS4325 hM4325 ei1 ei2 ei3)
      · exact (qz_X18_airlock_J33 hS4325 hM4325 ei1 ei2 ei3 k_1)
set_option maxRecDepth 20000 in
theorem qz_X0_isAirlock {P : Nat → Nat} {S : zm_S} {M : qm} {i1 : Int32} {qi1 : Int} {i2 : Int32} {qi2 : Int} (hS : Sh L xs P S) (hM : qM P S = M) (ei1 : i1.toInt = qi1) (ei2 : i2.toInt = qi2) : qs (zf_X0_isAirlock 20000 824 i1 i2 S) (qf_X0_isAirlock 20000 qi1 qi2 M) (tO (rp L xs P M vi)) := by
  unfold zf_X0_isAirlock qf_X0_isAirlock
  refine qs_gr hS pl_824 ts_824 rfl ?_
  refine qs_gi hS hM pl_824 ts_824 (z := 7) rfl rfl (fun v4327 h4327 => ?_)
  refine qs_gd (fun g4329 => ?_)
  refine qs_xld hS hM  (p_add (p_mul ei1 h4327) (p_div ei2 k_64 (by decide))) g4329 (fun v4328 h4328 => ?_)
  refine qs_ite (g_eq (pl_and (pl_shr h4328 (p_64 (p_mod ei2 k_64))) kl_1) kl_0) ?_ ?_
  · exact qs_tp (show vi _ _ from k_0) hS hM
  · exact qs_tp (show vi _ _ from k_1) hS hM
set_option maxRecDepth 20000 in
theorem qz_X0_setLockBit {P : Nat → Nat} {S : zm_S} {M : qm} {i1 : Int32} {qi1 : Int} {i2 : Int32} {qi2 : Int} {i3 : Int32} {qi3 : Int} (hS : Sh L xs P S) (hM : qM P S = M) (ei1 : i1.toInt = qi1) (ei2 : i2.toInt = qi2) (ei3 : i3.toInt = qi3) : qs (zf_X0_setLockBit 20000 824 i1 i2 i3 S) (qf_X0_setLockBit 20000 qi1 qi2 qi3 M) (tO (rr L xs P vu)) := by
  unfold zf_X0_setLockBit qf_X0_setLockBit
  refine qs_gi hS hM pl_824 ts_824 (z := 7) rfl rfl (fun v4330 h4330 => ?_)
  refine qs_gr hS pl_824 ts_824 rfl ?_
  refine qs_ite (c_eq ei3 k_0) ?_ ?_
  · refine qs_gr hS pl_824 ts_824 rfl ?_
    refine qs_gd (fun g4334 => ?_)
    refine qs_xld hS hM  (p_add (p_mul ei1 h4330) (p_div ei2 k_64 (by decide))) g4334 (fun v4333 h4333 => ?_)
    refine qs_gd (fun g4336 => ?_)
    refine qs_sld hS hM  (p_add (p_mul ei1 h4330) (p_div ei2 k_64 (by decide))) g4336 (pl_and h4333 (pl_xor (pl_shl kl_1 (p_64 (p_mod ei2 k_64))) kl_m1)) (fun S4335 M4335 hS4335 hM4335 => ?_)
    exact qs_tr (show vu _ _ from trivial) hS4335 hM4335
  · refine qs_gr hS pl_824 ts_824 rfl ?_
    refine qs_gd (fun g4339 => ?_)
    refine qs_xld hS hM  (p_add (p_mul ei1 h4330) (p_div ei2 k_64 (by decide))) g4339 (fun v4338 h4338 => ?_)
    refine qs_gd (fun g4341 => ?_)
    refine qs_sld hS hM  (p_add (p_mul ei1 h4330) (p_div ei2 k_64 (by decide))) g4341 (pl_or h4338 (pl_shl kl_1 (p_64 (p_mod ei2 k_64)))) (fun S4340 M4340 hS4340 hM4340 => ?_)
    exact qs_tr (show vu _ _ from trivial) hS4340 hM4340
set_option maxRecDepth 20000 in
theorem qz_X0_setAirlock {P : Nat → Nat} {S : zm_S} {M : qm} {i1 : Int32} {qi1 : Int} {i2 : Int32} {qi2 : Int} {i3 : Int32} {qi3 : Int} (hS : Sh L xs P S) (hM : qM P S = M) (ei1 : i1.toInt = qi1) (ei2 : i2.toInt = qi2) (ei3 : i3.toInt = qi3) : qs (zf_X0_setAirlock 20000 824 i1 i2 i3 S) (qf_X0_setAirlock 20000 qi1 qi2 qi3 M) (tO (rr L xs P vi)) := by
  unfold zf_X0_setAirlock qf_X0_setAirlock
  refine qs_zi hS pl_824 ts_824 ?_
  refine qs_bp (qz_X0_isAirlock hS hM ei1 ei2) (fun v4343 S4343 w4343 h4343 hS4343 hM4343 => ?_)
  refine qs_zi hS4343 pl_824 ts_824 ?_
  refine qs_b (qz_X0_setLockBit hS4343 hM4343 ei1 ei2 ei3) (fun v4345 S4345 w4345 M4345 h4345 hS4345 hM4345 => ?_)
  refine qs_zi hS4345 pl_824 ts_824 ?_
  refine qs_b (qz_X0_setLockBit hS4345 hM4345 ei2 ei1 ei3) (fun v4347 S4347 w4347 M4347 h4347 hS4347 hM4347 => ?_)
  refine qs_ite (or_congr (c_eq h4343 k_0) (c_eq h4343 k_1)) ?_ ?_
  · exact qs_tr (show vi _ _ from h4343) hS4347 hM4347
  · exact qs_none
set_option maxRecDepth 20000 in
theorem qz_X11_airlock_J26 {P : Nat → Nat} {S : zm_S} {M : qm} {i1 : Int32} {qi1 : Int} {i2 : Int32} {qi2 : Int} {i3 : Int32} {qi3 : Int} {t0 : Int32} {qt0 : Int} (hS : Sh L xs P S) (hM : qM P S = M) (ei1 : i1.toInt = qi1) (ei2 : i2.toInt = qi2) (ei3 : i3.toInt = qi3) (et0 : t0.toInt = qt0) : qs (zf_X11_airlock_J26 20000 6 i1 i2 i3 t0 S) (qf_X11_airlock_J26 20000 qi1 qi2 qi3 qt0 M) (tO (rr L xs P (vs vi ve))) := by
  unfold zf_X11_airlock_J26 qf_X11_airlock_J26
  refine qs_xp (qz_X11_needArgument hS hM et0) ?_ ?_
  · intro v4349 S4349 w4349 h4349 hS4349 hM4349
    dsimp only
    refine qs_gi hS4349 hM4349 pl_6 ts_6 (z := 11) rfl rfl (fun v4350 h4350 => ?_)
    refine qs_xp (qz_X11_needState hS4349 hM4349 h4350) ?_ ?_
    · intro v4352 S4352 w4352 h4352 hS4352 hM4352
      dsimp only
      refine qs_gr hS4352 pl_6 ts_6 rfl ?_
      refine qs_zi hS4352 pl_824 ts_824 ?_
      refine qs_b (qz_X0_setAirlock hS4352 hM4352 ei1 ei2 ei3) (fun v4355 S4355 w4355 M4355 h4355 hS4355 hM4355 => ?_)
      refine qs_ite (or_congr (c_eq h4355 k_0) (c_eq h4355 k_1)) ?_ ?_
      · exact qs_tr (show (vs vi ve) _ _ from h4355) hS4355 hM4355
      · exact qs_none
    · intro v4352 S4352 hS4352 hM4352
      dsimp only
      exact qs_tr (show (vs vi ve) _ _ from rfl) hS4352 hM4352
  · intro v4349 S4349 hS4349 hM4349
    dsimp only
    exact qs_tr (show (vs vi ve) _ _ from rfl) hS4349 hM4349
set_option maxRecDepth 20000 in
theorem qz_X11_airlock_J25 {P : Nat → Nat} {S : zm_S} {M : qm} {i1 : Int32} {qi1 : Int} {i2 : Int32} {qi2 : Int} {i3 : Int32} {qi3 : Int} (hS : Sh L xs P S) (hM : qM P S = M) (ei1 : i1.toInt = qi1) (ei2 : i2.toInt = qi2) (ei3 : i3.toInt = qi3) : qs (zf_X11_airlock_J25 20000 6 i1 i2 i3 S) (qf_X11_airlock_J25 20000 qi1 qi2 qi3 M) (tO (rr L xs P (vs vi ve))) := by
  unfold zf_X11_airlock_J25 qf_X11_airlock_J25
  exact (qz_X11_airlock_J26 hS hM ei1 ei2 ei3 k_0)
set_option maxRecDepth 20000 in
theorem qz_X11_airlock {P : Nat → Nat} {S : zm_S} {M : qm} {i1 : Int32} {qi1 : Int} {i2 : Int32} {qi2 : Int} {i3 : Int32} {qi3 : Int} (hS : Sh L xs P S) (hM : qM P S = M) (ei1 : i1.toInt = qi1) (ei2 : i2.toInt = qi2) (ei3 : i3.toInt = qi3) : qs (zf_X11_airlock 20000 6 i1 i2 i3 S) (qf_X11_airlock 20000 qi1 qi2 qi3 M) (tO (rr L xs P (vs vi ve))) := by
  unfold zf_X11_airlock qf_X11_airlock
  refine qs_zi hS pl_6 ts_6 ?_
  refine qs_bp (qz_X11_isPortal hS hM ei1) (fun v4357 S4357 w4357 h4357 hS4357 hM4357 => ?_)
  refine qs_ite (c_eq h4357 k_0) ?_ ?_
  · exact (qz_X11_airlock_J25 hS4357 hM4357 ei1 ei2 ei3)
  · refine qs_zi hS4357 pl_6 ts_6 ?_
    refine qs_bp (qz_X11_isPortal hS4357 hM4357 ei2) (fun v4359 S4359 w4359 h4359 hS4359 hM4359 => ?_)
    refine qs_ite (c_eq h4359 k_0) ?_ ?_
    · exact (qz_X11_airlock_J25 hS4359 hM4359 ei1 ei2 ei3)
    · refine qs_ite (c_eq ei1 ei2) ?_ ?_
      · exact (qz_X11_airlock_J25 hS4359 hM4359 ei1 ei2 ei3)
      · exact (qz_X11_airlock_J26 hS4359 hM4359 ei1 ei2 ei3 k_1)
set_option maxRecDepth 20000 in
theorem qz_L_airlock_J18 {P : Nat → Nat} {S : zm_S} {M : qm} {t1 : Int32} {qt1 : Int} {t2 : Int64} {qt2 : Int} (hS : Sh L xs P S) (hM : qM P S = M) (et1 : t1.toInt = qt1) (et2 : t2.toInt = qt2) : qs (zf_L_airlock_J18 20000 2332 t1 t2 S) (qf_L_airlock_J18 20000 qt1 qt2 M) (tO (rr L xs P vi)) := by
  unfold zf_L_airlock_J18 qf_L_airlock_J18
  refine qs_gd (fun g4361 => ?_)
  refine qs_sl hS hM (pa_p hS pl_2332 ts_2332) et1 g4361 et2 (fun S4360 M4360 hS4360 hM4360 => ?_)
  exact qs_tr (show vi _ _ from k_0) hS4360 hM4360
set_option maxRecDepth 20000 in
theorem qz_L_airlock {P : Nat → Nat} {S : zm_S} {M : qm} {i1 : Int32} {qi1 : Int} {i2 : Int32} {qi2 : Int} {i3 : Int32} {qi3 : Int} (hS : Sh L xs P S) (hM : qM P S = M) (ei1 : i1.toInt = qi1) (ei2 : i2.toInt = qi2) (ei3 : i3.toInt = qi3) : qs (zf_L_airlock 20000 6 i1 i2 i3 2332 S) (qf_L_airlock 20000 qi1 qi2 qi3 M) (tO (rr L xs P vi)) := by
  unfold zf_L_airlock qf_L_airlock
  refine qs_zi hS pl_6 ts_6 ?_
  refine qs_xr (qz_X11_airlock hS hM ei1 ei2 ei3) ?_ ?_
  · intro v4364 S4364 w4364 M4364 h4364 hS4364 hM4364
    dsimp only
    refine qs_ite (c_eq h4364 k_0) ?_ ?_
    · exact (qz_L_airlock_J18 hS4364 hM4364 k_0 kl_0)
    · exact (qz_L_airlock_J18 hS4364 hM4364 k_0 kl_1)
  · intro v4364 S4364 M4364 hS4364 hM4364
    dsimp only
    refine qs_ite Iff.rfl ?_ ?_
    · exact qs_tr (show vi _ _ from k_1) hS4364 hM4364
    · refine qs_ite Iff.rfl ?_ ?_
      · exact qs_tr (show vi _ _ from k_2) hS4364 hM4364
      · exact qs_none
set_option maxRecDepth 20000 in
theorem qz_X18_stands_J61 {P : Nat → Nat} {S : zm_S} {M : qm} {i1 : Int32} {qi1 : Int} {i2 : Int32} {qi2 : Int} {i3 : Int32} {qi3 : Int} {t1 : Int32} {qt1 : Int} {t2 : Int32} {qt2 : Int} (hS : Sh L xs P S) (hM : qM P S = M) (ei1 : i1.toInt = qi1) (ei2 : i2.toInt = qi2) (ei3 : i3.toInt = qi3) (et1 : t1.toInt = qt1) (et2 : t2.toInt = qt2) : qs (zf_X18_stands_J61 20000 2156 i1 i2 i3 2296 t1 t2 S) (qf_X18_stands_J61 20000 qi1 qi2 qi3 qt1 qt2 M) (tO (rr L xs P vi)) := by
  unfold zf_X18_stands_J61 qf_X18_stands_J61
  refine qs_gd (fun g4366 => ?_)
  refine qs_si hS hM (pa_p hS pl_2296 ts_2296) et1 g4366 et2 (fun S4365 M4365 hS4365 hM4365 => ?_)
  refine qs_gr hS4365 pl_2156 ts_2156 rfl ?_
  refine qs_gd (fun g4369 => ?_)
  refine qs_sz hS4365 hM4365 (pa_p hS4365 pl_2295 ts_2295) ei1 g4369.1 ei2 g4369.2 (fun S4368 M4368 hS4368 hM4368 => ?_)
  exact qs_tr (show vi _ _ from ei3) hS4368 hM4368
set_option maxRecDepth 20000 in
theorem qz_X18_stands {P : Nat → Nat} {S : zm_S} {M : qm} {i1 : Int32} {qi1 : Int} {i2 : Int32} {qi2 : Int} (hS : Sh L xs P S) (hM : qM P S = M) (ei1 : i1.toInt = qi1) (ei2 : i2.toInt = qi2) : qs (zf_X18_stands 20000 2156 i1 i2 S) (qf_X18_stands 20000 qi1 qi2 M) (tO (rr L xs P vi)) := by
  unfold zf_X18_stands qf_X18_stands
  refine qs_gi hS hM pl_2156 ts_2156 (z := 10) rfl rfl (fun v4370 h4370 => ?_)
  refine qs_bp (qz_X18_isIn hS hM ei1 h4370) (fun v4371 S4371 w4371 h4371 hS4371 hM4371 => ?_)
  refine qs_gi hS4371 hM4371 pl_2156 ts_2156 (z := 1) rfl rfl (fun v4372 h4372 => ?_)
  refine qs_zi hS4371 pl_2156 ts_2156 ?_
  refine qs_b (qz_X18_goes hS4371 hM4371 h4371 h4372) (fun v4374 S4374 w4374 M4374 h4374 hS4374 hM4374 => ?_)
  refine qs_ite (c_eq h4374 k_0) ?_ ?_
  · exact qs_tr (show vi _ _ from k_0) hS4374 hM4374
  · refine qs_gi hS4374 hM4374 pl_2156 ts_2156 (z := 2) rfl rfl (fun v4375 h4375 => ?_)
    refine qs_gr hS4374 pl_2156 ts_2156 rfl ?_
    refine qs_gd (fun g4378 => ?_)
    refine qs_xi hM4374 (pa_p hS4374 pl_2296 ts_2296) ei1 g4378 (fun v4377 h4377 => ?_)
    refine qs_gr hS4374 pl_2156 ts_2156 rfl ?_
    refine qs_gr hS4374 pl_2156 ts_2156 rfl ?_
    refine qs_gd (fun g4382 => ?_)
    refine qs_xi hM4374 (pa_p hS4374 pl_2295 ts_2295) ei1 g4382 (fun v4381 h4381 => ?_)
    refine qs_ite (c_eq h4381 ei2) ?_ ?_
    · refine qs_gr hS4374 pl_2156 ts_2156 rfl ?_
      refine qs_gd (fun g4385 => ?_)
      refine qs_xi hM4374 (pa_p hS4374 pl_2296 ts_2296) ei1 g4385 (fun v4384 h4384 => ?_)
      exact (qz_X18_stands_J61 hS4374 hM4374 ei1 ei2 (p_sub h4375 h4377) ei1 h4384)
    · refine qs_gi hS4374 hM4374 pl_2156 ts_2156 (z := 2) rfl rfl (fun v4386 h4386 => ?_)
      exact (qz_X18_stands_J61 hS4374 hM4374 ei1 ei2 (p_sub h4375 h4377) ei1 h4386)
set_option maxRecDepth 20000 in
theorem qz_X0_setOpen_J43 {P : Nat → Nat} {S : zm_S} {M : qm} {i1 : Int32} {qi1 : Int} {i3 : Int32} {qi3 : Int} {i4 : Int32} {qi4 : Int} {t1 : Int32} {qt1 : Int} {t2 : Int32} {qt2 : Int} {t3 : Int32} {qt3 : Int} (hS : Sh L xs P S) (hM : qM P S = M) (ei1 : i1.toInt = qi1) (ei3 : i3.toInt = qi3) (ei4 : i4.toInt = qi4) (et1 : t1.toInt = qt1) (et2 : t2.toInt = qt2) (et3 : t3.toInt = qt3) : qs (zf_X0_setOpen_J43 20000 824 i1 i3 i4 824 t1 t2 t3 S) (qf_X0_setOpen_J43 20000 qi1 qi3 qi4 qt1 qt2 qt3 M) (tO (rr L xs P vi)) := by
  unfold zf_X0_setOpen_J43 qf_X0_setOpen_J43
  refine qs_zi hS pl_824 ts_824 ?_
  refine qs_b (qz_X0_setFact hS hM et1 et2 et3) (fun v4388 S4388 w4388 M4388 h4388 hS4388 hM4388 => ?_)
  refine qs_zi hS4388 pl_824 ts_824 ?_
  refine qs_b (qz_X0_setFact hS4388 hM4388 ei1 k_9 ei3) (fun v4390 S4390 w4390 M4390 h4390 hS4390 hM4390 => ?_)
  exact qs_tr (show vi _ _ from ei4) hS4390 hM4390
set_option maxRecDepth 20000 in
theorem qz_X0_setOpen_J27 {P : Nat → Nat} {S : zm_S} {M : qm} {i1 : Int32} {qi1 : Int} {i2 : Int32} {qi2 : Int} {i3 : Int32} {qi3 : Int} {i4 : Int32} {qi4 : Int} {t0 : Int32} {qt0 : Int} {t1 : Int32} {qt1 : Int} (hS : Sh L xs P S) (hM : qM P S = M) (ei1 : i1.toInt = qi1) (ei2 : i2.toInt = qi2) (ei3 : i3.toInt = qi3) (ei4 : i4.toInt = qi4) (et0 : t0.toInt = qt0) (et1 : t1.toInt = qt1) : qs (zf_X0_setOpen_J27 20000 824 i1 i2 i3 i4 t0 t1 S) (qf_X0_setOpen_J27 20000 qi1 qi2 qi3 qi4 qt0 qt1 M) (tO (rr L xs P vi)) := by
  unfold zf_X0_setOpen_J27 qf_X0_setOpen_J27
  refine qs_ite (c_eq et0 et1) ?_ ?_
  · exact qs_tr (show vi _ _ from ei4) hS hM
  · refine qs_ite (c_eq ei2 k_0) ?_ ?_
    · exact (qz_X0_setOpen_J43 hS hM ei1 ei3 ei4 ei1 k_8 k_0)
    · exact (qz_X0_setOpen_J43 hS hM ei1 ei3 ei4 ei1 k_8 k_1)
set_option maxRecDepth 20000 in
theorem qz_X0_setOpen {P : Nat → Nat} {S : zm_S} {M : qm} {i1 : Int32} {qi1 : Int} {i2 : Int32} {qi2 : Int} {i3 : Int32} {qi3 : Int} (hS : Sh L xs P S) (hM : qM P S = M) (ei1 : i1.toInt = qi1) (ei2 : i2.toInt = qi2) (ei3 : i3.toInt = qi3) : qs (zf_X0_setOpen 20000 824 i1 i2 i3 S) (qf_X0_setOpen 20000 qi1 qi2 qi3 M) (tO (rr L xs P vi)) := by
  unfold zf_X0_setOpen qf_X0_setOpen
  refine qs_zi hS pl_824 ts_824 ?_
  refine qs_bp (qz_X0_factOf hS hM ei1 k_9) (fun v4392 S4392 w4392 h4392 hS4392 hM4392 => ?_)
  refine qs_zi hS4392 pl_824 ts_824 ?_
  refine qs_bp (qz_X0_factOf hS4392 hM4392 ei1 k_8) (fun v4394 S4394 w4394 h4394 hS4394 hM4394 => ?_)
  refine qs_ite (c_eq h4394 k_0) ?_ ?_
  · exact (qz_X0_setOpen_J27 hS4394 hM4394 ei1 ei2 ei3 (p_sub ei3 h4392) ei2 k_0)
  · exact (qz_X0_setOpen_J27 hS4394 hM4394 ei1 ei2 ei3 (p_sub ei3 h4392) ei2 k_1)
set_option maxRecDepth 20000 in
theorem qz_X11_stands {P : Nat → Nat} {S : zm_S} {M : qm} {i1 : Int32} {qi1 : Int} {i2 : Int32} {qi2 : Int} (hS : Sh L xs P S) (hM : qM P S = M) (ei1 : i1.toInt = qi1) (ei2 : i2.toInt = qi2) : qs (zf_X11_stands 20000 6 i1 i2 S) (qf_X11_stands 20000 qi1 qi2 M) (tO (rr L xs P (vs vi ve))) := by
  unfold zf_X11_stands qf_X11_stands
  refine qs_zi hS pl_6 ts_6 ?_
  refine qs_bp (qz_X11_isPortal hS hM ei1) (fun v4396 S4396 w4396 h4396 hS4396 hM4396 => ?_)
  refine qs_xp (qz_X11_needArgument hS4396 hM4396 h4396) ?_ ?_
  · intro v4398 S4398 w4398 h4398 hS4398 hM4398
    dsimp only
    refine qs_gi hS4398 hM4398 pl_6 ts_6 (z := 11) rfl rfl (fun v4399 h4399 => ?_)
    refine qs_xp (qz_X11_needState hS4398 hM4398 h4399) ?_ ?_
    · intro v4401 S4401 w4401 h4401 hS4401 hM4401
      dsimp only
      refine qs_gr hS4401 pl_6 ts_6 rfl ?_
      refine qs_gi hS4401 hM4401 pl_6 ts_6 (z := 12) rfl rfl (fun v4403 h4403 => ?_)
      refine qs_zi hS4401 pl_824 ts_824 ?_
      refine qs_b (qz_X0_setOpen hS4401 hM4401 ei1 ei2 h4403) (fun v4405 S4405 w4405 M4405 h4405 hS4405 hM4405 => ?_)
      exact qs_tr (show (vs vi ve) _ _ from h4405) hS4405 hM4405
    · intro v4401 S4401 hS4401 hM4401
      dsimp only
      exact qs_tr (show (vs vi ve) _ _ from rfl) hS4401 hM4401
  · intro v4398 S4398 hS4398 hM4398
    dsimp only
    exact qs_tr (show (vs vi ve) _ _ from rfl) hS4398 hM4398
set_option maxRecDepth 20000 in
theorem qz_L_stands {P : Nat → Nat} {S : zm_S} {M : qm} {i1 : Int32} {qi1 : Int} {i2 : Int32} {qi2 : Int} (hS : Sh L xs P S) (hM : qM P S = M) (ei1 : i1.toInt = qi1) (ei2 : i2.toInt = qi2) : qs (zf_L_stands 20000 6 i1 i2 2332 S) (qf_L_stands 20000 qi1 qi2 M) (tO (rr L xs P vi)) := by
  unfold zf_L_stands qf_L_stands
  refine qs_zi hS pl_6 ts_6 ?_
  refine qs_xr (qz_X11_stands hS hM ei1 ei2) ?_ ?_
  · intro v4408 S4408 w4408 M4408 h4408 hS4408 hM4408
    dsimp only
    refine qs_sl hS4408 hM4408 (pa_p hS4408 pl_2332 ts_2332) k_0 (by decide) (p_64 h4408) (fun S4409 M4409 hS4409 hM4409 => ?_)
    exact qs_tr (show vi _ _ from k_0) hS4409 hM4409
  · intro v4408 S4408 M4408 hS4408 hM4408
    dsimp only
    refine qs_ite Iff.rfl ?_ ?_
    · exact qs_tr (show vi _ _ from k_1) hS4408 hM4408
    · refine qs_ite Iff.rfl ?_ ?_
      · exact qs_tr (show vi _ _ from k_2) hS4408 hM4408
      · exact qs_none
set_option maxRecDepth 20000 in
theorem qz_X18_why_J194 {P : Nat → Nat} {S : zm_S} {M : qm} {i1 : Int32} {qi1 : Int} {i2 : Int32} {qi2 : Int} {i3 : Int32} {qi3 : Int} {i4 : Int32} {qi4 : Int} {i8 : Int32} {qi8 : Int} (hS : Sh L xs P S) (hM : qM P S = M) (ei1 : i1.toInt = qi1) (ei2 : i2.toInt = qi2) (ei3 : i3.toInt = qi3) (ei4 : i4.toInt = qi4) (ei8 : i8.toInt = qi8) {k : Nat → Int32 → Int32 → Int32 → Int32 → Int32 → Int32 → zm_S → Option ((Int32 × zm_S) ⊕ ((Int32) × zm_S))} : qs (zf_X18_why_J194 20000 k 2156 i1 i2 i3 i4 i8 S) (qf_X18_why_J194 20000 qi1 qi2 qi3 qi4 qi8 M) (tk (vs (rp L xs P M vi) (rp L xs P M vi)) (qc_X18_why_L89 L xs P M k)) := by
  unfold zf_X18_why_J194 qf_X18_why_J194
  exact qs_tk ⟨_, _, _, _, _, _, _, rfl, ei1, ei2, ei3, ei4, k_0, (p_add ei8 k_1), hS, hM⟩
set_option maxRecDepth 20000 in
theorem qz_X18_zoneOf {P : Nat → Nat} {S : zm_S} {M : qm} {i1 : Int32} {qi1 : Int} (hS : Sh L xs P S) (hM : qM P S = M) (ei1 : i1.toInt = qi1) : qs (zf_X18_zoneOf 20000 2156 i1 S) (qf_X18_zoneOf 20000 qi1 M) (tO (rp L xs P M vi)) := by
  unfold zf_X18_zoneOf qf_X18_zoneOf
  refine qs_gi hS hM pl_2156 ts_2156 (z := 9) rfl rfl (fun v4410 h4410 => ?_)
  refine qs_ite (c_eq ei1 h4410) ?_ ?_
  · exact qs_tp (show vi _ _ from k_m1) hS hM
  · refine qs_gr hS pl_2156 ts_2156 rfl ?_
    refine qs_gr hS pl_2157 ts_2157 rfl ?_
    refine qs_gd (fun g4414 => ?_)
    refine qs_xi hM (pa_s hS (d := 2172) rfl (by decide) (by decide) sf_2172) ei1 g4414 (fun v4413 h4413 => ?_)
    exact qs_tp (show vi _ _ from (p_mod h4413 k_10)) hS hM
set_option maxRecDepth 20000 in
theorem qz_X18_spans_J99 {P : Nat → Nat} {S : zm_S} {M : qm} {i1 : Int32} {qi1 : Int} {i2 : Int32} {qi2 : Int} {i3 : Int32} {qi3 : Int} {t0 : Int32} {qt0 : Int} (hS : Sh L xs P S) (hM : qM P S = M) (ei1 : i1.toInt = qi1) (ei2 : i2.toInt = qi2) (ei3 : i3.toInt = qi3) (et0 : t0.toInt = qt0) : qs (zf_X18_spans_J99 20000 2156 i1 i2 i3 t0 S) (qf_X18_spans_J99 20000 qi1 qi2 qi3 qt0 M) (tO (rp L xs P M vi)) := by
  unfold zf_X18_spans_J99 qf_X18_spans_J99
  refine qs_ite (c_eq et0 k_0) ?_ ?_
  · exact qs_tp (show vi _ _ from k_0) hS hM
  · refine qs_gr hS pl_2156 ts_2156 rfl ?_
    refine qs_gd (fun g4417 => ?_)
    refine qs_xi hM (pa_p hS pl_2314 ts_2314) ei1 g4417 (fun v4416 h4416 => ?_)
    refine qs_ite (c_eq h4416 ei2) ?_ ?_
    · refine qs_gr hS pl_2156 ts_2156 rfl ?_
      refine qs_gd (fun g4420 => ?_)
      refine qs_xi hM (pa_p hS pl_2315 ts_2315) ei1 g4420 (fun v4419 h4419 => ?_)
      refine qs_ite (c_eq h4419 ei3) ?_ ?_
      · exact qs_tp (show vi _ _ from k_1) hS hM
      · exact qs_tp (show vi _ _ from k_0) hS hM
    · exact qs_tp (show vi _ _ from k_0) hS hM
set_option maxRecDepth 20000 in
theorem qz_X18_spans_J98 {P : Nat → Nat} {S : zm_S} {M : qm} {i1 : Int32} {qi1 : Int} {i2 : Int32} {qi2 : Int} {i3 : Int32} {qi3 : Int} (hS : Sh L xs P S) (hM : qM P S = M) (ei1 : i1.toInt = qi1) (ei2 : i2.toInt = qi2) (ei3 : i3.toInt = qi3) : qs (zf_X18_spans_J98 20000 2156 i1 i2 i3 S) (qf_X18_spans_J98 20000 qi1 qi2 qi3 M) (tO (rp L xs P M vi)) := by
  unfold zf_X18_spans_J98 qf_X18_spans_J98
  exact (qz_X18_spans_J99 hS hM ei1 ei2 ei3 k_0)
set_option maxRecDepth 20000 in
theorem qz_X18_spans_J94 {P : Nat → Nat} {S : zm_S} {M : qm} {i1 : Int32} {qi1 : Int} {i2 : Int32} {qi2 : Int} {i3 : Int32} {qi3 : Int} (hS : Sh L xs P S) (hM : qM P S = M) (ei1 : i1.toInt = qi1) (ei2 : i2.toInt = qi2) (ei3 : i3.toInt = qi3) : qs (zf_X18_spans_J94 20000 2156 i1 i2 i3 S) (qf_X18_spans_J94 20000 qi1 qi2 qi3 M) (tO (rp L xs P M vi)) := by
  unfold zf_X18_spans_J94 qf_X18_spans_J94
  exact (qz_X18_spans_J99 hS hM ei1 ei2 ei3 k_1)
set_option maxRecDepth 20000 in
theorem qz_X18_spans_J65 {P : Nat → Nat} {S : zm_S} {M : qm} {i1 : Int32} {qi1 : Int} {i2 : Int32} {qi2 : Int} {i3 : Int32} {qi3 : Int} (hS : Sh L xs P S) (hM : qM P S = M) (ei1 : i1.toInt = qi1) (ei2 : i2.toInt = qi2) (ei3 : i3.toInt = qi3) : qs (zf_X18_spans_J65 20000 2156 i1 i2 i3 S) (qf_X18_spans_J65 20000 qi1 qi2 qi3 M) (tO (rp L xs P M vi)) := by
  unfold zf_X18_spans_J65 qf_X18_spans_J65
  exact (qz_X18_spans_J99 hS hM ei1 ei2 ei3 k_0)
set_option maxRecDepth 20000 in
theorem qz_X18_spans_J34 {P : Nat → Nat} {S : zm_S} {M : qm} {i1 : Int32} {qi1 : Int} {i2 : Int32} {qi2 : Int} {i3 : Int32} {qi3 : Int} {i5 : Int32} {qi5 : Int} {t0 : Int32} {qt0 : Int} (hS : Sh L xs P S) (hM : qM P S = M) (ei1 : i1.toInt = qi1) (ei2 : i2.toInt = qi2) (ei3 : i3.toInt = qi3) (ei5 : i5.toInt = qi5) (et0 : t0.toInt = qt0) : qs (zf_X18_spans_J34 20000 2156 i1 i2 i3 i5 t0 S) (qf_X18_spans_J34 20000 qi1 qi2 qi3 qi5 qt0 M) (tO (rp L xs P M vi)) := by
  unfold zf_X18_spans_J34 qf_X18_spans_J34
  refine qs_gr hS pl_2156 ts_2156 rfl ?_
  refine qs_gd (fun g4423 => ?_)
  refine qs_xi hM (pa_p hS pl_2316 ts_2316) ei1 g4423 (fun v4422 h4422 => ?_)
  refine qs_gr hS pl_2156 ts_2156 rfl ?_
  refine qs_gd (fun g4426 => ?_)
  refine qs_xi hM (pa_p hS pl_2317 ts_2317) ei1 g4426 (fun v4425 h4425 => ?_)
  refine qs_ite (c_le h4425 h4422) ?_ ?_
  · refine qs_gr hS pl_2156 ts_2156 rfl ?_
    refine qs_gd (fun g4429 => ?_)
    refine qs_xi hM (pa_p hS pl_2316 ts_2316) ei1 g4429 (fun v4428 h4428 => ?_)
    refine qs_gr hS pl_2156 ts_2156 rfl ?_
    refine qs_gd (fun g4432 => ?_)
    refine qs_xi hM (pa_p hS pl_2317 ts_2317) ei1 g4432 (fun v4431 h4431 => ?_)
    refine qs_ite (c_le h4428 h4431) ?_ ?_
    · exact (qz_X18_spans_J98 hS hM ei1 ei2 ei3)
    · refine qs_ite (c_eq ei5 k_0) ?_ ?_
      · refine qs_ite (c_eq et0 k_0) ?_ ?_
        · exact (qz_X18_spans_J98 hS hM ei1 ei2 ei3)
        · exact (qz_X18_spans_J94 hS hM ei1 ei2 ei3)
      · exact (qz_X18_spans_J94 hS hM ei1 ei2 ei3)
  · refine qs_ite (c_eq ei5 k_0) ?_ ?_
    · exact (qz_X18_spans_J65 hS hM ei1 ei2 ei3)
    · refine qs_ite (c_eq et0 k_0) ?_ ?_
      · exact (qz_X18_spans_J65 hS hM ei1 ei2 ei3)
      · exact (qz_X18_spans_J99 hS hM ei1 ei2 ei3 k_1)
set_option maxRecDepth 20000 in
theorem qz_X18_spans_J16 {P : Nat → Nat} {S : zm_S} {M : qm} {i1 : Int32} {qi1 : Int} {i2 : Int32} {qi2 : Int} {i3 : Int32} {qi3 : Int} {i4 : Int32} {qi4 : Int} {t0 : Int32} {qt0 : Int} (hS : Sh L xs P S) (hM : qM P S = M) (ei1 : i1.toInt = qi1) (ei2 : i2.toInt = qi2) (ei3 : i3.toInt = qi3) (ei4 : i4.toInt = qi4) (et0 : t0.toInt = qt0) : qs (zf_X18_spans_J16 20000 2156 i1 i2 i3 i4 t0 S) (qf_X18_spans_J16 20000 qi1 qi2 qi3 qi4 qt0 M) (tO (rp L xs P M vi)) := by
  unfold zf_X18_spans_J16 qf_X18_spans_J16
  refine qs_gr hS pl_2156 ts_2156 rfl ?_
  refine qs_gd (fun g4435 => ?_)
  refine qs_xi hM (pa_p hS pl_2317 ts_2317) ei1 g4435 (fun v4434 h4434 => ?_)
  refine qs_ite (c_le h4434 ei4) ?_ ?_
  · exact (qz_X18_spans_J34 hS hM ei1 ei2 ei3 et0 k_0)
  · exact (qz_X18_spans_J34 hS hM ei1 ei2 ei3 et0 k_1)
set_option maxRecDepth 20000 in
theorem qz_X18_spans {P : Nat → Nat} {S : zm_S} {M : qm} {i1 : Int32} {qi1 : Int} {i2 : Int32} {qi2 : Int} {i3 : Int32} {qi3 : Int} {i4 : Int32} {qi4 : Int} (hS : Sh L xs P S) (hM : qM P S = M) (ei1 : i1.toInt = qi1) (ei2 : i2.toInt = qi2) (ei3 : i3.toInt = qi3) (ei4 : i4.toInt = qi4) : qs (zf_X18_spans 20000 2156 i1 i2 i3 i4 S) (qf_X18_spans 20000 qi1 qi2 qi3 qi4 M) (tO (rp L xs P M vi)) := by
  unfold zf_X18_spans qf_X18_spans
  refine qs_gr hS pl_2156 ts_2156 rfl ?_
  refine qs_gd (fun g4438 => ?_)
  refine qs_xi hM (pa_p hS pl_2316 ts_2316) ei1 g4438 (fun v4437 h4437 => ?_)
  refine qs_ite (c_lt ei4 h4437) ?_ ?_
  · exact (qz_X18_spans_J16 hS hM ei1 ei2 ei3 ei4 k_0)
  · exact (qz_X18_spans_J16 hS hM ei1 ei2 ei3 ei4 k_1)
set_option maxRecDepth 20000 in
theorem qz_X18_why_J153 {P : Nat → Nat} {S : zm_S} {M : qm} {i1 : Int32} {qi1 : Int} {i2 : Int32} {qi2 : Int} {i3 : Int32} {qi3 : Int} {i4 : Int32} {qi4 : Int} {i8 : Int32} {qi8 : Int} {t0 : Int32} {qt0 : Int} (hS : Sh L xs P S) (hM : qM P S = M) (ei1 : i1.toInt = qi1) (ei2 : i2.toInt = qi2) (ei3 : i3.toInt = qi3) (ei4 : i4.toInt = qi4) (ei8 : i8.toInt = qi8) (et0 : t0.toInt = qt0) {k : Nat → Int32 → Int32 → Int32 → Int32 → Int32 → Int32 → zm_S → Option ((Int32 × zm_S) ⊕ ((Int32) × zm_S))} : qs (zf_X18_why_J153 20000 k 2156 i1 i2 i3 i4 i8 t0 S) (qf_X18_why_J153 20000 qi1 qi2 qi3 qi4 qi8 qt0 M) (tk (vs (rp L xs P M vi) (rp L xs P M vi)) (qc_X18_why_L89 L xs P M k)) := by
  unfold zf_X18_why_J153 qf_X18_why_J153
  refine qs_ite (c_eq et0 k_0) ?_ ?_
  · exact (qz_X18_why_J194 hS hM ei1 ei2 ei3 ei4 ei8)
  · refine qs_gr hS pl_2156 ts_2156 rfl ?_
    refine qs_gr hS pl_2156 ts_2156 rfl ?_
    refine qs_gd (fun g4442 => ?_)
    refine qs_xi hM (pa_p hS pl_2312 ts_2312) ei1 g4442 (fun v4441 h4441 => ?_)
    refine qs_gd (fun g4444 => ?_)
    refine qs_xi hM (pa_p hS pl_2304 ts_2304) h4441 g4444 (fun v4443 h4443 => ?_)
    refine qs_zi hS pl_2156 ts_2156 ?_
    refine qs_bp (qz_X18_zoneOf hS hM ei2) (fun v4446 S4446 w4446 h4446 hS4446 hM4446 => ?_)
    refine qs_zi hS4446 pl_2156 ts_2156 ?_
    refine qs_bp (qz_X18_spans hS4446 hM4446 ei8 h4443 h4446 (p_mod ei3 k_1440)) (fun v4448 S4448 w4448 h4448 hS4448 hM4448 => ?_)
    refine qs_ite (c_eq h4448 k_0) ?_ ?_
    · exact (qz_X18_why_J194 hS4448 hM4448 ei1 ei2 ei3 ei4 ei8)
    · exact qs_tk ⟨_, _, _, _, _, _, _, rfl, ei1, ei2, ei3, ei4, k_1, (p_add ei8 k_1), hS4448, hM4448⟩
set_option maxRecDepth 20000 in
theorem qz_X18_why_J152 {P : Nat → Nat} {S : zm_S} {M : qm} {i1 : Int32} {qi1 : Int} {i2 : Int32} {qi2 : Int} {i3 : Int32} {qi3 : Int} {i4 : Int32} {qi4 : Int} {i8 : Int32} {qi8 : Int} (hS : Sh L xs P S) (hM : qM P S = M) (ei1 : i1.toInt = qi1) (ei2 : i2.toInt = qi2) (ei3 : i3.toInt = qi3) (ei4 : i4.toInt = qi4) (ei8 : i8.toInt = qi8) {k : Nat → Int32 → Int32 → Int32 → Int32 → Int32 → Int32 → zm_S → Option ((Int32 × zm_S) ⊕ ((Int32) × zm_S))} : qs (zf_X18_why_J152 20000 k 2156 i1 i2 i3 i4 i8 S) (qf_X18_why_J152 20000 qi1 qi2 qi3 qi4 qi8 M) (tk (vs (rp L xs P M vi) (rp L xs P M vi)) (qc_X18_why_L89 L xs P M k)) := by
  unfold zf_X18_why_J152 qf_X18_why_J152
  exact (qz_X18_why_J153 hS hM ei1 ei2 ei3 ei4 ei8 k_0)
set_option maxRecDepth 20000 in
theorem qz_X18_why_J148 {P : Nat → Nat} {S : zm_S} {M : qm} {i1 : Int32} {qi1 : Int} {i2 : Int32} {qi2 : Int} {i3 : Int32} {qi3 : Int} {i4 : Int32} {qi4 : Int} {i8 : Int32} {qi8 : Int} (hS : Sh L xs P S) (hM : qM P S = M) (ei1 : i1.toInt = qi1) (ei2 : i2.toInt = qi2) (ei3 : i3.toInt = qi3) (ei4 : i4.toInt = qi4) (ei8 : i8.toInt = qi8) {k : Nat → Int32 → Int32 → Int32 → Int32 → Int32 → Int32 → zm_S → Option ((Int32 × zm_S) ⊕ ((Int32) × zm_S))} : qs (zf_X18_why_J148 20000 k 2156 i1 i2 i3 i4 i8 S) (qf_X18_why_J148 20000 qi1 qi2 qi3 qi4 qi8 M) (tk (vs (rp L xs P M vi) (rp L xs P M vi)) (qc_X18_why_L89 L xs P M k)) := by
  unfold zf_X18_why_J148 qf_X18_why_J148
  exact (qz_X18_why_J153 hS hM ei1 ei2 ei3 ei4 ei8 k_1)
set_option maxRecDepth 20000 in
theorem qz_X18_why_L89_b (n : Nat) {P : Nat → Nat} {S : zm_S} {M : qm} {i1 : Int32} {qi1 : Int} {i2 : Int32} {qi2 : Int} {i3 : Int32} {qi3 : Int} {i4 : Int32} {qi4 : Int} {i7 : Int32} {qi7 : Int} {i8 : Int32} {qi8 : Int} (hS : Sh L xs P S) (hM : qM P S = M) (ei1 : i1.toInt = qi1) (ei2 : i2.toInt = qi2) (ei3 : i3.toInt = qi3) (ei4 : i4.toInt = qi4) (ei7 : i7.toInt = qi7) (ei8 : i8.toInt = qi8) : qs (zf_X18_why_L89 20000 (n + 1) 2156 i1 i2 i3 i4 i7 i8 S) (qf_X18_why_L89_b 20000 qi1 qi2 qi3 qi4 qi7 qi8 M) (tk (vs (rp L xs P M vi) (rp L xs P M vi)) (qc_X18_why_L89 L xs P M (zf_X18_why_L89 20000 n))) := by
  refine qs_eq (zf_X18_why_L89.eq_2 ..) ?_
  unfold qf_X18_why_L89_b
  refine qs_gi hS hM pl_2156 ts_2156 (z := 39) rfl rfl (fun v4449 h4449 => ?_)
  refine qs_ite (c_le h4449 ei8) ?_ ?_
  · exact qs_tp2 (show vi _ _ from ei7) hS hM
  · refine qs_ite (c_eq ei7 k_0) ?_ ?_
    · refine qs_zi hS pl_2156 ts_2156 ?_
      refine qs_bp (qz_X18_lastTold hS hM k_2 ei8 ei4) (fun v4451 S4451 w4451 h4451 hS4451 hM4451 => ?_)
      refine qs_zi hS4451 pl_2156 ts_2156 ?_
      refine qs_bp (qz_X18_lastTold hS4451 hM4451 k_1 ei8 ei4) (fun v4453 S4453 w4453 h4453 hS4453 hM4453 => ?_)
      refine qs_ite (c_lt h4453 k_0) ?_ ?_
      · exact (qz_X18_why_J152 hS4453 hM4453 ei1 ei2 ei3 ei4 ei8)
      · refine qs_gr hS4453 pl_2156 ts_2156 rfl ?_
        refine qs_gd (fun g4456 => ?_)
        refine qs_xi hM4453 (pa_p hS4453 pl_2318 ts_2318) ei8 g4456 (fun v4455 h4455 => ?_)
        refine qs_ite (c_lt ei3 h4455) ?_ ?_
        · exact (qz_X18_why_J152 hS4453 hM4453 ei1 ei2 ei3 ei4 ei8)
        · refine qs_ite (c_lt h4451 k_0) ?_ ?_
          · exact (qz_X18_why_J148 hS4453 hM4453 ei1 ei2 ei3 ei4 ei8)
          · refine qs_ite (c_le h4451 ei3) ?_ ?_
            · exact (qz_X18_why_J152 hS4453 hM4453 ei1 ei2 ei3 ei4 ei8)
            · exact (qz_X18_why_J148 hS4453 hM4453 ei1 ei2 ei3 ei4 ei8)
    · exact qs_tp2 (show vi _ _ from ei7) hS hM
theorem qz_X18_why_L89 (n : Nat) : ∀ {P : Nat → Nat} {S : zm_S} {M : qm} {i1 : Int32} {qi1 : Int} {i2 : Int32} {qi2 : Int} {i3 : Int32} {qi3 : Int} {i4 : Int32} {qi4 : Int} {i7 : Int32} {qi7 : Int} {i8 : Int32} {qi8 : Int} (hS : Sh L xs P S) (hM : qM P S = M) (ei1 : i1.toInt = qi1) (ei2 : i2.toInt = qi2) (ei3 : i3.toInt = qi3) (ei4 : i4.toInt = qi4) (ei7 : i7.toInt = qi7) (ei8 : i8.toInt = qi8), qs (zf_X18_why_L89 20000 n 2156 i1 i2 i3 i4 i7 i8 S) (qf_X18_why_L89 20000 n qi1 qi2 qi3 qi4 qi7 qi8 M) (tO (vs (rp L xs P M vi) (rp L xs P M vi))) := by
  induction n with
  | zero =>
    intros
    exact qs_none
  | succ n ih =>
    intro P S M i1 qi1 i2 qi2 i3 qi3 i4 qi4 i7 qi7 i8 qi8 hS hM ei1 ei2 ei3 ei4 ei7 ei8
    unfold qf_X18_why_L89
    refine qs_loop (C := (qc_X18_why_L89 L xs P M (zf_X18_why_L89 20000 n))) (qz_X18_why_L89_b n hS hM ei1 ei2 ei3 ei4 ei7 ei8) ?_
    rintro x s ⟨_, _, _, _, _, _, _, rfl, u0, u1, u2, u3, u4, u5, hS2, hM2⟩
    exact ih hS2 hM2 u0 u1 u2 u3 u4 u5
set_option maxRecDepth 20000 in
theorem qz_X18_why_J203 {P : Nat → Nat} {S : zm_S} {M : qm} {i7 : Int32} {qi7 : Int} (hS : Sh L xs P S) (hM : qM P S = M) (ei7 : i7.toInt = qi7) : qs (zf_X18_why_J203 20000 i7 S) (qf_X18_why_J203 20000 qi7 M) (tO (rp L xs P M vi)) := by
  unfold zf_X18_why_J203 qf_X18_why_J203
  refine qs_ite (c_eq ei7 k_0) ?_ ?_
  · exact qs_tp (show vi _ _ from k_5) hS hM
  · exact qs_tp (show vi _ _ from k_0) hS hM
set_option maxRecDepth 20000 in
theorem qz_X18_why_J84 {P : Nat → Nat} {S : zm_S} {M : qm} {i1 : Int32} {qi1 : Int} {i2 : Int32} {qi2 : Int} {i3 : Int32} {qi3 : Int} {i4 : Int32} {qi4 : Int} {t0 : Int32} {qt0 : Int} (hS : Sh L xs P S) (hM : qM P S = M) (ei1 : i1.toInt = qi1) (ei2 : i2.toInt = qi2) (ei3 : i3.toInt = qi3) (ei4 : i4.toInt = qi4) (et0 : t0.toInt = qt0) : qs (zf_X18_why_J84 20000 2156 i1 i2 i3 i4 t0 S) (qf_X18_why_J84 20000 qi1 qi2 qi3 qi4 qt0 M) (tO (rp L xs P M vi)) := by
  unfold zf_X18_why_J84 qf_X18_why_J84
  refine qs_lp (qz_X18_why_L89 20000 hS hM ei1 ei2 ei3 ei4 et0 k_0) ?_ ?_
  · intro v4458 S4458 w4458 h4458 hS4458 hM4458
    dsimp only
    exact qs_tp h4458 hS4458 hM4458
  · intro v4458 S4458 w4458 h4458 hS4458 hM4458
    dsimp only
    exact (qz_X18_why_J203 hS4458 hM4458 h4458)
set_option maxRecDepth 20000 in
theorem qz_X18_why_J71 {P : Nat → Nat} {S : zm_S} {M : qm} {i1 : Int32} {qi1 : Int} {i2 : Int32} {qi2 : Int} {i3 : Int32} {qi3 : Int} {i4 : Int32} {qi4 : Int} (hS : Sh L xs P S) (hM : qM P S = M) (ei1 : i1.toInt = qi1) (ei2 : i2.toInt = qi2) (ei3 : i3.toInt = qi3) (ei4 : i4.toInt = qi4) : qs (zf_X18_why_J71 20000 2156 i1 i2 i3 i4 S) (qf_X18_why_J71 20000 qi1 qi2 qi3 qi4 M) (tO (rp L xs P M vi)) := by
  unfold zf_X18_why_J71 qf_X18_why_J71
  refine qs_gi hS hM pl_2156 ts_2156 (z := 9) rfl rfl (fun v4459 h4459 => ?_)
  refine qs_ite (c_eq ei2 h4459) ?_ ?_
  · exact (qz_X18_why_J84 hS hM ei1 ei2 ei3 ei4 k_1)
  · exact (qz_X18_why_J84 hS hM ei1 ei2 ei3 ei4 k_0)
set_option maxRecDepth 20000 in
theorem qz_X18_why_J48 {P : Nat → Nat} {S : zm_S} {M : qm} {i1 : Int32} {qi1 : Int} {i2 : Int32} {qi2 : Int} {i3 : Int32} {qi3 : Int} {i4 : Int32} {qi4 : Int} {i5 : Int32} {qi5 : Int} (hS : Sh L xs P S) (hM : qM P S = M) (ei1 : i1.toInt = qi1) (ei2 : i2.toInt = qi2) (ei3 : i3.toInt = qi3) (ei4 : i4.toInt = qi4) (ei5 : i5.toInt = qi5) : qs (zf_X18_why_J48 20000 2156 i1 i2 i3 i4 i5 S) (qf_X18_why_J48 20000 qi1 qi2 qi3 qi4 qi5 M) (tO (rp L xs P M vi)) := by
  unfold zf_X18_why_J48 qf_X18_why_J48
  refine qs_ite (c_lt ei5 k_0) ?_ ?_
  · exact (qz_X18_why_J71 hS hM ei1 ei2 ei3 ei4)
  · refine qs_gr hS pl_2156 ts_2156 rfl ?_
    refine qs_gr hS pl_2156 ts_2156 rfl ?_
    refine qs_gd (fun g4463 => ?_)
    refine qs_xi hM (pa_p hS pl_2312 ts_2312) ei1 g4463 (fun v4462 h4462 => ?_)
    refine qs_gd (fun g4465 => ?_)
    refine qs_xi hM (pa_p hS pl_2306 ts_2306) h4462 g4465 (fun v4464 h4464 => ?_)
    refine qs_ite (c_eq h4464 ei5) ?_ ?_
    · exact (qz_X18_why_J71 hS hM ei1 ei2 ei3 ei4)
    · exact qs_tp (show vi _ _ from k_4) hS hM
set_option maxRecDepth 20000 in
theorem qz_X18_why {P : Nat → Nat} {S : zm_S} {M : qm} {i1 : Int32} {qi1 : Int} {i2 : Int32} {qi2 : Int} {i3 : Int32} {qi3 : Int} {i4 : Int32} {qi4 : Int} {i5 : Int32} {qi5 : Int} (hS : Sh L xs P S) (hM : qM P S = M) (ei1 : i1.toInt = qi1) (ei2 : i2.toInt = qi2) (ei3 : i3.toInt = qi3) (ei4 : i4.toInt = qi4) (ei5 : i5.toInt = qi5) : qs (zf_X18_why 20000 2156 i1 i2 i3 i4 i5 S) (qf_X18_why 20000 qi1 qi2 qi3 qi4 qi5 M) (tO (rp L xs P M vi)) := by
  unfold zf_X18_why qf_X18_why
  refine qs_zi hS pl_2156 ts_2156 ?_
  refine qs_bp (qz_X18_lastTold hS hM k_0 ei1 ei4) (fun v4467 S4467 w4467 h4467 hS4467 hM4467 => ?_)
  refine qs_ite (c_le k_0 h4467) ?_ ?_
  · refine qs_gr hS4467 pl_2156 ts_2156 rfl ?_
    refine qs_gd (fun g4470 => ?_)
    refine qs_xi hM4467 (pa_p hS4467 pl_2313 ts_2313) ei1 g4470 (fun v4469 h4469 => ?_)
    refine qs_ite (c_le ei3 h4469) ?_ ?_
    · refine qs_zi hS4467 pl_2156 ts_2156 ?_
      refine qs_bp (qz_X18_lastTold hS4467 hM4467 k_3 ei1 ei4) (fun v4472 S4472 w4472 h4472 hS4472 hM4472 => ?_)
      refine qs_ite (c_lt h4472 k_0) ?_ ?_
      · exact (qz_X18_why_J48 hS4472 hM4472 ei1 ei2 ei3 ei4 ei5)
      · refine qs_ite (c_lt ei3 h4472) ?_ ?_
        · exact (qz_X18_why_J48 hS4472 hM4472 ei1 ei2 ei3 ei4 ei5)
        · exact qs_tp (show vi _ _ from k_3) hS4472 hM4472
    · exact qs_tp (show vi _ _ from k_2) hS4467 hM4467
  · exact qs_tp (show vi _ _ from k_1) hS4467 hM4467
set_option maxRecDepth 20000 in
theorem qz_X18_off_J224 {P : Nat → Nat} {S : zm_S} {M : qm} {i1 : Int32} {qi1 : Int} {i3 : Int32} {qi3 : Int} {t1 : Int32} {qt1 : Int} {t2 : Int32} {qt2 : Int} (hS : Sh L xs P S) (hM : qM P S = M) (ei1 : i1.toInt = qi1) (ei3 : i3.toInt = qi3) (et1 : t1.toInt = qt1) (et2 : t2.toInt = qt2) {k : Nat → Int32 → Int32 → zm_S → Option ((Int32 × zm_S) ⊕ ((Unit) × zm_S))} : qs (zf_X18_off_J224 20000 k 2156 i1 i3 2156 t1 t2 S) (qf_X18_off_J224 20000 qi1 qi3 qt1 qt2 M) (tk (vs (rr L xs P vi) (rr L xs P vu)) (qc_X18_off_L60 L xs P k)) := by
  unfold zf_X18_off_J224 qf_X18_off_J224
  refine qs_pi hS hM pl_2156 ts_2156 (z := 49) rfl rfl (p_add et1 et2) (fun S4473 M4473 hS4473 hM4473 => ?_)
  exact qs_tk ⟨_, _, _, rfl, ei1, (p_add ei3 k_1), hS4473, hM4473⟩
set_option maxRecDepth 20000 in
theorem qz_X18_off_J209 {P : Nat → Nat} {S : zm_S} {M : qm} {i1 : Int32} {qi1 : Int} {i3 : Int32} {qi3 : Int} {i6 : Int32} {qi6 : Int} (hS : Sh L xs P S) (hM : qM P S = M) (ei1 : i1.toInt = qi1) (ei3 : i3.toInt = qi3) (ei6 : i6.toInt = qi6) {k : Nat → Int32 → Int32 → zm_S → Option ((Int32 × zm_S) ⊕ ((Unit) × zm_S))} : qs (zf_X18_off_J209 20000 k 2156 i1 i3 i6 S) (qf_X18_off_J209 20000 qi1 qi3 qi6 M) (tk (vs (rr L xs P vi) (rr L xs P vu)) (qc_X18_off_L60 L xs P k)) := by
  unfold zf_X18_off_J209 qf_X18_off_J209
  refine qs_gi hS hM pl_2156 ts_2156 (z := 49) rfl rfl (fun v4474 h4474 => ?_)
  refine qs_ite (c_le ei6 k_0) ?_ ?_
  · exact (qz_X18_off_J224 hS hM ei1 ei3 h4474 k_0)
  · exact (qz_X18_off_J224 hS hM ei1 ei3 h4474 k_1)
set_option maxRecDepth 20000 in
theorem qz_X18_off_J121 {P : Nat → Nat} {S : zm_S} {M : qm} {i1 : Int32} {qi1 : Int} {i3 : Int32} {qi3 : Int} {i4 : Int32} {qi4 : Int} {i5 : Int32} {qi5 : Int} (hS : Sh L xs P S) (hM : qM P S = M) (ei1 : i1.toInt = qi1) (ei3 : i3.toInt = qi3) (ei4 : i4.toInt = qi4) (ei5 : i5.toInt = qi5) {k : Nat → Int32 → Int32 → zm_S → Option ((Int32 × zm_S) ⊕ ((Unit) × zm_S))} : qs (zf_X18_off_J121 20000 k 2156 i1 i3 i4 i5 S) (qf_X18_off_J121 20000 qi1 qi3 qi4 qi5 M) (tk (vs (rr L xs P vi) (rr L xs P vu)) (qc_X18_off_L60 L xs P k)) := by
  unfold zf_X18_off_J121 qf_X18_off_J121
  refine qs_gr hS pl_2156 ts_2156 rfl ?_
  refine qs_gd (fun g4477 => ?_)
  refine qs_xi hM (pa_p hS pl_2300 ts_2300) ei4 g4477 (fun v4476 h4476 => ?_)
  refine qs_gr hS pl_2156 ts_2156 rfl ?_
  refine qs_gd (fun g4480 => ?_)
  refine qs_xi hM (pa_p hS pl_2301 ts_2301) ei4 g4480 (fun v4479 h4479 => ?_)
  refine qs_zi hS pl_2156 ts_2156 ?_
  refine qs_bp (qz_X18_why hS hM ei5 h4476 h4479 k_2147483647 k_m1) (fun v4482 S4482 w4482 h4482 hS4482 hM4482 => ?_)
  refine qs_ite (c_le h4482 k_0) ?_ ?_
  · exact (qz_X18_off_J209 hS4482 hM4482 ei1 ei3 h4482)
  · refine qs_gi hS4482 hM4482 pl_2156 ts_2156 (z := 49) rfl rfl (fun v4483 h4483 => ?_)
    refine qs_ite (c_le k_100 h4483) ?_ ?_
    · exact (qz_X18_off_J209 hS4482 hM4482 ei1 ei3 h4482)
    · refine qs_gr hS4482 pl_2156 ts_2156 rfl ?_
      refine qs_gi hS4482 hM4482 pl_2156 ts_2156 (z := 49) rfl rfl (fun v4485 h4485 => ?_)
      refine qs_gd (fun g4487 => ?_)
      refine qs_si hS4482 hM4482 (pa_p hS4482 pl_2322 ts_2322) h4485 g4487 ei1 (fun S4486 M4486 hS4486 hM4486 => ?_)
      refine qs_gr hS4486 pl_2156 ts_2156 rfl ?_
      refine qs_gi hS4486 hM4486 pl_2156 ts_2156 (z := 49) rfl rfl (fun v4489 h4489 => ?_)
      refine qs_gd (fun g4491 => ?_)
      refine qs_si hS4486 hM4486 (pa_p hS4486 pl_2323 ts_2323) h4489 g4491 ei5 (fun S4490 M4490 hS4490 hM4490 => ?_)
      refine qs_gr hS4490 pl_2156 ts_2156 rfl ?_
      refine qs_gi hS4490 hM4490 pl_2156 ts_2156 (z := 49) rfl rfl (fun v4493 h4493 => ?_)
      refine qs_gr hS4490 pl_2156 ts_2156 rfl ?_
      refine qs_gd (fun g4496 => ?_)
      refine qs_xi hM4490 (pa_p hS4490 pl_2301 ts_2301) ei4 g4496 (fun v4495 h4495 => ?_)
      refine qs_gd (fun g4498 => ?_)
      refine qs_si hS4490 hM4490 (pa_p hS4490 pl_2324 ts_2324) h4493 g4498 h4495 (fun S4497 M4497 hS4497 hM4497 => ?_)
      refine qs_gr hS4497 pl_2156 ts_2156 rfl ?_
      refine qs_gi hS4497 hM4497 pl_2156 ts_2156 (z := 49) rfl rfl (fun v4500 h4500 => ?_)
      refine qs_gd (fun g4502 => ?_)
      refine qs_si hS4497 hM4497 (pa_p hS4497 pl_2325 ts_2325) h4500 g4502 h4482 (fun S4501 M4501 hS4501 hM4501 => ?_)
      exact (qz_X18_off_J209 hS4501 hM4501 ei1 ei3 h4482)
set_option maxRecDepth 20000 in
theorem qz_X18_enter_J103 {P : Nat → Nat} {S : zm_S} {M : qm} {i1 : Int32} {qi1 : Int} {t1 : Int32} {qt1 : Int} {t2 : Int32} {qt2 : Int} (hS : Sh L xs P S) (hM : qM P S = M) (ei1 : i1.toInt = qi1) (et1 : t1.toInt = qt1) (et2 : t2.toInt = qt2) : qs (zf_X18_enter_J103 20000 2156 i1 2308 t1 t2 S) (qf_X18_enter_J103 20000 qi1 qt1 qt2 M) (tO (rr L xs P vu)) := by
  unfold zf_X18_enter_J103 qf_X18_enter_J103
  refine qs_gd (fun g4504 => ?_)
  refine qs_si hS hM (pa_p hS pl_2308 ts_2308) et1 g4504 et2 (fun S4503 M4503 hS4503 hM4503 => ?_)
  refine qs_gr hS4503 pl_2156 ts_2156 rfl ?_
  refine qs_gi hS4503 hM4503 pl_2156 ts_2156 (z := 2) rfl rfl (fun v4506 h4506 => ?_)
  refine qs_gd (fun g4508 => ?_)
  refine qs_si hS4503 hM4503 (pa_p hS4503 pl_2311 ts_2311) ei1 g4508 h4506 (fun S4507 M4507 hS4507 hM4507 => ?_)
  exact qs_tr (show vu _ _ from trivial) hS4507 hM4507
set_option maxRecDepth 20000 in
theorem qz_X18_enter_J63 {P : Nat → Nat} {S : zm_S} {M : qm} {i1 : Int32} {qi1 : Int} {i2 : Int32} {qi2 : Int} {i3 : Int32} {qi3 : Int} {i4 : Int32} {qi4 : Int} {t1 : Int32} {qt1 : Int} {t2 : Int32} {qt2 : Int} (hS : Sh L xs P S) (hM : qM P S = M) (ei1 : i1.toInt = qi1) (ei2 : i2.toInt = qi2) (ei3 : i3.toInt = qi3) (ei4 : i4.toInt = qi4) (et1 : t1.toInt = qt1) (et2 : t2.toInt = qt2) : qs (zf_X18_enter_J63 20000 2156 i1 i2 i3 i4 2307 t1 t2 S) (qf_X18_enter_J63 20000 qi1 qi2 qi3 qi4 qt1 qt2 M) (tO (rr L xs P vu)) := by
  unfold zf_X18_enter_J63 qf_X18_enter_J63
  refine qs_gd (fun g4510 => ?_)
  refine qs_si hS hM (pa_p hS pl_2307 ts_2307) et1 g4510 et2 (fun S4509 M4509 hS4509 hM4509 => ?_)
  refine qs_gr hS4509 pl_2156 ts_2156 rfl ?_
  refine qs_gi hS4509 hM4509 pl_2156 ts_2156 (z := 9) rfl rfl (fun v4512 h4512 => ?_)
  refine qs_ite (c_eq ei3 h4512) ?_ ?_
  · exact (qz_X18_enter_J103 hS4509 hM4509 ei1 ei1 k_m1)
  · refine qs_gr hS4509 pl_2156 ts_2156 rfl ?_
    refine qs_gr hS4509 pl_2156 ts_2156 rfl ?_
    refine qs_gd (fun g4516 => ?_)
    refine qs_xi hM4509 (pa_p hS4509 pl_2291 ts_2291) ei2 g4516 (fun v4515 h4515 => ?_)
    refine qs_gr hS4509 pl_2156 ts_2156 rfl ?_
    refine qs_gd (fun g4519 => ?_)
    refine qs_xi hM4509 (pa_p hS4509 pl_2293 ts_2293) ei2 g4519 (fun v4518 h4518 => ?_)
    refine qs_zi hS4509 pl_2157 ts_2157 ?_
    refine qs_bp (qz_X16_cellAt hS4509 hM4509 h4515 h4518 ei4 k_0) (fun v4521 S4521 w4521 h4521 hS4521 hM4521 => ?_)
    exact (qz_X18_enter_J103 hS4521 hM4521 ei1 ei1 h4521)
set_option maxRecDepth 20000 in
theorem qz_X18_enter_J22 {P : Nat → Nat} {S : zm_S} {M : qm} {i1 : Int32} {qi1 : Int} {i2 : Int32} {qi2 : Int} {i3 : Int32} {qi3 : Int} {t0 : Int32} {qt0 : Int} (hS : Sh L xs P S) (hM : qM P S = M) (ei1 : i1.toInt = qi1) (ei2 : i2.toInt = qi2) (ei3 : i3.toInt = qi3) (et0 : t0.toInt = qt0) : qs (zf_X18_enter_J22 20000 2156 i1 i2 i3 t0 S) (qf_X18_enter_J22 20000 qi1 qi2 qi3 qt0 M) (tO (rr L xs P vu)) := by
  unfold zf_X18_enter_J22 qf_X18_enter_J22
  refine qs_gr hS pl_2156 ts_2156 rfl ?_
  refine qs_gi hS hM pl_2156 ts_2156 (z := 9) rfl rfl (fun v4523 h4523 => ?_)
  refine qs_ite (c_eq ei3 h4523) ?_ ?_
  · exact (qz_X18_enter_J63 hS hM ei1 ei2 ei3 et0 ei1 k_m1)
  · refine qs_gr hS pl_2156 ts_2156 rfl ?_
    refine qs_gr hS pl_2156 ts_2156 rfl ?_
    refine qs_gd (fun g4527 => ?_)
    refine qs_xi hM (pa_p hS pl_2291 ts_2291) ei2 g4527 (fun v4526 h4526 => ?_)
    refine qs_gr hS pl_2156 ts_2156 rfl ?_
    refine qs_gd (fun g4530 => ?_)
    refine qs_xi hM (pa_p hS pl_2293 ts_2293) ei2 g4530 (fun v4529 h4529 => ?_)
    refine qs_zi hS pl_2157 ts_2157 ?_
    refine qs_bp (qz_X16_cellAt hS hM h4526 h4529 et0 k_1) (fun v4532 S4532 w4532 h4532 hS4532 hM4532 => ?_)
    exact (qz_X18_enter_J63 hS4532 hM4532 ei1 ei2 ei3 et0 ei1 h4532)
set_option maxRecDepth 20000 in
theorem qz_X18_enter {P : Nat → Nat} {S : zm_S} {M : qm} {i1 : Int32} {qi1 : Int} {i2 : Int32} {qi2 : Int} {i3 : Int32} {qi3 : Int} (hS : Sh L xs P S) (hM : qM P S = M) (ei1 : i1.toInt = qi1) (ei2 : i2.toInt = qi2) (ei3 : i3.toInt = qi3) : qs (zf_X18_enter 20000 2156 i1 i2 i3 S) (qf_X18_enter 20000 qi1 qi2 qi3 M) (tO (rr L xs P vu)) := by
  unfold zf_X18_enter qf_X18_enter
  refine qs_gr hS pl_2156 ts_2156 rfl ?_
  refine qs_gd (fun g4535 => ?_)
  refine qs_si hS hM (pa_p hS pl_2306 ts_2306) ei1 g4535 ei3 (fun S4534 M4534 hS4534 hM4534 => ?_)
  refine qs_gr hS4534 pl_2156 ts_2156 rfl ?_
  refine qs_gd (fun g4538 => ?_)
  refine qs_xi hM4534 (pa_p hS4534 pl_2289 ts_2289) ei2 g4538 (fun v4537 h4537 => ?_)
  refine qs_ite (c_eq ei3 h4537) ?_ ?_
  · exact (qz_X18_enter_J22 hS4534 hM4534 ei1 ei2 ei3 k_1)
  · exact (qz_X18_enter_J22 hS4534 hM4534 ei1 ei2 ei3 k_0)
set_option maxRecDepth 20000 in
theorem qz_X18_off_L60_b (n : Nat) {P : Nat → Nat} {S : zm_S} {M : qm} {i1 : Int32} {qi1 : Int} {i3 : Int32} {qi3 : Int} (hS : Sh L xs P S) (hM : qM P S = M) (ei1 : i1.toInt = qi1) (ei3 : i3.toInt = qi3) : qs (zf_X18_off_L60 20000 (n + 1) 2156 i1 i3 S) (qf_X18_off_L60_b 20000 qi1 qi3 M) (tk (vs (rr L xs P vi) (rr L xs P vu)) (qc_X18_off_L60 L xs P (zf_X18_off_L60 20000 n))) := by
  refine qs_eq (zf_X18_off_L60.eq_2 ..) ?_
  unfold qf_X18_off_L60_b
  refine qs_gr hS pl_2156 ts_2156 rfl ?_
  refine qs_gd (fun g4541 => ?_)
  refine qs_xi hM (pa_p hS pl_2298 ts_2298) ei1 g4541 (fun v4540 h4540 => ?_)
  refine qs_ite (c_le h4540 ei3) ?_ ?_
  · exact qs_tr2 (show vu _ _ from trivial) hS hM
  · refine qs_gr hS pl_2156 ts_2156 rfl ?_
    refine qs_gd (fun g4544 => ?_)
    refine qs_xi hM (pa_p hS pl_2299 ts_2299) (p_add (p_mul k_20 ei1) ei3) g4544 (fun v4543 h4543 => ?_)
    refine qs_gr hS pl_2156 ts_2156 rfl ?_
    refine qs_gr hS pl_2156 ts_2156 rfl ?_
    refine qs_gd (fun g4548 => ?_)
    refine qs_xi hM (pa_p hS pl_2312 ts_2312) h4543 g4548 (fun v4547 h4547 => ?_)
    refine qs_gd (fun g4550 => ?_)
    refine qs_xi hM (pa_p hS pl_2309 ts_2309) h4547 g4550 (fun v4549 h4549 => ?_)
    refine qs_ite (c_le k_0 h4549) ?_ ?_
    · exact (qz_X18_off_J121 hS hM ei1 ei3 (p_add (p_mul k_20 ei1) ei3) h4543)
    · refine qs_gr hS pl_2156 ts_2156 rfl ?_
      refine qs_gd (fun g4553 => ?_)
      refine qs_xi hM (pa_p hS pl_2312 ts_2312) h4543 g4553 (fun v4552 h4552 => ?_)
      refine qs_gr hS pl_2156 ts_2156 rfl ?_
      refine qs_gd (fun g4556 => ?_)
      refine qs_xi hM (pa_p hS pl_2300 ts_2300) (p_add (p_mul k_20 ei1) ei3) g4556 (fun v4555 h4555 => ?_)
      refine qs_zi hS pl_2156 ts_2156 ?_
      refine qs_b (qz_X18_enter hS hM h4552 ei1 h4555) (fun v4558 S4558 w4558 M4558 h4558 hS4558 hM4558 => ?_)
      exact (qz_X18_off_J121 hS4558 hM4558 ei1 ei3 (p_add (p_mul k_20 ei1) ei3) h4543)
theorem qz_X18_off_L60 (n : Nat) : ∀ {P : Nat → Nat} {S : zm_S} {M : qm} {i1 : Int32} {qi1 : Int} {i3 : Int32} {qi3 : Int} (hS : Sh L xs P S) (hM : qM P S = M) (ei1 : i1.toInt = qi1) (ei3 : i3.toInt = qi3), qs (zf_X18_off_L60 20000 n 2156 i1 i3 S) (qf_X18_off_L60 20000 n qi1 qi3 M) (tO (vs (rr L xs P vi) (rr L xs P vu))) := by
  induction n with
  | zero =>
    intros
    exact qs_none
  | succ n ih =>
    intro P S M i1 qi1 i3 qi3 hS hM ei1 ei3
    unfold qf_X18_off_L60
    refine qs_loop (C := (qc_X18_off_L60 L xs P (zf_X18_off_L60 20000 n))) (qz_X18_off_L60_b n hS hM ei1 ei3) ?_
    rintro x s ⟨_, _, _, rfl, u0, u1, hS2, hM2⟩
    exact ih hS2 hM2 u0 u1
set_option maxRecDepth 20000 in
theorem qz_X18_off {P : Nat → Nat} {S : zm_S} {M : qm} {i1 : Int32} {qi1 : Int} {i2 : Int32} {qi2 : Int} (hS : Sh L xs P S) (hM : qM P S = M) (ei1 : i1.toInt = qi1) (ei2 : i2.toInt = qi2) : qs (zf_X18_off 20000 2156 i1 i2 S) (qf_X18_off 20000 qi1 qi2 M) (tO (rr L xs P vi)) := by
  unfold zf_X18_off qf_X18_off
  refine qs_gi hS hM pl_2156 ts_2156 (z := 10) rfl rfl (fun v4559 h4559 => ?_)
  refine qs_bp (qz_X18_isIn hS hM ei1 h4559) (fun v4560 S4560 w4560 h4560 hS4560 hM4560 => ?_)
  refine qs_gi hS4560 hM4560 pl_2156 ts_2156 (z := 1) rfl rfl (fun v4561 h4561 => ?_)
  refine qs_zi hS4560 pl_2156 ts_2156 ?_
  refine qs_b (qz_X18_goes hS4560 hM4560 h4560 h4561) (fun v4563 S4563 w4563 M4563 h4563 hS4563 hM4563 => ?_)
  refine qs_ite (c_eq h4563 k_0) ?_ ?_
  · exact qs_tr (show vi _ _ from k_0) hS4563 hM4563
  · refine qs_ite (c_eq ei2 k_0) ?_ ?_
    · refine qs_lr (qz_X18_off_L60 20000 hS4563 hM4563 ei1 k_0) ?_ ?_
      · intro v4565 S4565 w4565 M4565 h4565 hS4565 hM4565
        dsimp only
        exact qs_tr h4565 hS4565 hM4565
      · intro v4565 S4565 w4565 M4565 h4565 hS4565 hM4565
        dsimp only
        refine qs_gr hS4565 pl_2156 ts_2156 rfl ?_
        refine qs_gd (fun g4568 => ?_)
        refine qs_xi hM4565 (pa_p hS4565 pl_2298 ts_2298) ei1 g4568 (fun v4567 h4567 => ?_)
        refine qs_gr hS4565 pl_2156 ts_2156 rfl ?_
        refine qs_gd (fun g4571 => ?_)
        refine qs_si hS4565 hM4565 (pa_p hS4565 pl_2298 ts_2298) ei1 g4571 k_0 (fun S4570 M4570 hS4570 hM4570 => ?_)
        refine qs_gr hS4570 pl_2156 ts_2156 rfl ?_
        refine qs_gd (fun g4574 => ?_)
        refine qs_si hS4570 hM4570 (pa_p hS4570 pl_2297 ts_2297) ei1 g4574 k_2147483647 (fun S4573 M4573 hS4573 hM4573 => ?_)
        exact qs_tr (show vi _ _ from h4567) hS4573 hM4573
    · refine qs_gr hS4563 pl_2156 ts_2156 rfl ?_
      refine qs_gr hS4563 pl_2156 ts_2156 rfl ?_
      refine qs_gd (fun g4578 => ?_)
      refine qs_xi hM4563 (pa_p hS4563 pl_2297 ts_2297) ei1 g4578 (fun v4577 h4577 => ?_)
      refine qs_ite (c_eq h4577 k_2147483647) ?_ ?_
      · refine qs_gi hS4563 hM4563 pl_2156 ts_2156 (z := 45) rfl rfl (fun v4579 h4579 => ?_)
        refine qs_gd (fun g4581 => ?_)
        refine qs_si hS4563 hM4563 (pa_p hS4563 pl_2297 ts_2297) ei1 g4581 h4579 (fun S4580 M4580 hS4580 hM4580 => ?_)
        exact qs_tr (show vi _ _ from k_0) hS4580 hM4580
      · refine qs_gr hS4563 pl_2156 ts_2156 rfl ?_
        refine qs_gd (fun g4584 => ?_)
        refine qs_xi hM4563 (pa_p hS4563 pl_2297 ts_2297) ei1 g4584 (fun v4583 h4583 => ?_)
        refine qs_gd (fun g4586 => ?_)
        refine qs_si hS4563 hM4563 (pa_p hS4563 pl_2297 ts_2297) ei1 g4586 h4583 (fun S4585 M4585 hS4585 hM4585 => ?_)
        exact qs_tr (show vi _ _ from k_0) hS4585 hM4585
end QZ
