/-! ===== each function over memories is the one over plain states, by program (wip/tools/q) ===== -/
section QZ
variable {L : Nat} {xs : Nat → Int32}
set_option maxRecDepth 20000 in
theorem qz_X11_isWithin {P : Nat → Nat} {S : zm_S} {M : qm} {i0 : Int32} {qi0 : Int} {i1 : Int32} {qi1 : Int} {i2 : Int32} {qi2 : Int} (hS : Sh L xs P S) (hM : qM P S = M) (ei0 : i0.toInt = qi0) (ei1 : i1.toInt = qi1) (ei2 : i2.toInt = qi2) : qs (zf_X11_isWithin 20000 i0 i1 i2 S) (qf_X11_isWithin 20000 qi0 qi1 qi2 M) (tO (rp L xs P M vi)) := by
  unfold zf_X11_isWithin qf_X11_isWithin
  refine qs_ite (c_lt ei0 ei1) ?_ ?_
  · exact qs_tp (show vi _ _ from k_0) hS hM
  · refine qs_ite (c_lt ei2 ei0) ?_ ?_
    · exact qs_tp (show vi _ _ from k_0) hS hM
    · exact qs_tp (show vi _ _ from k_1) hS hM
set_option maxRecDepth 20000 in
theorem qz_X11_isOnPlan {P : Nat → Nat} {S : zm_S} {M : qm} {i0 : Int32} {qi0 : Int} {i1 : Int32} {qi1 : Int} (hS : Sh L xs P S) (hM : qM P S = M) (ei0 : i0.toInt = qi0) (ei1 : i1.toInt = qi1) : qs (zf_X11_isOnPlan 20000 i0 i1 S) (qf_X11_isOnPlan 20000 qi0 qi1 M) (tO (rp L xs P M vi)) := by
  unfold zf_X11_isOnPlan qf_X11_isOnPlan
  refine qs_bp (qz_X11_isWithin hS hM ei0 k_0 k_24) (fun v1 S1 w1 h1 hS1 hM1 => ?_)
  refine qs_ite (c_eq h1 k_0) ?_ ?_
  · exact qs_tp (show vi _ _ from k_0) hS1 hM1
  · refine qs_bp (qz_X11_isWithin hS1 hM1 ei1 k_0 k_24) (fun v2 S2 w2 h2 hS2 hM2 => ?_)
    refine qs_ite (c_eq h2 k_0) ?_ ?_
    · exact qs_tp (show vi _ _ from k_0) hS2 hM2
    · exact qs_tp (show vi _ _ from k_1) hS2 hM2
set_option maxRecDepth 20000 in
theorem qz_X11_needArgument {P : Nat → Nat} {S : zm_S} {M : qm} {i0 : Int32} {qi0 : Int} (hS : Sh L xs P S) (hM : qM P S = M) (ei0 : i0.toInt = qi0) : qs (zf_X11_needArgument 20000 i0 S) (qf_X11_needArgument 20000 qi0 M) (tO (rp L xs P M (vs vu ve))) := by
  unfold zf_X11_needArgument qf_X11_needArgument
  refine qs_ite (c_eq ei0 k_0) ?_ ?_
  · exact qs_tp (show (vs vu ve) _ _ from rfl) (sh_op hS) (qm_op hS hM)
  · exact qs_tp (show (vs vu ve) _ _ from trivial) hS hM
set_option maxRecDepth 20000 in
theorem qz_X11_needState {P : Nat → Nat} {S : zm_S} {M : qm} {i0 : Int32} {qi0 : Int} (hS : Sh L xs P S) (hM : qM P S = M) (ei0 : i0.toInt = qi0) : qs (zf_X11_needState 20000 i0 S) (qf_X11_needState 20000 qi0 M) (tO (rp L xs P M (vs vu ve))) := by
  unfold zf_X11_needState qf_X11_needState
  refine qs_ite (c_eq ei0 k_0) ?_ ?_
  · exact qs_tp (show (vs vu ve) _ _ from rfl) (sh_op hS) (qm_op hS hM)
  · exact qs_tp (show (vs vu ve) _ _ from trivial) hS hM
set_option maxRecDepth 20000 in
theorem qz_X8_liesAlong_J118 {P : Nat → Nat} {S : zm_S} {M : qm} {i1 : Int32} {qi1 : Int} {i2 : Int32} {qi2 : Int} {i3 : Int32} {qi3 : Int} {i4 : Int32} {qi4 : Int} {i5 : Int32} {qi5 : Int} {i6 : Int32} {qi6 : Int} {a7 : Nat} {qa7 : Int} {i9 : Int32} {qi9 : Int} (hS : Sh L xs P S) (hM : qM P S = M) (ei1 : i1.toInt = qi1) (ei2 : i2.toInt = qi2) (ei3 : i3.toInt = qi3) (ei4 : i4.toInt = qi4) (ei5 : i5.toInt = qi5) (ei6 : i6.toInt = qi6) (ra7 : pr a7 9 20 qa7) (ei9 : i9.toInt = qi9) {k : Nat → Int32 → Int32 → Int32 → Int32 → Int32 → Int32 → zm_S → Option ((Int32 × zm_S) ⊕ ((Unit) × zm_S))} : qs (zf_X8_liesAlong_J118 20000 k 7 i1 i2 i3 i4 i5 i6 a7 i9 S) (qf_X8_liesAlong_J118 20000 qi1 qi2 qi3 qi4 qi5 qi6 qa7 qi9 M) (tk (vs (rp L xs P M vi) (rp L xs P M vu)) (qc_X8_liesAlong_L3 L xs P M k)) := by
  unfold zf_X8_liesAlong_J118 qf_X8_liesAlong_J118
  refine qs_ite (c_eq ei6 ei1) ?_ ?_
  · exact qs_tk ⟨_, _, _, _, _, _, _, rfl, ei1, ei2, ei3, ei4, ei5, (p_add ei6 k_1), hS, hM⟩
  · refine qs_ite (c_eq ei9 k_0) ?_ ?_
    · exact qs_tk ⟨_, _, _, _, _, _, _, rfl, ei1, ei2, ei3, ei4, ei5, (p_add ei6 k_1), hS, hM⟩
    · refine qs_yi (j := 1) hS hM qt_8 tq_8 ra7 k_1 (by decide) (fun v3 h3 => ?_)
      refine qs_yi (j := 3) hS hM qt_8 tq_8 ra7 k_3 (by decide) (fun v4 h4 => ?_)
      refine qs_ite (c_le (p_min ei5 h4) (p_max ei3 h3)) ?_ ?_
      · exact qs_tk ⟨_, _, _, _, _, _, _, rfl, ei1, ei2, ei3, ei4, ei5, (p_add ei6 k_1), hS, hM⟩
      · exact qs_tp1 (show vi _ _ from k_1) hS hM
set_option maxRecDepth 20000 in
theorem qz_X8_liesAlong_J83 {P : Nat → Nat} {S : zm_S} {M : qm} {i1 : Int32} {qi1 : Int} {i2 : Int32} {qi2 : Int} {i3 : Int32} {qi3 : Int} {i4 : Int32} {qi4 : Int} {i5 : Int32} {qi5 : Int} {i6 : Int32} {qi6 : Int} {a7 : Nat} {qa7 : Int} {i8 : Int32} {qi8 : Int} {t0 : Int32} {qt0 : Int} (hS : Sh L xs P S) (hM : qM P S = M) (ei1 : i1.toInt = qi1) (ei2 : i2.toInt = qi2) (ei3 : i3.toInt = qi3) (ei4 : i4.toInt = qi4) (ei5 : i5.toInt = qi5) (ei6 : i6.toInt = qi6) (ra7 : pr a7 9 20 qa7) (ei8 : i8.toInt = qi8) (et0 : t0.toInt = qt0) {k : Nat → Int32 → Int32 → Int32 → Int32 → Int32 → Int32 → zm_S → Option ((Int32 × zm_S) ⊕ ((Unit) × zm_S))} : qs (zf_X8_liesAlong_J83 20000 k 7 i1 i2 i3 i4 i5 i6 a7 i8 t0 S) (qf_X8_liesAlong_J83 20000 qi1 qi2 qi3 qi4 qi5 qi6 qa7 qi8 qt0 M) (tk (vs (rp L xs P M vi) (rp L xs P M vu)) (qc_X8_liesAlong_L3 L xs P M k)) := by
  unfold zf_X8_liesAlong_J83 qf_X8_liesAlong_J83
  refine qs_ite (c_eq ei6 ei1) ?_ ?_
  · exact (qz_X8_liesAlong_J118 hS hM ei1 ei2 ei3 ei4 ei5 ei6 ra7 et0)
  · refine qs_ite (c_eq ei8 k_0) ?_ ?_
    · exact (qz_X8_liesAlong_J118 hS hM ei1 ei2 ei3 ei4 ei5 ei6 ra7 et0)
    · refine qs_yi (j := 0) hS hM qt_8 tq_8 ra7 k_0 (by decide) (fun v5 h5 => ?_)
      refine qs_yi (j := 2) hS hM qt_8 tq_8 ra7 k_2 (by decide) (fun v6 h6 => ?_)
      refine qs_ite (c_le (p_min ei4 h6) (p_max ei2 h5)) ?_ ?_
      · exact (qz_X8_liesAlong_J118 hS hM ei1 ei2 ei3 ei4 ei5 ei6 ra7 et0)
      · exact qs_tp1 (show vi _ _ from k_1) hS hM
set_option maxRecDepth 20000 in
theorem qz_X8_liesAlong_J82 {P : Nat → Nat} {S : zm_S} {M : qm} {i1 : Int32} {qi1 : Int} {i2 : Int32} {qi2 : Int} {i3 : Int32} {qi3 : Int} {i4 : Int32} {qi4 : Int} {i5 : Int32} {qi5 : Int} {i6 : Int32} {qi6 : Int} {a7 : Nat} {qa7 : Int} {i8 : Int32} {qi8 : Int} (hS : Sh L xs P S) (hM : qM P S = M) (ei1 : i1.toInt = qi1) (ei2 : i2.toInt = qi2) (ei3 : i3.toInt = qi3) (ei4 : i4.toInt = qi4) (ei5 : i5.toInt = qi5) (ei6 : i6.toInt = qi6) (ra7 : pr a7 9 20 qa7) (ei8 : i8.toInt = qi8) {k : Nat → Int32 → Int32 → Int32 → Int32 → Int32 → Int32 → zm_S → Option ((Int32 × zm_S) ⊕ ((Unit) × zm_S))} : qs (zf_X8_liesAlong_J82 20000 k 7 i1 i2 i3 i4 i5 i6 a7 i8 S) (qf_X8_liesAlong_J82 20000 qi1 qi2 qi3 qi4 qi5 qi6 qa7 qi8 M) (tk (vs (rp L xs P M vi) (rp L xs P M vu)) (qc_X8_liesAlong_L3 L xs P M k)) := by
  unfold zf_X8_liesAlong_J82 qf_X8_liesAlong_J82
  exact (qz_X8_liesAlong_J83 hS hM ei1 ei2 ei3 ei4 ei5 ei6 ra7 ei8 k_0)
set_option maxRecDepth 20000 in
theorem qz_X8_liesAlong_J51 {P : Nat → Nat} {S : zm_S} {M : qm} {i1 : Int32} {qi1 : Int} {i2 : Int32} {qi2 : Int} {i3 : Int32} {qi3 : Int} {i4 : Int32} {qi4 : Int} {i5 : Int32} {qi5 : Int} {i6 : Int32} {qi6 : Int} {a7 : Nat} {qa7 : Int} {t0 : Int32} {qt0 : Int} (hS : Sh L xs P S) (hM : qM P S = M) (ei1 : i1.toInt = qi1) (ei2 : i2.toInt = qi2) (ei3 : i3.toInt = qi3) (ei4 : i4.toInt = qi4) (ei5 : i5.toInt = qi5) (ei6 : i6.toInt = qi6) (ra7 : pr a7 9 20 qa7) (et0 : t0.toInt = qt0) {k : Nat → Int32 → Int32 → Int32 → Int32 → Int32 → Int32 → zm_S → Option ((Int32 × zm_S) ⊕ ((Unit) × zm_S))} : qs (zf_X8_liesAlong_J51 20000 k 7 i1 i2 i3 i4 i5 i6 a7 t0 S) (qf_X8_liesAlong_J51 20000 qi1 qi2 qi3 qi4 qi5 qi6 qa7 qt0 M) (tk (vs (rp L xs P M vi) (rp L xs P M vu)) (qc_X8_liesAlong_L3 L xs P M k)) := by
  unfold zf_X8_liesAlong_J51 qf_X8_liesAlong_J51
  refine qs_ite (c_eq ei2 ei4) ?_ ?_
  · refine qs_yi (j := 0) hS hM qt_8 tq_8 ra7 k_0 (by decide) (fun v7 h7 => ?_)
    refine qs_yi (j := 2) hS hM qt_8 tq_8 ra7 k_2 (by decide) (fun v8 h8 => ?_)
    refine qs_ite (c_eq h7 h8) ?_ ?_
    · refine qs_yi (j := 0) hS hM qt_8 tq_8 ra7 k_0 (by decide) (fun v9 h9 => ?_)
      refine qs_ite (c_eq ei2 h9) ?_ ?_
      · exact (qz_X8_liesAlong_J83 hS hM ei1 ei2 ei3 ei4 ei5 ei6 ra7 et0 k_1)
      · exact (qz_X8_liesAlong_J82 hS hM ei1 ei2 ei3 ei4 ei5 ei6 ra7 et0)
    · exact (qz_X8_liesAlong_J82 hS hM ei1 ei2 ei3 ei4 ei5 ei6 ra7 et0)
  · exact (qz_X8_liesAlong_J82 hS hM ei1 ei2 ei3 ei4 ei5 ei6 ra7 et0)
set_option maxRecDepth 20000 in
theorem qz_X8_liesAlong_J50 {P : Nat → Nat} {S : zm_S} {M : qm} {i1 : Int32} {qi1 : Int} {i2 : Int32} {qi2 : Int} {i3 : Int32} {qi3 : Int} {i4 : Int32} {qi4 : Int} {i5 : Int32} {qi5 : Int} {i6 : Int32} {qi6 : Int} {a7 : Nat} {qa7 : Int} (hS : Sh L xs P S) (hM : qM P S = M) (ei1 : i1.toInt = qi1) (ei2 : i2.toInt = qi2) (ei3 : i3.toInt = qi3) (ei4 : i4.toInt = qi4) (ei5 : i5.toInt = qi5) (ei6 : i6.toInt = qi6) (ra7 : pr a7 9 20 qa7) {k : Nat → Int32 → Int32 → Int32 → Int32 → Int32 → Int32 → zm_S → Option ((Int32 × zm_S) ⊕ ((Unit) × zm_S))} : qs (zf_X8_liesAlong_J50 20000 k 7 i1 i2 i3 i4 i5 i6 a7 S) (qf_X8_liesAlong_J50 20000 qi1 qi2 qi3 qi4 qi5 qi6 qa7 M) (tk (vs (rp L xs P M vi) (rp L xs P M vu)) (qc_X8_liesAlong_L3 L xs P M k)) := by
  unfold zf_X8_liesAlong_J50 qf_X8_liesAlong_J50
  exact (qz_X8_liesAlong_J51 hS hM ei1 ei2 ei3 ei4 ei5 ei6 ra7 k_0)
set_option maxRecDepth 20000 in
theorem qz_X8_liesAlong_L3_b (n : Nat) {P : Nat → Nat} {S : zm_S} {M : qm} {i1 : Int32} {qi1 : Int} {i2 : Int32} {qi2 : Int} {i3 : Int32} {qi3 : Int} {i4 : Int32} {qi4 : Int} {i5 : Int32} {qi5 : Int} {i6 : Int32} {qi6 : Int} (hS : Sh L xs P S) (hM : qM P S = M) (ei1 : i1.toInt = qi1) (ei2 : i2.toInt = qi2) (ei3 : i3.toInt = qi3) (ei4 : i4.toInt = qi4) (ei5 : i5.toInt = qi5) (ei6 : i6.toInt = qi6) : qs (zf_X8_liesAlong_L3 20000 (n + 1) 7 i1 i2 i3 i4 i5 i6 S) (qf_X8_liesAlong_L3_b 20000 qi1 qi2 qi3 qi4 qi5 qi6 M) (tk (vs (rp L xs P M vi) (rp L xs P M vu)) (qc_X8_liesAlong_L3 L xs P M (zf_X8_liesAlong_L3 20000 n))) := by
  refine qs_eq (zf_X8_liesAlong_L3.eq_2 ..) ?_
  unfold qf_X8_liesAlong_L3_b
  refine qs_gi hS hM pl_7 ts_7 (z := 0) rfl rfl (fun v10 h10 => ?_)
  refine qs_ite (c_le h10 ei6) ?_ ?_
  · exact qs_tp2 (show vu _ _ from trivial) hS hM
  · refine qs_gr hS pl_7 ts_7 rfl ?_
    refine qs_gd (fun g13 => ?_)
    refine qs_xt hS pl_8 ts_8 (Or.inl rfl) ei6 g13 (fun b12 r12 => ?_)
    refine qs_ite (c_eq ei3 ei5) ?_ ?_
    · refine qs_yi (j := 1) hS hM qt_8 tq_8 r12 k_1 (by decide) (fun v14 h14 => ?_)
      refine qs_yi (j := 3) hS hM qt_8 tq_8 r12 k_3 (by decide) (fun v15 h15 => ?_)
      refine qs_ite (c_eq h14 h15) ?_ ?_
      · refine qs_yi (j := 1) hS hM qt_8 tq_8 r12 k_1 (by decide) (fun v16 h16 => ?_)
        refine qs_ite (c_eq ei3 h16) ?_ ?_
        · exact (qz_X8_liesAlong_J51 hS hM ei1 ei2 ei3 ei4 ei5 ei6 r12 k_1)
        · exact (qz_X8_liesAlong_J50 hS hM ei1 ei2 ei3 ei4 ei5 ei6 r12)
      · exact (qz_X8_liesAlong_J50 hS hM ei1 ei2 ei3 ei4 ei5 ei6 r12)
    · exact (qz_X8_liesAlong_J50 hS hM ei1 ei2 ei3 ei4 ei5 ei6 r12)
theorem qz_X8_liesAlong_L3 (n : Nat) : ∀ {P : Nat → Nat} {S : zm_S} {M : qm} {i1 : Int32} {qi1 : Int} {i2 : Int32} {qi2 : Int} {i3 : Int32} {qi3 : Int} {i4 : Int32} {qi4 : Int} {i5 : Int32} {qi5 : Int} {i6 : Int32} {qi6 : Int} (hS : Sh L xs P S) (hM : qM P S = M) (ei1 : i1.toInt = qi1) (ei2 : i2.toInt = qi2) (ei3 : i3.toInt = qi3) (ei4 : i4.toInt = qi4) (ei5 : i5.toInt = qi5) (ei6 : i6.toInt = qi6), qs (zf_X8_liesAlong_L3 20000 n 7 i1 i2 i3 i4 i5 i6 S) (qf_X8_liesAlong_L3 20000 n qi1 qi2 qi3 qi4 qi5 qi6 M) (tO (vs (rp L xs P M vi) (rp L xs P M vu))) := by
  induction n with
  | zero =>
    intros
    exact qs_none
  | succ n ih =>
    intro P S M i1 qi1 i2 qi2 i3 qi3 i4 qi4 i5 qi5 i6 qi6 hS hM ei1 ei2 ei3 ei4 ei5 ei6
    unfold qf_X8_liesAlong_L3
    refine qs_loop (C := (qc_X8_liesAlong_L3 L xs P M (zf_X8_liesAlong_L3 20000 n))) (qz_X8_liesAlong_L3_b n hS hM ei1 ei2 ei3 ei4 ei5 ei6) ?_
    rintro x s ⟨_, _, _, _, _, _, _, rfl, u0, u1, u2, u3, u4, u5, hS2, hM2⟩
    exact ih hS2 hM2 u0 u1 u2 u3 u4 u5
set_option maxRecDepth 20000 in
theorem qz_X8_liesAlong {P : Nat → Nat} {S : zm_S} {M : qm} {i1 : Int32} {qi1 : Int} {i2 : Int32} {qi2 : Int} {i3 : Int32} {qi3 : Int} {i4 : Int32} {qi4 : Int} {i5 : Int32} {qi5 : Int} (hS : Sh L xs P S) (hM : qM P S = M) (ei1 : i1.toInt = qi1) (ei2 : i2.toInt = qi2) (ei3 : i3.toInt = qi3) (ei4 : i4.toInt = qi4) (ei5 : i5.toInt = qi5) : qs (zf_X8_liesAlong 20000 7 i1 i2 i3 i4 i5 S) (qf_X8_liesAlong 20000 qi1 qi2 qi3 qi4 qi5 M) (tO (rp L xs P M vi)) := by
  unfold zf_X8_liesAlong qf_X8_liesAlong
  refine qs_lp (qz_X8_liesAlong_L3 20000 hS hM ei1 ei2 ei3 ei4 ei5 k_0) ?_ ?_
  · intro v18 S18 w18 h18 hS18 hM18
    dsimp only
    exact qs_tp h18 hS18 hM18
  · intro v18 S18 w18 h18 hS18 hM18
    dsimp only
    exact qs_tp (show vi _ _ from k_0) hS18 hM18
set_option maxRecDepth 20000 in
theorem qz_X8_setEnds {P : Nat → Nat} {S : zm_S} {M : qm} {i1 : Int32} {qi1 : Int} {i2 : Int32} {qi2 : Int} {i3 : Int32} {qi3 : Int} {i4 : Int32} {qi4 : Int} {i5 : Int32} {qi5 : Int} (hS : Sh L xs P S) (hM : qM P S = M) (ei1 : i1.toInt = qi1) (ei2 : i2.toInt = qi2) (ei3 : i3.toInt = qi3) (ei4 : i4.toInt = qi4) (ei5 : i5.toInt = qi5) : qs (zf_X8_setEnds 20000 7 i1 i2 i3 i4 i5 S) (qf_X8_setEnds 20000 qi1 qi2 qi3 qi4 qi5 M) (tO (rr L xs P vu)) := by
  unfold zf_X8_setEnds qf_X8_setEnds
  refine qs_gr hS pl_7 ts_7 rfl ?_
  refine qs_gd (fun g21 => ?_)
  refine qs_xt hS pl_8 ts_8 (Or.inl rfl) ei1 g21 (fun b20 r20 => ?_)
  refine qs_ysi hS hM qt_8 tq_8 r20 k_0 (by decide) ei2 (fun S22 M22 hS22 hM22 => ?_)
  refine qs_ysi hS22 hM22 qt_8 tq_8 r20 k_1 (by decide) ei3 (fun S23 M23 hS23 hM23 => ?_)
  refine qs_ysi hS23 hM23 qt_8 tq_8 r20 k_2 (by decide) ei4 (fun S24 M24 hS24 hM24 => ?_)
  refine qs_ysi hS24 hM24 qt_8 tq_8 r20 k_3 (by decide) ei5 (fun S25 M25 hS25 hM25 => ?_)
  exact qs_tr (show vu _ _ from trivial) hS25 hM25
set_option maxRecDepth 20000 in
theorem qz_X8_addLine {P : Nat → Nat} {S : zm_S} {M : qm} {i1 : Int32} {qi1 : Int} {i2 : Int32} {qi2 : Int} {i3 : Int32} {qi3 : Int} {i4 : Int32} {qi4 : Int} (hS : Sh L xs P S) (hM : qM P S = M) (ei1 : i1.toInt = qi1) (ei2 : i2.toInt = qi2) (ei3 : i3.toInt = qi3) (ei4 : i4.toInt = qi4) : qs (zf_X8_addLine 20000 7 i1 i2 i3 i4 S) (qf_X8_addLine 20000 qi1 qi2 qi3 qi4 M) (tO (rr L xs P vi)) := by
  unfold zf_X8_addLine qf_X8_addLine
  refine qs_gi hS hM pl_7 ts_7 (z := 0) rfl rfl (fun v26 h26 => ?_)
  refine qs_ite (c_le k_20 h26) ?_ ?_
  · exact qs_tr (show vi _ _ from k_m1) hS hM
  · refine qs_zi hS pl_7 ts_7 ?_
    refine qs_bp (qz_X8_liesAlong hS hM k_m1 (p_min ei1 ei3) (p_min ei2 ei4) (p_max ei1 ei3) (p_max ei2 ei4)) (fun v28 S28 w28 h28 hS28 hM28 => ?_)
    refine qs_ite (c_eq h28 k_0) ?_ ?_
    · refine qs_gi hS28 hM28 pl_7 ts_7 (z := 0) rfl rfl (fun v29 h29 => ?_)
      refine qs_zi hS28 pl_7 ts_7 ?_
      refine qs_b (qz_X8_setEnds hS28 hM28 h29 (p_min ei1 ei3) (p_min ei2 ei4) (p_max ei1 ei3) (p_max ei2 ei4)) (fun v31 S31 w31 M31 h31 hS31 hM31 => ?_)
      refine qs_gi hS31 hM31 pl_7 ts_7 (z := 0) rfl rfl (fun v32 h32 => ?_)
      refine qs_pi hS31 hM31 pl_7 ts_7 (z := 0) rfl rfl (p_add h32 k_1) (fun S33 M33 hS33 hM33 => ?_)
      refine qs_gi hS33 hM33 pl_7 ts_7 (z := 0) rfl rfl (fun v34 h34 => ?_)
      exact qs_tr (show vi _ _ from (p_sub h34 k_1)) hS33 hM33
    · exact qs_tr (show vi _ _ from k_m1) hS28 hM28
set_option maxRecDepth 20000 in
theorem qz_X11_line_J81 {P : Nat → Nat} {S : zm_S} {M : qm} {i1 : Int32} {qi1 : Int} {i2 : Int32} {qi2 : Int} {i3 : Int32} {qi3 : Int} {i4 : Int32} {qi4 : Int} {t0 : Int32} {qt0 : Int} (hS : Sh L xs P S) (hM : qM P S = M) (ei1 : i1.toInt = qi1) (ei2 : i2.toInt = qi2) (ei3 : i3.toInt = qi3) (ei4 : i4.toInt = qi4) (et0 : t0.toInt = qt0) : qs (zf_X11_line_J81 20000 6 i1 i2 i3 i4 t0 S) (qf_X11_line_J81 20000 qi1 qi2 qi3 qi4 qt0 M) (tO (rr L xs P (vs vi ve))) := by
  unfold zf_X11_line_J81 qf_X11_line_J81
  refine qs_xp (qz_X11_needState hS hM et0) ?_ ?_
  · intro v36 S36 w36 h36 hS36 hM36
    dsimp only
    refine qs_gr hS36 pl_6 ts_6 rfl ?_
    refine qs_zi hS36 pl_7 ts_7 ?_
    refine qs_b (qz_X8_addLine hS36 hM36 ei1 ei2 ei3 ei4) (fun v39 S39 w39 M39 h39 hS39 hM39 => ?_)
    refine qs_ite (c_eq h39 k_m1) ?_ ?_
    · exact qs_tr (show (vs vi ve) _ _ from h39) hS39 hM39
    · refine qs_gr hS39 pl_6 ts_6 rfl ?_
      refine qs_pi hS39 hM39 pl_51 ts_51 (z := 2) rfl rfl k_0 (fun S41 M41 hS41 hM41 => ?_)
      exact qs_tr (show (vs vi ve) _ _ from h39) hS41 hM41
  · intro v36 S36 hS36 hM36
    dsimp only
    exact qs_tr (show (vs vi ve) _ _ from rfl) hS36 hM36
set_option maxRecDepth 20000 in
theorem qz_X11_line_J80 {P : Nat → Nat} {S : zm_S} {M : qm} {i1 : Int32} {qi1 : Int} {i2 : Int32} {qi2 : Int} {i3 : Int32} {qi3 : Int} {i4 : Int32} {qi4 : Int} (hS : Sh L xs P S) (hM : qM P S = M) (ei1 : i1.toInt = qi1) (ei2 : i2.toInt = qi2) (ei3 : i3.toInt = qi3) (ei4 : i4.toInt = qi4) : qs (zf_X11_line_J80 20000 6 i1 i2 i3 i4 S) (qf_X11_line_J80 20000 qi1 qi2 qi3 qi4 M) (tO (rr L xs P (vs vi ve))) := by
  unfold zf_X11_line_J80 qf_X11_line_J80
  exact (qz_X11_line_J81 hS hM ei1 ei2 ei3 ei4 k_0)
set_option maxRecDepth 20000 in
theorem qz_X11_line_J54 {P : Nat → Nat} {S : zm_S} {M : qm} {i1 : Int32} {qi1 : Int} {i2 : Int32} {qi2 : Int} {i3 : Int32} {qi3 : Int} {i4 : Int32} {qi4 : Int} {t0 : Int32} {qt0 : Int} (hS : Sh L xs P S) (hM : qM P S = M) (ei1 : i1.toInt = qi1) (ei2 : i2.toInt = qi2) (ei3 : i3.toInt = qi3) (ei4 : i4.toInt = qi4) (et0 : t0.toInt = qt0) : qs (zf_X11_line_J54 20000 6 i1 i2 i3 i4 t0 S) (qf_X11_line_J54 20000 qi1 qi2 qi3 qi4 qt0 M) (tO (rr L xs P (vs vi ve))) := by
  unfold zf_X11_line_J54 qf_X11_line_J54
  refine qs_xp (qz_X11_needArgument hS hM et0) ?_ ?_
  · intro v43 S43 w43 h43 hS43 hM43
    dsimp only
    refine qs_gi hS43 hM43 pl_6 ts_6 (z := 11) rfl rfl (fun v44 h44 => ?_)
    refine qs_ite (c_eq h44 k_0) ?_ ?_
    · refine qs_gr hS43 pl_6 ts_6 rfl ?_
      refine qs_gi hS43 hM43 pl_7 ts_7 (z := 0) rfl rfl (fun v46 h46 => ?_)
      refine qs_ite (c_le k_20 h46) ?_ ?_
      · exact (qz_X11_line_J80 hS43 hM43 ei1 ei2 ei3 ei4)
      · exact (qz_X11_line_J81 hS43 hM43 ei1 ei2 ei3 ei4 k_1)
    · exact (qz_X11_line_J80 hS43 hM43 ei1 ei2 ei3 ei4)
  · intro v43 S43 hS43 hM43
    dsimp only
    exact qs_tr (show (vs vi ve) _ _ from rfl) hS43 hM43
set_option maxRecDepth 20000 in
theorem qz_X11_line_J46 {P : Nat → Nat} {S : zm_S} {M : qm} {i1 : Int32} {qi1 : Int} {i2 : Int32} {qi2 : Int} {i3 : Int32} {qi3 : Int} {i4 : Int32} {qi4 : Int} {t0 : Int32} {qt0 : Int} {t1 : Int32} {qt1 : Int} (hS : Sh L xs P S) (hM : qM P S = M) (ei1 : i1.toInt = qi1) (ei2 : i2.toInt = qi2) (ei3 : i3.toInt = qi3) (ei4 : i4.toInt = qi4) (et0 : t0.toInt = qt0) (et1 : t1.toInt = qt1) : qs (zf_X11_line_J46 20000 6 i1 i2 i3 i4 t0 t1 S) (qf_X11_line_J46 20000 qi1 qi2 qi3 qi4 qt0 qt1 M) (tO (rr L xs P (vs vi ve))) := by
  unfold zf_X11_line_J46 qf_X11_line_J46
  refine qs_ite (c_eq et0 et1) ?_ ?_
  · exact (qz_X11_line_J54 hS hM ei1 ei2 ei3 ei4 k_0)
  · exact (qz_X11_line_J54 hS hM ei1 ei2 ei3 ei4 k_1)
set_option maxRecDepth 20000 in
theorem qz_X11_line_J35 {P : Nat → Nat} {S : zm_S} {M : qm} {i1 : Int32} {qi1 : Int} {i2 : Int32} {qi2 : Int} {i3 : Int32} {qi3 : Int} {i4 : Int32} {qi4 : Int} {t0 : Int32} {qt0 : Int} (hS : Sh L xs P S) (hM : qM P S = M) (ei1 : i1.toInt = qi1) (ei2 : i2.toInt = qi2) (ei3 : i3.toInt = qi3) (ei4 : i4.toInt = qi4) (et0 : t0.toInt = qt0) : qs (zf_X11_line_J35 20000 6 i1 i2 i3 i4 t0 S) (qf_X11_line_J35 20000 qi1 qi2 qi3 qi4 qt0 M) (tO (rr L xs P (vs vi ve))) := by
  unfold zf_X11_line_J35 qf_X11_line_J35
  refine qs_ite (c_eq ei2 ei4) ?_ ?_
  · exact (qz_X11_line_J46 hS hM ei1 ei2 ei3 ei4 et0 k_1)
  · exact (qz_X11_line_J46 hS hM ei1 ei2 ei3 ei4 et0 k_0)
set_option maxRecDepth 20000 in
theorem qz_X11_line_J22 {P : Nat → Nat} {S : zm_S} {M : qm} {i1 : Int32} {qi1 : Int} {i2 : Int32} {qi2 : Int} {i3 : Int32} {qi3 : Int} {i4 : Int32} {qi4 : Int} {t0 : Int32} {qt0 : Int} (hS : Sh L xs P S) (hM : qM P S = M) (ei1 : i1.toInt = qi1) (ei2 : i2.toInt = qi2) (ei3 : i3.toInt = qi3) (ei4 : i4.toInt = qi4) (et0 : t0.toInt = qt0) : qs (zf_X11_line_J22 20000 6 i1 i2 i3 i4 t0 S) (qf_X11_line_J22 20000 qi1 qi2 qi3 qi4 qt0 M) (tO (rr L xs P (vs vi ve))) := by
  unfold zf_X11_line_J22 qf_X11_line_J22
  refine qs_xp (qz_X11_needArgument hS hM et0) ?_ ?_
  · intro v48 S48 w48 h48 hS48 hM48
    dsimp only
    refine qs_ite (c_eq ei1 ei3) ?_ ?_
    · exact (qz_X11_line_J35 hS48 hM48 ei1 ei2 ei3 ei4 k_1)
    · exact (qz_X11_line_J35 hS48 hM48 ei1 ei2 ei3 ei4 k_0)
  · intro v48 S48 hS48 hM48
    dsimp only
    exact qs_tr (show (vs vi ve) _ _ from rfl) hS48 hM48
set_option maxRecDepth 20000 in
theorem qz_X11_line_J21 {P : Nat → Nat} {S : zm_S} {M : qm} {i1 : Int32} {qi1 : Int} {i2 : Int32} {qi2 : Int} {i3 : Int32} {qi3 : Int} {i4 : Int32} {qi4 : Int} (hS : Sh L xs P S) (hM : qM P S = M) (ei1 : i1.toInt = qi1) (ei2 : i2.toInt = qi2) (ei3 : i3.toInt = qi3) (ei4 : i4.toInt = qi4) : qs (zf_X11_line_J21 20000 6 i1 i2 i3 i4 S) (qf_X11_line_J21 20000 qi1 qi2 qi3 qi4 M) (tO (rr L xs P (vs vi ve))) := by
  unfold zf_X11_line_J21 qf_X11_line_J21
  exact (qz_X11_line_J22 hS hM ei1 ei2 ei3 ei4 k_0)
set_option maxRecDepth 20000 in
theorem qz_X11_line {P : Nat → Nat} {S : zm_S} {M : qm} {i1 : Int32} {qi1 : Int} {i2 : Int32} {qi2 : Int} {i3 : Int32} {qi3 : Int} {i4 : Int32} {qi4 : Int} (hS : Sh L xs P S) (hM : qM P S = M) (ei1 : i1.toInt = qi1) (ei2 : i2.toInt = qi2) (ei3 : i3.toInt = qi3) (ei4 : i4.toInt = qi4) : qs (zf_X11_line 20000 6 i1 i2 i3 i4 S) (qf_X11_line 20000 qi1 qi2 qi3 qi4 M) (tO (rr L xs P (vs vi ve))) := by
  unfold zf_X11_line qf_X11_line
  refine qs_bp (qz_X11_isOnPlan hS hM ei1 ei2) (fun v49 S49 w49 h49 hS49 hM49 => ?_)
  refine qs_ite (c_eq h49 k_0) ?_ ?_
  · exact (qz_X11_line_J21 hS49 hM49 ei1 ei2 ei3 ei4)
  · refine qs_bp (qz_X11_isOnPlan hS49 hM49 ei3 ei4) (fun v50 S50 w50 h50 hS50 hM50 => ?_)
    refine qs_ite (c_eq h50 k_0) ?_ ?_
    · exact (qz_X11_line_J21 hS50 hM50 ei1 ei2 ei3 ei4)
    · exact (qz_X11_line_J22 hS50 hM50 ei1 ei2 ei3 ei4 k_1)
set_option maxRecDepth 20000 in
theorem qz_L_line {P : Nat → Nat} {S : zm_S} {M : qm} {i1 : Int32} {qi1 : Int} {i2 : Int32} {qi2 : Int} {i3 : Int32} {qi3 : Int} {i4 : Int32} {qi4 : Int} (hS : Sh L xs P S) (hM : qM P S = M) (ei1 : i1.toInt = qi1) (ei2 : i2.toInt = qi2) (ei3 : i3.toInt = qi3) (ei4 : i4.toInt = qi4) : qs (zf_L_line 20000 6 i1 i2 i3 i4 2332 S) (qf_L_line 20000 qi1 qi2 qi3 qi4 M) (tO (rr L xs P vi)) := by
  unfold zf_L_line qf_L_line
  refine qs_zi hS pl_6 ts_6 ?_
  refine qs_xr (qz_X11_line hS hM ei1 ei2 ei3 ei4) ?_ ?_
  · intro v53 S53 w53 M53 h53 hS53 hM53
    dsimp only
    refine qs_sl hS53 hM53 (pa_p hS53 pl_2332 ts_2332) k_0 (by decide) (p_64 h53) (fun S54 M54 hS54 hM54 => ?_)
    exact qs_tr (show vi _ _ from k_0) hS54 hM54
  · intro v53 S53 M53 hS53 hM53
    dsimp only
    refine qs_ite Iff.rfl ?_ ?_
    · exact qs_tr (show vi _ _ from k_1) hS53 hM53
    · refine qs_ite Iff.rfl ?_ ?_
      · exact qs_tr (show vi _ _ from k_2) hS53 hM53
      · exact qs_none
set_option maxRecDepth 20000 in
theorem qz_X16_isIn {P : Nat → Nat} {S : zm_S} {M : qm} {i0 : Int32} {qi0 : Int} (hS : Sh L xs P S) (hM : qM P S = M) (ei0 : i0.toInt = qi0) : qs (zf_X16_isIn 20000 i0 S) (qf_X16_isIn 20000 qi0 M) (tO (rp L xs P M vi)) := by
  unfold zf_X16_isIn qf_X16_isIn
  refine qs_ite (c_lt ei0 k_0) ?_ ?_
  · exact qs_tp (show vi _ _ from k_0) hS hM
  · refine qs_ite (c_lt k_24 ei0) ?_ ?_
    · exact qs_tp (show vi _ _ from k_0) hS hM
    · exact qs_tp (show vi _ _ from k_1) hS hM
set_option maxRecDepth 20000 in
theorem qz_X18_goes_J18 {P : Nat → Nat} {S : zm_S} {M : qm} {t1 : Int32} {qt1 : Int} (hS : Sh L xs P S) (hM : qM P S = M) (et1 : t1.toInt = qt1) : qs (zf_X18_goes_J18 20000 2156 2156 t1 S) (qf_X18_goes_J18 20000 qt1 M) (tO (rr L xs P vi)) := by
  unfold zf_X18_goes_J18 qf_X18_goes_J18
  refine qs_pi hS hM pl_2156 ts_2156 (z := 0) rfl rfl et1 (fun S55 M55 hS55 hM55 => ?_)
  refine qs_gi hS55 hM55 pl_2156 ts_2156 (z := 0) rfl rfl (fun v56 h56 => ?_)
  refine qs_ite (c_eq h56 k_0) ?_ ?_
  · exact qs_tr (show vi _ _ from k_1) hS55 hM55
  · exact qs_tr (show vi _ _ from k_0) hS55 hM55
set_option maxRecDepth 20000 in
theorem qz_X18_goes {P : Nat → Nat} {S : zm_S} {M : qm} {i1 : Int32} {qi1 : Int} {i2 : Int32} {qi2 : Int} (hS : Sh L xs P S) (hM : qM P S = M) (ei1 : i1.toInt = qi1) (ei2 : i2.toInt = qi2) : qs (zf_X18_goes 20000 2156 i1 i2 S) (qf_X18_goes 20000 qi1 qi2 M) (tO (rr L xs P vi)) := by
  unfold zf_X18_goes qf_X18_goes
  refine qs_ite (c_eq ei1 k_0) ?_ ?_
  · exact (qz_X18_goes_J18 hS hM k_1)
  · refine qs_ite (c_eq ei2 k_0) ?_ ?_
    · exact (qz_X18_goes_J18 hS hM k_2)
    · exact (qz_X18_goes_J18 hS hM k_0)
set_option maxRecDepth 20000 in
theorem qz_X16_isAlone_J35 {P : Nat → Nat} {S : zm_S} {M : qm} {i1 : Int32} {qi1 : Int} {i3 : Int32} {qi3 : Int} (hS : Sh L xs P S) (hM : qM P S = M) (ei1 : i1.toInt = qi1) (ei3 : i3.toInt = qi3) {k : Nat → Int32 → Int32 → Int32 → zm_S → Option ((Int32 × zm_S) ⊕ ((Int32) × zm_S))} : qs (zf_X16_isAlone_J35 20000 k 2157 i1 i3 S) (qf_X16_isAlone_J35 20000 qi1 qi3 M) (tk (vs (rp L xs P M vi) (rp L xs P M vi)) (qc_X16_isAlone_L4 L xs P M k)) := by
  unfold zf_X16_isAlone_J35 qf_X16_isAlone_J35
  exact qs_tk ⟨_, _, _, _, rfl, ei1, k_0, (p_add ei3 k_1), hS, hM⟩
set_option maxRecDepth 20000 in
theorem qz_X16_isAlone_J31 {P : Nat → Nat} {S : zm_S} {M : qm} {i1 : Int32} {qi1 : Int} {i3 : Int32} {qi3 : Int} (hS : Sh L xs P S) (hM : qM P S = M) (ei1 : i1.toInt = qi1) (ei3 : i3.toInt = qi3) {k : Nat → Int32 → Int32 → Int32 → zm_S → Option ((Int32 × zm_S) ⊕ ((Int32) × zm_S))} : qs (zf_X16_isAlone_J31 20000 k 2157 i1 i3 S) (qf_X16_isAlone_J31 20000 qi1 qi3 M) (tk (vs (rp L xs P M vi) (rp L xs P M vi)) (qc_X16_isAlone_L4 L xs P M k)) := by
  unfold zf_X16_isAlone_J31 qf_X16_isAlone_J31
  exact qs_tk ⟨_, _, _, _, rfl, ei1, k_1, (p_add ei3 k_1), hS, hM⟩
set_option maxRecDepth 20000 in
theorem qz_X16_highY {P : Nat → Nat} {S : zm_S} {M : qm} {i1 : Int32} {qi1 : Int} (hS : Sh L xs P S) (hM : qM P S = M) (ei1 : i1.toInt = qi1) : qs (zf_X16_highY 20000 2157 i1 S) (qf_X16_highY 20000 qi1 M) (tO (rp L xs P M vi)) := by
  unfold zf_X16_highY qf_X16_highY
  refine qs_gr hS pl_2157 ts_2157 rfl ?_
  refine qs_gd (fun g59 => ?_)
  refine qs_xi hM (pa_p hS pl_2159 ts_2159) ei1 g59 (fun v58 h58 => ?_)
  refine qs_gr hS pl_2157 ts_2157 rfl ?_
  refine qs_gd (fun g62 => ?_)
  refine qs_xi hM (pa_p hS pl_2160 ts_2160) ei1 g62 (fun v61 h61 => ?_)
  refine qs_ite (c_eq h61 k_0) ?_ ?_
  · refine qs_gr hS pl_2157 ts_2157 rfl ?_
    refine qs_gd (fun g65 => ?_)
    refine qs_xi hM (pa_p hS pl_2161 ts_2161) ei1 g65 (fun v64 h64 => ?_)
    exact qs_tp (show vi _ _ from (p_add h58 h64)) hS hM
  · exact qs_tp (show vi _ _ from (p_add h58 k_0)) hS hM
set_option maxRecDepth 20000 in
theorem qz_X16_along_J196 {P : Nat → Nat} {S : zm_S} {M : qm} {i3 : Int32} {qi3 : Int} {t0 : Int32} {qt0 : Int} (hS : Sh L xs P S) (hM : qM P S = M) (ei3 : i3.toInt = qi3) (et0 : t0.toInt = qt0) : qs (zf_X16_along_J196 20000 i3 t0 S) (qf_X16_along_J196 20000 qi3 qt0 M) (tO (rp L xs P M vi)) := by
  unfold zf_X16_along_J196 qf_X16_along_J196
  exact qs_tp (show vi _ _ from (p_sub et0 ei3)) hS hM
set_option maxRecDepth 20000 in
theorem qz_X16_highX {P : Nat → Nat} {S : zm_S} {M : qm} {i1 : Int32} {qi1 : Int} (hS : Sh L xs P S) (hM : qM P S = M) (ei1 : i1.toInt = qi1) : qs (zf_X16_highX 20000 2157 i1 S) (qf_X16_highX 20000 qi1 M) (tO (rp L xs P M vi)) := by
  unfold zf_X16_highX qf_X16_highX
  refine qs_gr hS pl_2157 ts_2157 rfl ?_
  refine qs_gd (fun g68 => ?_)
  refine qs_xi hM (pa_p hS pl_2158 ts_2158) ei1 g68 (fun v67 h67 => ?_)
  refine qs_gr hS pl_2157 ts_2157 rfl ?_
  refine qs_gd (fun g71 => ?_)
  refine qs_xi hM (pa_p hS pl_2160 ts_2160) ei1 g71 (fun v70 h70 => ?_)
  refine qs_ite (c_eq h70 k_0) ?_ ?_
  · exact qs_tp (show vi _ _ from (p_add h67 k_0)) hS hM
  · refine qs_gr hS pl_2157 ts_2157 rfl ?_
    refine qs_gd (fun g74 => ?_)
    refine qs_xi hM (pa_p hS pl_2161 ts_2161) ei1 g74 (fun v73 h73 => ?_)
    exact qs_tp (show vi _ _ from (p_add h67 h73)) hS hM
set_option maxRecDepth 20000 in
theorem qz_X16_along_J131 {P : Nat → Nat} {S : zm_S} {M : qm} {i1 : Int32} {qi1 : Int} {i2 : Int32} {qi2 : Int} {t0 : Int32} {qt0 : Int} (hS : Sh L xs P S) (hM : qM P S = M) (ei1 : i1.toInt = qi1) (ei2 : i2.toInt = qi2) (et0 : t0.toInt = qt0) : qs (zf_X16_along_J131 20000 2157 i1 i2 t0 S) (qf_X16_along_J131 20000 qi1 qi2 qt0 M) (tO (rp L xs P M vi)) := by
  unfold zf_X16_along_J131 qf_X16_along_J131
  refine qs_gr hS pl_2157 ts_2157 rfl ?_
  refine qs_gd (fun g77 => ?_)
  refine qs_xi hM (pa_p hS pl_2160 ts_2160) ei1 g77 (fun v76 h76 => ?_)
  refine qs_ite (c_eq h76 k_0) ?_ ?_
  · refine qs_zi hS pl_2157 ts_2157 ?_
    refine qs_bp (qz_X16_highY hS hM ei1) (fun v79 S79 w79 h79 hS79 hM79 => ?_)
    refine qs_zi hS79 pl_2157 ts_2157 ?_
    refine qs_bp (qz_X16_highY hS79 hM79 ei2) (fun v81 S81 w81 h81 hS81 hM81 => ?_)
    refine qs_ite (c_le h81 h79) ?_ ?_
    · refine qs_zi hS81 pl_2157 ts_2157 ?_
      refine qs_bp (qz_X16_highY hS81 hM81 ei2) (fun v83 S83 w83 h83 hS83 hM83 => ?_)
      exact (qz_X16_along_J196 hS83 hM83 et0 h83)
    · refine qs_zi hS81 pl_2157 ts_2157 ?_
      refine qs_bp (qz_X16_highY hS81 hM81 ei1) (fun v85 S85 w85 h85 hS85 hM85 => ?_)
      exact (qz_X16_along_J196 hS85 hM85 et0 h85)
  · refine qs_zi hS pl_2157 ts_2157 ?_
    refine qs_bp (qz_X16_highX hS hM ei1) (fun v87 S87 w87 h87 hS87 hM87 => ?_)
    refine qs_zi hS87 pl_2157 ts_2157 ?_
    refine qs_bp (qz_X16_highX hS87 hM87 ei2) (fun v89 S89 w89 h89 hS89 hM89 => ?_)
    refine qs_ite (c_le h89 h87) ?_ ?_
    · refine qs_zi hS89 pl_2157 ts_2157 ?_
      refine qs_bp (qz_X16_highX hS89 hM89 ei2) (fun v91 S91 w91 h91 hS91 hM91 => ?_)
      exact (qz_X16_along_J196 hS91 hM91 et0 h91)
    · refine qs_zi hS89 pl_2157 ts_2157 ?_
      refine qs_bp (qz_X16_highX hS89 hM89 ei1) (fun v93 S93 w93 h93 hS93 hM93 => ?_)
      exact (qz_X16_along_J196 hS93 hM93 et0 h93)
set_option maxRecDepth 20000 in
theorem qz_X16_along_J59 {P : Nat → Nat} {S : zm_S} {M : qm} {i1 : Int32} {qi1 : Int} {i2 : Int32} {qi2 : Int} (hS : Sh L xs P S) (hM : qM P S = M) (ei1 : i1.toInt = qi1) (ei2 : i2.toInt = qi2) : qs (zf_X16_along_J59 20000 2157 i1 i2 S) (qf_X16_along_J59 20000 qi1 qi2 M) (tO (rp L xs P M vi)) := by
  unfold zf_X16_along_J59 qf_X16_along_J59
  refine qs_gr hS pl_2157 ts_2157 rfl ?_
  refine qs_gd (fun g96 => ?_)
  refine qs_xi hM (pa_p hS pl_2160 ts_2160) ei1 g96 (fun v95 h95 => ?_)
  refine qs_ite (c_eq h95 k_0) ?_ ?_
  · refine qs_gr hS pl_2157 ts_2157 rfl ?_
    refine qs_gd (fun g99 => ?_)
    refine qs_xi hM (pa_p hS pl_2159 ts_2159) ei1 g99 (fun v98 h98 => ?_)
    refine qs_gr hS pl_2157 ts_2157 rfl ?_
    refine qs_gd (fun g102 => ?_)
    refine qs_xi hM (pa_p hS pl_2159 ts_2159) ei2 g102 (fun v101 h101 => ?_)
    refine qs_ite (c_le h98 h101) ?_ ?_
    · refine qs_gr hS pl_2157 ts_2157 rfl ?_
      refine qs_gd (fun g105 => ?_)
      refine qs_xi hM (pa_p hS pl_2159 ts_2159) ei2 g105 (fun v104 h104 => ?_)
      exact (qz_X16_along_J131 hS hM ei1 ei2 h104)
    · refine qs_gr hS pl_2157 ts_2157 rfl ?_
      refine qs_gd (fun g108 => ?_)
      refine qs_xi hM (pa_p hS pl_2159 ts_2159) ei1 g108 (fun v107 h107 => ?_)
      exact (qz_X16_along_J131 hS hM ei1 ei2 h107)
  · refine qs_gr hS pl_2157 ts_2157 rfl ?_
    refine qs_gd (fun g111 => ?_)
    refine qs_xi hM (pa_p hS pl_2158 ts_2158) ei1 g111 (fun v110 h110 => ?_)
    refine qs_gr hS pl_2157 ts_2157 rfl ?_
    refine qs_gd (fun g114 => ?_)
    refine qs_xi hM (pa_p hS pl_2158 ts_2158) ei2 g114 (fun v113 h113 => ?_)
    refine qs_ite (c_le h110 h113) ?_ ?_
    · refine qs_gr hS pl_2157 ts_2157 rfl ?_
      refine qs_gd (fun g117 => ?_)
      refine qs_xi hM (pa_p hS pl_2158 ts_2158) ei2 g117 (fun v116 h116 => ?_)
      exact (qz_X16_along_J131 hS hM ei1 ei2 h116)
    · refine qs_gr hS pl_2157 ts_2157 rfl ?_
      refine qs_gd (fun g120 => ?_)
      refine qs_xi hM (pa_p hS pl_2158 ts_2158) ei1 g120 (fun v119 h119 => ?_)
      exact (qz_X16_along_J131 hS hM ei1 ei2 h119)
set_option maxRecDepth 20000 in
theorem qz_X16_along {P : Nat → Nat} {S : zm_S} {M : qm} {i1 : Int32} {qi1 : Int} {i2 : Int32} {qi2 : Int} (hS : Sh L xs P S) (hM : qM P S = M) (ei1 : i1.toInt = qi1) (ei2 : i2.toInt = qi2) : qs (zf_X16_along 20000 2157 i1 i2 S) (qf_X16_along 20000 qi1 qi2 M) (tO (rp L xs P M vi)) := by
  unfold zf_X16_along qf_X16_along
  refine qs_gr hS pl_2157 ts_2157 rfl ?_
  refine qs_gd (fun g123 => ?_)
  refine qs_xi hM (pa_p hS pl_2160 ts_2160) ei1 g123 (fun v122 h122 => ?_)
  refine qs_gr hS pl_2157 ts_2157 rfl ?_
  refine qs_gd (fun g126 => ?_)
  refine qs_xi hM (pa_p hS pl_2160 ts_2160) ei2 g126 (fun v125 h125 => ?_)
  refine qs_ite (c_eq h122 h125) ?_ ?_
  · refine qs_gr hS pl_2157 ts_2157 rfl ?_
    refine qs_gd (fun g129 => ?_)
    refine qs_xi hM (pa_p hS pl_2160 ts_2160) ei1 g129 (fun v128 h128 => ?_)
    refine qs_ite (c_eq h128 k_0) ?_ ?_
    · refine qs_gr hS pl_2157 ts_2157 rfl ?_
      refine qs_gd (fun g132 => ?_)
      refine qs_xi hM (pa_p hS pl_2158 ts_2158) ei1 g132 (fun v131 h131 => ?_)
      refine qs_gr hS pl_2157 ts_2157 rfl ?_
      refine qs_gd (fun g135 => ?_)
      refine qs_xi hM (pa_p hS pl_2158 ts_2158) ei2 g135 (fun v134 h134 => ?_)
      refine qs_ite (c_eq h131 h134) ?_ ?_
      · exact (qz_X16_along_J59 hS hM ei1 ei2)
      · exact qs_tp (show vi _ _ from k_m1) hS hM
    · refine qs_gr hS pl_2157 ts_2157 rfl ?_
      refine qs_gd (fun g138 => ?_)
      refine qs_xi hM (pa_p hS pl_2159 ts_2159) ei1 g138 (fun v137 h137 => ?_)
      refine qs_gr hS pl_2157 ts_2157 rfl ?_
      refine qs_gd (fun g141 => ?_)
      refine qs_xi hM (pa_p hS pl_2159 ts_2159) ei2 g141 (fun v140 h140 => ?_)
      refine qs_ite (c_eq h137 h140) ?_ ?_
      · exact (qz_X16_along_J59 hS hM ei1 ei2)
      · exact qs_tp (show vi _ _ from k_m1) hS hM
  · exact qs_tp (show vi _ _ from k_m1) hS hM
set_option maxRecDepth 20000 in
theorem qz_X16_isAlone_L4_b (n : Nat) {P : Nat → Nat} {S : zm_S} {M : qm} {i1 : Int32} {qi1 : Int} {i2 : Int32} {qi2 : Int} {i3 : Int32} {qi3 : Int} (hS : Sh L xs P S) (hM : qM P S = M) (ei1 : i1.toInt = qi1) (ei2 : i2.toInt = qi2) (ei3 : i3.toInt = qi3) : qs (zf_X16_isAlone_L4 20000 (n + 1) 2157 i1 i2 i3 S) (qf_X16_isAlone_L4_b 20000 qi1 qi2 qi3 M) (tk (vs (rp L xs P M vi) (rp L xs P M vi)) (qc_X16_isAlone_L4 L xs P M (zf_X16_isAlone_L4 20000 n))) := by
  refine qs_eq (zf_X16_isAlone_L4.eq_2 ..) ?_
  unfold qf_X16_isAlone_L4_b
  refine qs_gi hS hM pl_2157 ts_2157 (z := 0) rfl rfl (fun v142 h142 => ?_)
  refine qs_ite (c_le h142 ei3) ?_ ?_
  · exact qs_tp2 (show vi _ _ from ei2) hS hM
  · refine qs_ite (c_eq ei2 k_0) ?_ ?_
    · exact (qz_X16_isAlone_J35 hS hM ei1 ei3)
    · refine qs_ite (c_eq ei3 ei1) ?_ ?_
      · exact (qz_X16_isAlone_J31 hS hM ei1 ei3)
      · refine qs_zi hS pl_2157 ts_2157 ?_
        refine qs_bp (qz_X16_along hS hM ei3 ei1) (fun v144 S144 w144 h144 hS144 hM144 => ?_)
        refine qs_ite (c_le k_1 h144) ?_ ?_
        · exact (qz_X16_isAlone_J35 hS144 hM144 ei1 ei3)
        · exact (qz_X16_isAlone_J31 hS144 hM144 ei1 ei3)
theorem qz_X16_isAlone_L4 (n : Nat) : ∀ {P : Nat → Nat} {S : zm_S} {M : qm} {i1 : Int32} {qi1 : Int} {i2 : Int32} {qi2 : Int} {i3 : Int32} {qi3 : Int} (hS : Sh L xs P S) (hM : qM P S = M) (ei1 : i1.toInt = qi1) (ei2 : i2.toInt = qi2) (ei3 : i3.toInt = qi3), qs (zf_X16_isAlone_L4 20000 n 2157 i1 i2 i3 S) (qf_X16_isAlone_L4 20000 n qi1 qi2 qi3 M) (tO (vs (rp L xs P M vi) (rp L xs P M vi))) := by
  induction n with
  | zero =>
    intros
    exact qs_none
  | succ n ih =>
    intro P S M i1 qi1 i2 qi2 i3 qi3 hS hM ei1 ei2 ei3
    unfold qf_X16_isAlone_L4
    refine qs_loop (C := (qc_X16_isAlone_L4 L xs P M (zf_X16_isAlone_L4 20000 n))) (qz_X16_isAlone_L4_b n hS hM ei1 ei2 ei3) ?_
    rintro x s ⟨_, _, _, _, rfl, u0, u1, u2, hS2, hM2⟩
    exact ih hS2 hM2 u0 u1 u2
set_option maxRecDepth 20000 in
theorem qz_X16_isAlone {P : Nat → Nat} {S : zm_S} {M : qm} {i1 : Int32} {qi1 : Int} (hS : Sh L xs P S) (hM : qM P S = M) (ei1 : i1.toInt = qi1) : qs (zf_X16_isAlone 20000 2157 i1 S) (qf_X16_isAlone 20000 qi1 M) (tO (rp L xs P M vi)) := by
  unfold zf_X16_isAlone qf_X16_isAlone
  refine qs_lp (qz_X16_isAlone_L4 20000 hS hM ei1 k_1 k_0) ?_ ?_
  · intro v146 S146 w146 h146 hS146 hM146
    dsimp only
    exact qs_tp h146 hS146 hM146
  · intro v146 S146 w146 h146 hS146 hM146
    dsimp only
    refine qs_ite (or_congr (c_eq h146 k_0) (c_eq h146 k_1)) ?_ ?_
    · exact qs_tp (show vi _ _ from h146) hS146 hM146
    · exact qs_none
set_option maxRecDepth 20000 in
theorem qz_X16_line_J59 {P : Nat → Nat} {S : zm_S} {M : qm} {i1 : Int32} {qi1 : Int} {i2 : Int32} {qi2 : Int} {i3 : Int32} {qi3 : Int} {i4 : Int32} {qi4 : Int} {t1 : Int32} {qt1 : Int} {t2 : Int32} {qt2 : Int} (hS : Sh L xs P S) (hM : qM P S = M) (ei1 : i1.toInt = qi1) (ei2 : i2.toInt = qi2) (ei3 : i3.toInt = qi3) (ei4 : i4.toInt = qi4) (et1 : t1.toInt = qt1) (et2 : t2.toInt = qt2) : qs (zf_X16_line_J59 20000 2157 i1 i2 i3 i4 2160 t1 t2 S) (qf_X16_line_J59 20000 qi1 qi2 qi3 qi4 qt1 qt2 M) (tO (rr L xs P vi)) := by
  unfold zf_X16_line_J59 qf_X16_line_J59
  refine qs_gd (fun g148 => ?_)
  refine qs_sz hS hM (pa_p hS pl_2160 ts_2160) et1 g148.1 et2 g148.2 (fun S147 M147 hS147 hM147 => ?_)
  refine qs_gr hS147 pl_2157 ts_2157 rfl ?_
  refine qs_gi hS147 hM147 pl_2157 ts_2157 (z := 0) rfl rfl (fun v150 h150 => ?_)
  refine qs_gr hS147 pl_2157 ts_2157 rfl ?_
  refine qs_gi hS147 hM147 pl_2157 ts_2157 (z := 0) rfl rfl (fun v152 h152 => ?_)
  refine qs_gd (fun g154 => ?_)
  refine qs_xi hM147 (pa_p hS147 pl_2158 ts_2158) h152 g154 (fun v153 h153 => ?_)
  refine qs_gr hS147 pl_2157 ts_2157 rfl ?_
  refine qs_gi hS147 hM147 pl_2157 ts_2157 (z := 0) rfl rfl (fun v156 h156 => ?_)
  refine qs_gd (fun g158 => ?_)
  refine qs_xi hM147 (pa_p hS147 pl_2159 ts_2159) h156 g158 (fun v157 h157 => ?_)
  refine qs_gd (fun g160 => ?_)
  refine qs_si hS147 hM147 (pa_p hS147 pl_2161 ts_2161) h150 g160 (p_sub (p_add (p_add (p_sub (p_add ei1 ei3) (p_mul k_2 h153)) ei2) ei4) (p_mul k_2 h157)) (fun S159 M159 hS159 hM159 => ?_)
  refine qs_gr hS159 pl_2157 ts_2157 rfl ?_
  refine qs_gi hS159 hM159 pl_2157 ts_2157 (z := 0) rfl rfl (fun v162 h162 => ?_)
  refine qs_gd (fun g164 => ?_)
  refine qs_si hS159 hM159 (pa_p hS159 pl_2162 ts_2162) h162 g164 k_0 (fun S163 M163 hS163 hM163 => ?_)
  refine qs_gi hS163 hM163 pl_2157 ts_2157 (z := 0) rfl rfl (fun v165 h165 => ?_)
  refine qs_zi hS163 pl_2157 ts_2157 ?_
  refine qs_bp (qz_X16_isAlone hS163 hM163 h165) (fun v167 S167 w167 h167 hS167 hM167 => ?_)
  refine qs_ite (c_eq h167 k_0) ?_ ?_
  · exact qs_tr (show vi _ _ from k_m1) hS167 hM167
  · refine qs_gi hS167 hM167 pl_2157 ts_2157 (z := 0) rfl rfl (fun v168 h168 => ?_)
    refine qs_pi hS167 hM167 pl_2157 ts_2157 (z := 0) rfl rfl (p_add h168 k_1) (fun S169 M169 hS169 hM169 => ?_)
    refine qs_pi hS169 hM169 pl_2157 ts_2157 (z := 10) rfl rfl k_0 (fun S170 M170 hS170 hM170 => ?_)
    refine qs_gi hS170 hM170 pl_2157 ts_2157 (z := 0) rfl rfl (fun v171 h171 => ?_)
    exact qs_tr (show vi _ _ from (p_sub h171 k_1)) hS170 hM170
set_option maxRecDepth 20000 in
theorem qz_X16_line_J39 {P : Nat → Nat} {S : zm_S} {M : qm} {i1 : Int32} {qi1 : Int} {i2 : Int32} {qi2 : Int} {i3 : Int32} {qi3 : Int} {i4 : Int32} {qi4 : Int} {t1 : Int32} {qt1 : Int} {t2 : Int32} {qt2 : Int} (hS : Sh L xs P S) (hM : qM P S = M) (ei1 : i1.toInt = qi1) (ei2 : i2.toInt = qi2) (ei3 : i3.toInt = qi3) (ei4 : i4.toInt = qi4) (et1 : t1.toInt = qt1) (et2 : t2.toInt = qt2) : qs (zf_X16_line_J39 20000 2157 i1 i2 i3 i4 2159 t1 t2 S) (qf_X16_line_J39 20000 qi1 qi2 qi3 qi4 qt1 qt2 M) (tO (rr L xs P vi)) := by
  unfold zf_X16_line_J39 qf_X16_line_J39
  refine qs_gd (fun g173 => ?_)
  refine qs_si hS hM (pa_p hS pl_2159 ts_2159) et1 g173 et2 (fun S172 M172 hS172 hM172 => ?_)
  refine qs_gr hS172 pl_2157 ts_2157 rfl ?_
  refine qs_gi hS172 hM172 pl_2157 ts_2157 (z := 0) rfl rfl (fun v175 h175 => ?_)
  refine qs_ite (c_eq ei2 ei4) ?_ ?_
  · exact (qz_X16_line_J59 hS172 hM172 ei1 ei2 ei3 ei4 h175 k_1)
  · exact (qz_X16_line_J59 hS172 hM172 ei1 ei2 ei3 ei4 h175 k_0)
set_option maxRecDepth 20000 in
theorem qz_X16_line_J18 {P : Nat → Nat} {S : zm_S} {M : qm} {i1 : Int32} {qi1 : Int} {i2 : Int32} {qi2 : Int} {i3 : Int32} {qi3 : Int} {i4 : Int32} {qi4 : Int} {t1 : Int32} {qt1 : Int} {t2 : Int32} {qt2 : Int} (hS : Sh L xs P S) (hM : qM P S = M) (ei1 : i1.toInt = qi1) (ei2 : i2.toInt = qi2) (ei3 : i3.toInt = qi3) (ei4 : i4.toInt = qi4) (et1 : t1.toInt = qt1) (et2 : t2.toInt = qt2) : qs (zf_X16_line_J18 20000 2157 i1 i2 i3 i4 2158 t1 t2 S) (qf_X16_line_J18 20000 qi1 qi2 qi3 qi4 qt1 qt2 M) (tO (rr L xs P vi)) := by
  unfold zf_X16_line_J18 qf_X16_line_J18
  refine qs_gd (fun g177 => ?_)
  refine qs_si hS hM (pa_p hS pl_2158 ts_2158) et1 g177 et2 (fun S176 M176 hS176 hM176 => ?_)
  refine qs_gr hS176 pl_2157 ts_2157 rfl ?_
  refine qs_gi hS176 hM176 pl_2157 ts_2157 (z := 0) rfl rfl (fun v179 h179 => ?_)
  refine qs_ite (c_le ei4 ei2) ?_ ?_
  · exact (qz_X16_line_J39 hS176 hM176 ei1 ei2 ei3 ei4 h179 ei4)
  · exact (qz_X16_line_J39 hS176 hM176 ei1 ei2 ei3 ei4 h179 ei2)
set_option maxRecDepth 20000 in
theorem qz_X16_line {P : Nat → Nat} {S : zm_S} {M : qm} {i1 : Int32} {qi1 : Int} {i2 : Int32} {qi2 : Int} {i3 : Int32} {qi3 : Int} {i4 : Int32} {qi4 : Int} (hS : Sh L xs P S) (hM : qM P S = M) (ei1 : i1.toInt = qi1) (ei2 : i2.toInt = qi2) (ei3 : i3.toInt = qi3) (ei4 : i4.toInt = qi4) : qs (zf_X16_line 20000 2157 i1 i2 i3 i4 S) (qf_X16_line 20000 qi1 qi2 qi3 qi4 M) (tO (rr L xs P vi)) := by
  unfold zf_X16_line qf_X16_line
  refine qs_gr hS pl_2157 ts_2157 rfl ?_
  refine qs_gi hS hM pl_2157 ts_2157 (z := 0) rfl rfl (fun v181 h181 => ?_)
  refine qs_ite (c_le ei3 ei1) ?_ ?_
  · exact (qz_X16_line_J18 hS hM ei1 ei2 ei3 ei4 h181 ei3)
  · exact (qz_X16_line_J18 hS hM ei1 ei2 ei3 ei4 h181 ei1)
set_option maxRecDepth 20000 in
theorem qz_X18_line_J83 {P : Nat → Nat} {S : zm_S} {M : qm} {i1 : Int32} {qi1 : Int} {i2 : Int32} {qi2 : Int} {i3 : Int32} {qi3 : Int} {i4 : Int32} {qi4 : Int} {t1 : Int32} {qt1 : Int} {t2 : Int32} {qt2 : Int} (hS : Sh L xs P S) (hM : qM P S = M) (ei1 : i1.toInt = qi1) (ei2 : i2.toInt = qi2) (ei3 : i3.toInt = qi3) (ei4 : i4.toInt = qi4) (et1 : t1.toInt = qt1) (et2 : t2.toInt = qt2) : qs (zf_X18_line_J83 20000 2156 i1 i2 i3 i4 2156 t1 t2 S) (qf_X18_line_J83 20000 qi1 qi2 qi3 qi4 qt1 qt2 M) (tO (rr L xs P vi)) := by
  unfold zf_X18_line_J83 qf_X18_line_J83
  refine qs_zi hS pl_2156 ts_2156 ?_
  refine qs_b (qz_X18_goes hS hM et1 et2) (fun v183 S183 w183 M183 h183 hS183 hM183 => ?_)
  refine qs_ite (c_eq h183 k_0) ?_ ?_
  · exact qs_tr (show vi _ _ from k_0) hS183 hM183
  · refine qs_gr hS183 pl_2156 ts_2156 rfl ?_
    refine qs_zi hS183 pl_2157 ts_2157 ?_
    refine qs_b (qz_X16_line hS183 hM183 ei1 ei2 ei3 ei4) (fun v186 S186 w186 M186 h186 hS186 hM186 => ?_)
    exact qs_tr (show vi _ _ from h186) hS186 hM186
set_option maxRecDepth 20000 in
theorem qz_X18_line_J82 {P : Nat → Nat} {S : zm_S} {M : qm} {i1 : Int32} {qi1 : Int} {i2 : Int32} {qi2 : Int} {i3 : Int32} {qi3 : Int} {i4 : Int32} {qi4 : Int} {t1 : Int32} {qt1 : Int} (hS : Sh L xs P S) (hM : qM P S = M) (ei1 : i1.toInt = qi1) (ei2 : i2.toInt = qi2) (ei3 : i3.toInt = qi3) (ei4 : i4.toInt = qi4) (et1 : t1.toInt = qt1) : qs (zf_X18_line_J82 20000 2156 i1 i2 i3 i4 2156 t1 S) (qf_X18_line_J82 20000 qi1 qi2 qi3 qi4 qt1 M) (tO (rr L xs P vi)) := by
  unfold zf_X18_line_J82 qf_X18_line_J82
  exact (qz_X18_line_J83 hS hM ei1 ei2 ei3 ei4 et1 k_0)
set_option maxRecDepth 20000 in
theorem qz_X18_line_J54 {P : Nat → Nat} {S : zm_S} {M : qm} {i1 : Int32} {qi1 : Int} {i2 : Int32} {qi2 : Int} {i3 : Int32} {qi3 : Int} {i4 : Int32} {qi4 : Int} {t0 : Int32} {qt0 : Int} (hS : Sh L xs P S) (hM : qM P S = M) (ei1 : i1.toInt = qi1) (ei2 : i2.toInt = qi2) (ei3 : i3.toInt = qi3) (ei4 : i4.toInt = qi4) (et0 : t0.toInt = qt0) : qs (zf_X18_line_J54 20000 2156 i1 i2 i3 i4 t0 S) (qf_X18_line_J54 20000 qi1 qi2 qi3 qi4 qt0 M) (tO (rr L xs P vi)) := by
  unfold zf_X18_line_J54 qf_X18_line_J54
  refine qs_gi hS hM pl_2156 ts_2156 (z := 1) rfl rfl (fun v187 h187 => ?_)
  refine qs_ite (c_eq h187 k_0) ?_ ?_
  · refine qs_gr hS pl_2156 ts_2156 rfl ?_
    refine qs_gi hS hM pl_2157 ts_2157 (z := 0) rfl rfl (fun v189 h189 => ?_)
    refine qs_ite (c_le k_20 h189) ?_ ?_
    · exact (qz_X18_line_J82 hS hM ei1 ei2 ei3 ei4 et0)
    · exact (qz_X18_line_J83 hS hM ei1 ei2 ei3 ei4 et0 k_1)
  · exact (qz_X18_line_J82 hS hM ei1 ei2 ei3 ei4 et0)
set_option maxRecDepth 20000 in
theorem qz_X18_line_J53 {P : Nat → Nat} {S : zm_S} {M : qm} {i1 : Int32} {qi1 : Int} {i2 : Int32} {qi2 : Int} {i3 : Int32} {qi3 : Int} {i4 : Int32} {qi4 : Int} (hS : Sh L xs P S) (hM : qM P S = M) (ei1 : i1.toInt = qi1) (ei2 : i2.toInt = qi2) (ei3 : i3.toInt = qi3) (ei4 : i4.toInt = qi4) : qs (zf_X18_line_J53 20000 2156 i1 i2 i3 i4 S) (qf_X18_line_J53 20000 qi1 qi2 qi3 qi4 M) (tO (rr L xs P vi)) := by
  unfold zf_X18_line_J53 qf_X18_line_J53
  exact (qz_X18_line_J54 hS hM ei1 ei2 ei3 ei4 k_0)
set_option maxRecDepth 20000 in
theorem qz_X18_line_J49 {P : Nat → Nat} {S : zm_S} {M : qm} {i1 : Int32} {qi1 : Int} {i2 : Int32} {qi2 : Int} {i3 : Int32} {qi3 : Int} {i4 : Int32} {qi4 : Int} (hS : Sh L xs P S) (hM : qM P S = M) (ei1 : i1.toInt = qi1) (ei2 : i2.toInt = qi2) (ei3 : i3.toInt = qi3) (ei4 : i4.toInt = qi4) : qs (zf_X18_line_J49 20000 2156 i1 i2 i3 i4 S) (qf_X18_line_J49 20000 qi1 qi2 qi3 qi4 M) (tO (rr L xs P vi)) := by
  unfold zf_X18_line_J49 qf_X18_line_J49
  exact (qz_X18_line_J54 hS hM ei1 ei2 ei3 ei4 k_1)
set_option maxRecDepth 20000 in
theorem qz_X18_line {P : Nat → Nat} {S : zm_S} {M : qm} {i1 : Int32} {qi1 : Int} {i2 : Int32} {qi2 : Int} {i3 : Int32} {qi3 : Int} {i4 : Int32} {qi4 : Int} (hS : Sh L xs P S) (hM : qM P S = M) (ei1 : i1.toInt = qi1) (ei2 : i2.toInt = qi2) (ei3 : i3.toInt = qi3) (ei4 : i4.toInt = qi4) : qs (zf_X18_line 20000 2156 i1 i2 i3 i4 S) (qf_X18_line 20000 qi1 qi2 qi3 qi4 M) (tO (rr L xs P vi)) := by
  unfold zf_X18_line qf_X18_line
  refine qs_bp (qz_X16_isIn hS hM ei1) (fun v190 S190 w190 h190 hS190 hM190 => ?_)
  refine qs_ite (c_eq h190 k_0) ?_ ?_
  · exact (qz_X18_line_J53 hS190 hM190 ei1 ei2 ei3 ei4)
  · refine qs_bp (qz_X16_isIn hS190 hM190 ei2) (fun v191 S191 w191 h191 hS191 hM191 => ?_)
    refine qs_ite (c_eq h191 k_0) ?_ ?_
    · exact (qz_X18_line_J53 hS191 hM191 ei1 ei2 ei3 ei4)
    · refine qs_bp (qz_X16_isIn hS191 hM191 ei3) (fun v192 S192 w192 h192 hS192 hM192 => ?_)
      refine qs_ite (c_eq h192 k_0) ?_ ?_
      · exact (qz_X18_line_J53 hS192 hM192 ei1 ei2 ei3 ei4)
      · refine qs_bp (qz_X16_isIn hS192 hM192 ei4) (fun v193 S193 w193 h193 hS193 hM193 => ?_)
        refine qs_ite (c_eq h193 k_0) ?_ ?_
        · exact (qz_X18_line_J53 hS193 hM193 ei1 ei2 ei3 ei4)
        · refine qs_ite (c_eq ei1 ei3) ?_ ?_
          · refine qs_ite (c_eq ei2 ei4) ?_ ?_
            · exact (qz_X18_line_J53 hS193 hM193 ei1 ei2 ei3 ei4)
            · exact (qz_X18_line_J49 hS193 hM193 ei1 ei2 ei3 ei4)
          · refine qs_ite (c_eq ei2 ei4) ?_ ?_
            · exact (qz_X18_line_J49 hS193 hM193 ei1 ei2 ei3 ei4)
            · exact (qz_X18_line_J53 hS193 hM193 ei1 ei2 ei3 ei4)
set_option maxRecDepth 20000 in
theorem qz_X18_thrown {P : Nat → Nat} {S : zm_S} {M : qm}  (hS : Sh L xs P S) (hM : qM P S = M)  : qs (zf_X18_thrown 20000 2156 S) (qf_X18_thrown 20000 M) (tO (rp L xs P M vi)) := by
  unfold zf_X18_thrown qf_X18_thrown
  refine qs_gi hS hM pl_2156 ts_2156 (z := 0) rfl rfl (fun v194 h194 => ?_)
  exact qs_tp (show vi _ _ from h194) hS hM
set_option maxRecDepth 20000 in
theorem qz_X11_isLine {P : Nat → Nat} {S : zm_S} {M : qm} {i1 : Int32} {qi1 : Int} (hS : Sh L xs P S) (hM : qM P S = M) (ei1 : i1.toInt = qi1) : qs (zf_X11_isLine 20000 6 i1 S) (qf_X11_isLine 20000 qi1 M) (tO (rp L xs P M vi)) := by
  unfold zf_X11_isLine qf_X11_isLine
  refine qs_gr hS pl_6 ts_6 rfl ?_
  refine qs_gi hS hM pl_7 ts_7 (z := 0) rfl rfl (fun v196 h196 => ?_)
  refine qs_bp (qz_X11_isWithin hS hM ei1 k_0 (p_sub h196 k_1)) (fun v197 S197 w197 h197 hS197 hM197 => ?_)
  refine qs_ite (or_congr (c_eq h197 k_0) (c_eq h197 k_1)) ?_ ?_
  · exact qs_tp (show vi _ _ from h197) hS197 hM197
  · exact qs_none
set_option maxRecDepth 20000 in
theorem qz_X8_moveLine {P : Nat → Nat} {S : zm_S} {M : qm} {i1 : Int32} {qi1 : Int} {i2 : Int32} {qi2 : Int} {i3 : Int32} {qi3 : Int} (hS : Sh L xs P S) (hM : qM P S = M) (ei1 : i1.toInt = qi1) (ei2 : i2.toInt = qi2) (ei3 : i3.toInt = qi3) : qs (zf_X8_moveLine 20000 7 i1 i2 i3 S) (qf_X8_moveLine 20000 qi1 qi2 qi3 M) (tO (rr L xs P vi)) := by
  unfold zf_X8_moveLine qf_X8_moveLine
  refine qs_gr hS pl_7 ts_7 rfl ?_
  refine qs_gd (fun g200 => ?_)
  refine qs_xt hS pl_8 ts_8 (Or.inl rfl) ei1 g200 (fun b199 r199 => ?_)
  refine qs_yi (j := 0) hS hM qt_8 tq_8 r199 k_0 (by decide) (fun v201 h201 => ?_)
  refine qs_yi (j := 1) hS hM qt_8 tq_8 r199 k_1 (by decide) (fun v202 h202 => ?_)
  refine qs_yi (j := 2) hS hM qt_8 tq_8 r199 k_2 (by decide) (fun v203 h203 => ?_)
  refine qs_yi (j := 3) hS hM qt_8 tq_8 r199 k_3 (by decide) (fun v204 h204 => ?_)
  refine qs_zi hS pl_7 ts_7 ?_
  refine qs_bp (qz_X8_liesAlong hS hM ei1 (p_add h201 ei2) (p_add h202 ei3) (p_add h203 ei2) (p_add h204 ei3)) (fun v206 S206 w206 h206 hS206 hM206 => ?_)
  refine qs_ite (c_eq h206 k_0) ?_ ?_
  · refine qs_yi (j := 0) hS206 hM206 qt_8 tq_8 r199 k_0 (by decide) (fun v207 h207 => ?_)
    refine qs_yi (j := 1) hS206 hM206 qt_8 tq_8 r199 k_1 (by decide) (fun v208 h208 => ?_)
    refine qs_yi (j := 2) hS206 hM206 qt_8 tq_8 r199 k_2 (by decide) (fun v209 h209 => ?_)
    refine qs_yi (j := 3) hS206 hM206 qt_8 tq_8 r199 k_3 (by decide) (fun v210 h210 => ?_)
    refine qs_zi hS206 pl_7 ts_7 ?_
    refine qs_b (qz_X8_setEnds hS206 hM206 ei1 (p_add h207 ei2) (p_add h208 ei3) (p_add h209 ei2) (p_add h210 ei3)) (fun v212 S212 w212 M212 h212 hS212 hM212 => ?_)
    exact qs_tr (show vi _ _ from k_1) hS212 hM212
  · exact qs_tr (show vi _ _ from k_0) hS206 hM206
set_option maxRecDepth 20000 in
theorem qz_X11_move_J41 {P : Nat → Nat} {S : zm_S} {M : qm} {i1 : Int32} {qi1 : Int} {i2 : Int32} {qi2 : Int} {i3 : Int32} {qi3 : Int} {t0 : Int32} {qt0 : Int} (hS : Sh L xs P S) (hM : qM P S = M) (ei1 : i1.toInt = qi1) (ei2 : i2.toInt = qi2) (ei3 : i3.toInt = qi3) (et0 : t0.toInt = qt0) : qs (zf_X11_move_J41 20000 6 i1 i2 i3 t0 S) (qf_X11_move_J41 20000 qi1 qi2 qi3 qt0 M) (tO (rr L xs P (vs vi ve))) := by
  unfold zf_X11_move_J41 qf_X11_move_J41
  refine qs_xp (qz_X11_needState hS hM et0) ?_ ?_
  · intro v214 S214 w214 h214 hS214 hM214
    dsimp only
    refine qs_gr hS214 pl_6 ts_6 rfl ?_
    refine qs_zi hS214 pl_7 ts_7 ?_
    refine qs_b (qz_X8_moveLine hS214 hM214 ei1 ei2 ei3) (fun v217 S217 w217 M217 h217 hS217 hM217 => ?_)
    refine qs_ite (c_eq h217 k_0) ?_ ?_
    · refine qs_ite (or_congr (c_eq h217 k_0) (c_eq h217 k_1)) ?_ ?_
      · exact qs_tr (show (vs vi ve) _ _ from h217) hS217 hM217
      · exact qs_none
    · refine qs_gr hS217 pl_6 ts_6 rfl ?_
      refine qs_pi hS217 hM217 pl_51 ts_51 (z := 2) rfl rfl k_0 (fun S219 M219 hS219 hM219 => ?_)
      refine qs_ite (or_congr (c_eq h217 k_0) (c_eq h217 k_1)) ?_ ?_
      · exact qs_tr (show (vs vi ve) _ _ from h217) hS219 hM219
      · exact qs_none
  · intro v214 S214 hS214 hM214
    dsimp only
    exact qs_tr (show (vs vi ve) _ _ from rfl) hS214 hM214
set_option maxRecDepth 20000 in
theorem qz_X11_move_J26 {P : Nat → Nat} {S : zm_S} {M : qm} {i1 : Int32} {qi1 : Int} {i2 : Int32} {qi2 : Int} {i3 : Int32} {qi3 : Int} {t0 : Int32} {qt0 : Int} (hS : Sh L xs P S) (hM : qM P S = M) (ei1 : i1.toInt = qi1) (ei2 : i2.toInt = qi2) (ei3 : i3.toInt = qi3) (et0 : t0.toInt = qt0) : qs (zf_X11_move_J26 20000 6 i1 i2 i3 t0 S) (qf_X11_move_J26 20000 qi1 qi2 qi3 qt0 M) (tO (rr L xs P (vs vi ve))) := by
  unfold zf_X11_move_J26 qf_X11_move_J26
  refine qs_xp (qz_X11_needArgument hS hM et0) ?_ ?_
  · intro v221 S221 w221 h221 hS221 hM221
    dsimp only
    refine qs_gi hS221 hM221 pl_6 ts_6 (z := 11) rfl rfl (fun v222 h222 => ?_)
    refine qs_ite (c_eq h222 k_0) ?_ ?_
    · exact (qz_X11_move_J41 hS221 hM221 ei1 ei2 ei3 k_1)
    · exact (qz_X11_move_J41 hS221 hM221 ei1 ei2 ei3 k_0)
  · intro v221 S221 hS221 hM221
    dsimp only
    exact qs_tr (show (vs vi ve) _ _ from rfl) hS221 hM221
set_option maxRecDepth 20000 in
theorem qz_X11_move_J25 {P : Nat → Nat} {S : zm_S} {M : qm} {i1 : Int32} {qi1 : Int} {i2 : Int32} {qi2 : Int} {i3 : Int32} {qi3 : Int} (hS : Sh L xs P S) (hM : qM P S = M) (ei1 : i1.toInt = qi1) (ei2 : i2.toInt = qi2) (ei3 : i3.toInt = qi3) : qs (zf_X11_move_J25 20000 6 i1 i2 i3 S) (qf_X11_move_J25 20000 qi1 qi2 qi3 M) (tO (rr L xs P (vs vi ve))) := by
  unfold zf_X11_move_J25 qf_X11_move_J25
  exact (qz_X11_move_J26 hS hM ei1 ei2 ei3 k_0)
set_option maxRecDepth 20000 in
theorem qz_X8_staysOnPlan {P : Nat → Nat} {S : zm_S} {M : qm} {i1 : Int32} {qi1 : Int} {i2 : Int32} {qi2 : Int} {i3 : Int32} {qi3 : Int} (hS : Sh L xs P S) (hM : qM P S = M) (ei1 : i1.toInt = qi1) (ei2 : i2.toInt = qi2) (ei3 : i3.toInt = qi3) : qs (zf_X8_staysOnPlan 20000 7 i1 i2 i3 S) (qf_X8_staysOnPlan 20000 qi1 qi2 qi3 M) (tO (rp L xs P M vi)) := by
  unfold zf_X8_staysOnPlan qf_X8_staysOnPlan
  refine qs_gr hS pl_7 ts_7 rfl ?_
  refine qs_gd (fun g225 => ?_)
  refine qs_xt hS pl_8 ts_8 (Or.inl rfl) ei1 g225 (fun b224 r224 => ?_)
  refine qs_yi (j := 0) hS hM qt_8 tq_8 r224 k_0 (by decide) (fun v226 h226 => ?_)
  refine qs_ite (g_lt (pl_add (p_64 h226) (p_64 ei2)) kl_0) ?_ ?_
  · exact qs_tp (show vi _ _ from k_0) hS hM
  · refine qs_yi (j := 2) hS hM qt_8 tq_8 r224 k_2 (by decide) (fun v227 h227 => ?_)
    refine qs_ite (g0_lt (pl_add (p_64 h227) (p_64 ei2)) kl_24) ?_ ?_
    · exact qs_tp (show vi _ _ from k_0) hS hM
    · refine qs_yi (j := 1) hS hM qt_8 tq_8 r224 k_1 (by decide) (fun v228 h228 => ?_)
      refine qs_ite (g_lt (pl_add (p_64 h228) (p_64 ei3)) kl_0) ?_ ?_
      · exact qs_tp (show vi _ _ from k_0) hS hM
      · refine qs_yi (j := 3) hS hM qt_8 tq_8 r224 k_3 (by decide) (fun v229 h229 => ?_)
        refine qs_ite (g0_lt (pl_add (p_64 h229) (p_64 ei3)) kl_24) ?_ ?_
        · exact qs_tp (show vi _ _ from k_0) hS hM
        · exact qs_tp (show vi _ _ from k_1) hS hM
set_option maxRecDepth 20000 in
theorem qz_X11_move {P : Nat → Nat} {S : zm_S} {M : qm} {i1 : Int32} {qi1 : Int} {i2 : Int32} {qi2 : Int} {i3 : Int32} {qi3 : Int} (hS : Sh L xs P S) (hM : qM P S = M) (ei1 : i1.toInt = qi1) (ei2 : i2.toInt = qi2) (ei3 : i3.toInt = qi3) : qs (zf_X11_move 20000 6 i1 i2 i3 S) (qf_X11_move 20000 qi1 qi2 qi3 M) (tO (rr L xs P (vs vi ve))) := by
  unfold zf_X11_move qf_X11_move
  refine qs_zi hS pl_6 ts_6 ?_
  refine qs_bp (qz_X11_isLine hS hM ei1) (fun v231 S231 w231 h231 hS231 hM231 => ?_)
  refine qs_ite (c_eq h231 k_0) ?_ ?_
  · exact (qz_X11_move_J25 hS231 hM231 ei1 ei2 ei3)
  · refine qs_gr hS231 pl_6 ts_6 rfl ?_
    refine qs_zi hS231 pl_7 ts_7 ?_
    refine qs_bp (qz_X8_staysOnPlan hS231 hM231 ei1 ei2 ei3) (fun v234 S234 w234 h234 hS234 hM234 => ?_)
    refine qs_ite (c_eq h234 k_0) ?_ ?_
    · exact (qz_X11_move_J25 hS234 hM234 ei1 ei2 ei3)
    · exact (qz_X11_move_J26 hS234 hM234 ei1 ei2 ei3 k_1)
set_option maxRecDepth 20000 in
theorem qz_L_move_J18 {P : Nat → Nat} {S : zm_S} {M : qm} {t1 : Int32} {qt1 : Int} {t2 : Int64} {qt2 : Int} (hS : Sh L xs P S) (hM : qM P S = M) (et1 : t1.toInt = qt1) (et2 : t2.toInt = qt2) : qs (zf_L_move_J18 20000 2332 t1 t2 S) (qf_L_move_J18 20000 qt1 qt2 M) (tO (rr L xs P vi)) := by
  unfold zf_L_move_J18 qf_L_move_J18
  refine qs_gd (fun g236 => ?_)
  refine qs_sl hS hM (pa_p hS pl_2332 ts_2332) et1 g236 et2 (fun S235 M235 hS235 hM235 => ?_)
  exact qs_tr (show vi _ _ from k_0) hS235 hM235
set_option maxRecDepth 20000 in
theorem qz_L_move {P : Nat → Nat} {S : zm_S} {M : qm} {i1 : Int32} {qi1 : Int} {i2 : Int32} {qi2 : Int} {i3 : Int32} {qi3 : Int} (hS : Sh L xs P S) (hM : qM P S = M) (ei1 : i1.toInt = qi1) (ei2 : i2.toInt = qi2) (ei3 : i3.toInt = qi3) : qs (zf_L_move 20000 6 i1 i2 i3 2332 S) (qf_L_move 20000 qi1 qi2 qi3 M) (tO (rr L xs P vi)) := by
  unfold zf_L_move qf_L_move
  refine qs_zi hS pl_6 ts_6 ?_
  refine qs_xr (qz_X11_move hS hM ei1 ei2 ei3) ?_ ?_
  · intro v239 S239 w239 M239 h239 hS239 hM239
    dsimp only
    refine qs_ite (c_eq h239 k_0) ?_ ?_
    · exact (qz_L_move_J18 hS239 hM239 k_0 kl_0)
    · exact (qz_L_move_J18 hS239 hM239 k_0 kl_1)
  · intro v239 S239 M239 hS239 hM239
    dsimp only
    refine qs_ite Iff.rfl ?_ ?_
    · exact qs_tr (show vi _ _ from k_1) hS239 hM239
    · refine qs_ite Iff.rfl ?_ ?_
      · exact qs_tr (show vi _ _ from k_2) hS239 hM239
      · exact qs_none
set_option maxRecDepth 20000 in
theorem qz_X18_isIn {P : Nat → Nat} {S : zm_S} {M : qm} {i0 : Int32} {qi0 : Int} {i1 : Int32} {qi1 : Int} (hS : Sh L xs P S) (hM : qM P S = M) (ei0 : i0.toInt = qi0) (ei1 : i1.toInt = qi1) : qs (zf_X18_isIn 20000 i0 i1 S) (qf_X18_isIn 20000 qi0 qi1 M) (tO (rp L xs P M vi)) := by
  unfold zf_X18_isIn qf_X18_isIn
  refine qs_ite (c_lt ei0 k_0) ?_ ?_
  · exact qs_tp (show vi _ _ from k_0) hS hM
  · refine qs_ite (c_le ei1 ei0) ?_ ?_
    · exact qs_tp (show vi _ _ from k_0) hS hM
    · exact qs_tp (show vi _ _ from k_1) hS hM
set_option maxRecDepth 20000 in
theorem qz_X16_move_J82 {P : Nat → Nat} {S : zm_S} {M : qm} {i4 : Int32} {qi4 : Int} (hS : Sh L xs P S) (hM : qM P S = M) (ei4 : i4.toInt = qi4) : qs (zf_X16_move_J82 20000 i4 2157 S) (qf_X16_move_J82 20000 qi4 M) (tO (rr L xs P vi)) := by
  unfold zf_X16_move_J82 qf_X16_move_J82
  refine qs_pi hS hM pl_2157 ts_2157 (z := 10) rfl rfl k_0 (fun S240 M240 hS240 hM240 => ?_)
  refine qs_ite (or_congr (c_eq ei4 k_0) (c_eq ei4 k_1)) ?_ ?_
  · exact qs_tr (show vi _ _ from ei4) hS240 hM240
  · exact qs_none
set_option maxRecDepth 20000 in
theorem qz_X16_move_J63 {P : Nat → Nat} {S : zm_S} {M : qm} {i4 : Int32} {qi4 : Int} {t1 : Int32} {qt1 : Int} {t2 : Int32} {qt2 : Int} {t3 : Int32} {qt3 : Int} (hS : Sh L xs P S) (hM : qM P S = M) (ei4 : i4.toInt = qi4) (et1 : t1.toInt = qt1) (et2 : t2.toInt = qt2) (et3 : t3.toInt = qt3) : qs (zf_X16_move_J63 20000 2157 i4 2159 t1 t2 t3 S) (qf_X16_move_J63 20000 qi4 qt1 qt2 qt3 M) (tO (rr L xs P vi)) := by
  unfold zf_X16_move_J63 qf_X16_move_J63
  refine qs_gd (fun g242 => ?_)
  refine qs_si hS hM (pa_p hS pl_2159 ts_2159) et1 g242 (p_sub et2 et3) (fun S241 M241 hS241 hM241 => ?_)
  refine qs_gi hS241 hM241 pl_2157 ts_2157 (z := 10) rfl rfl (fun v243 h243 => ?_)
  refine qs_ite (c_eq h243 k_0) ?_ ?_
  · exact (qz_X16_move_J82 hS241 hM241 ei4)
  · refine qs_ite (c_eq ei4 k_0) ?_ ?_
    · refine qs_pi hS241 hM241 pl_2157 ts_2157 (z := 10) rfl rfl k_1 (fun S244 M244 hS244 hM244 => ?_)
      refine qs_ite (or_congr (c_eq ei4 k_0) (c_eq ei4 k_1)) ?_ ?_
      · exact qs_tr (show vi _ _ from ei4) hS244 hM244
      · exact qs_none
    · exact (qz_X16_move_J82 hS241 hM241 ei4)
set_option maxRecDepth 20000 in
theorem qz_X16_move_J44 {P : Nat → Nat} {S : zm_S} {M : qm} {i1 : Int32} {qi1 : Int} {i3 : Int32} {qi3 : Int} {i4 : Int32} {qi4 : Int} {t1 : Int32} {qt1 : Int} {t2 : Int32} {qt2 : Int} {t3 : Int32} {qt3 : Int} (hS : Sh L xs P S) (hM : qM P S = M) (ei1 : i1.toInt = qi1) (ei3 : i3.toInt = qi3) (ei4 : i4.toInt = qi4) (et1 : t1.toInt = qt1) (et2 : t2.toInt = qt2) (et3 : t3.toInt = qt3) : qs (zf_X16_move_J44 20000 2157 i1 i3 i4 2158 t1 t2 t3 S) (qf_X16_move_J44 20000 qi1 qi3 qi4 qt1 qt2 qt3 M) (tO (rr L xs P vi)) := by
  unfold zf_X16_move_J44 qf_X16_move_J44
  refine qs_gd (fun g246 => ?_)
  refine qs_si hS hM (pa_p hS pl_2158 ts_2158) et1 g246 (p_sub et2 et3) (fun S245 M245 hS245 hM245 => ?_)
  refine qs_gr hS245 pl_2157 ts_2157 rfl ?_
  refine qs_gd (fun g249 => ?_)
  refine qs_xi hM245 (pa_p hS245 pl_2159 ts_2159) ei1 g249 (fun v248 h248 => ?_)
  refine qs_ite (c_eq ei4 k_0) ?_ ?_
  · exact (qz_X16_move_J63 hS245 hM245 ei4 ei1 h248 ei3)
  · exact (qz_X16_move_J63 hS245 hM245 ei4 ei1 h248 k_0)
set_option maxRecDepth 20000 in
theorem qz_X16_move {P : Nat → Nat} {S : zm_S} {M : qm} {i1 : Int32} {qi1 : Int} {i2 : Int32} {qi2 : Int} {i3 : Int32} {qi3 : Int} (hS : Sh L xs P S) (hM : qM P S = M) (ei1 : i1.toInt = qi1) (ei2 : i2.toInt = qi2) (ei3 : i3.toInt = qi3) : qs (zf_X16_move 20000 2157 i1 i2 i3 S) (qf_X16_move 20000 qi1 qi2 qi3 M) (tO (rr L xs P vi)) := by
  unfold zf_X16_move qf_X16_move
  refine qs_gr hS pl_2157 ts_2157 rfl ?_
  refine qs_gd (fun g252 => ?_)
  refine qs_xi hM (pa_p hS pl_2158 ts_2158) ei1 g252 (fun v251 h251 => ?_)
  refine qs_gd (fun g254 => ?_)
  refine qs_si hS hM (pa_p hS pl_2158 ts_2158) ei1 g254 (p_add h251 ei2) (fun S253 M253 hS253 hM253 => ?_)
  refine qs_gr hS253 pl_2157 ts_2157 rfl ?_
  refine qs_gd (fun g257 => ?_)
  refine qs_xi hM253 (pa_p hS253 pl_2159 ts_2159) ei1 g257 (fun v256 h256 => ?_)
  refine qs_gd (fun g259 => ?_)
  refine qs_si hS253 hM253 (pa_p hS253 pl_2159 ts_2159) ei1 g259 (p_add h256 ei3) (fun S258 M258 hS258 hM258 => ?_)
  refine qs_zi hS258 pl_2157 ts_2157 ?_
  refine qs_bp (qz_X16_isAlone hS258 hM258 ei1) (fun v261 S261 w261 h261 hS261 hM261 => ?_)
  refine qs_gr hS261 pl_2157 ts_2157 rfl ?_
  refine qs_gd (fun g264 => ?_)
  refine qs_xi hM261 (pa_p hS261 pl_2158 ts_2158) ei1 g264 (fun v263 h263 => ?_)
  refine qs_ite (c_eq h261 k_0) ?_ ?_
  · exact (qz_X16_move_J44 hS261 hM261 ei1 ei3 h261 ei1 h263 ei2)
  · exact (qz_X16_move_J44 hS261 hM261 ei1 ei3 h261 ei1 h263 k_0)
set_option maxRecDepth 20000 in
theorem qz_X18_move_J45 {P : Nat → Nat} {S : zm_S} {M : qm} {i1 : Int32} {qi1 : Int} {i2 : Int32} {qi2 : Int} {i3 : Int32} {qi3 : Int} {t1 : Int32} {qt1 : Int} {t2 : Int32} {qt2 : Int} (hS : Sh L xs P S) (hM : qM P S = M) (ei1 : i1.toInt = qi1) (ei2 : i2.toInt = qi2) (ei3 : i3.toInt = qi3) (et1 : t1.toInt = qt1) (et2 : t2.toInt = qt2) : qs (zf_X18_move_J45 20000 2156 i1 i2 i3 2156 t1 t2 S) (qf_X18_move_J45 20000 qi1 qi2 qi3 qt1 qt2 M) (tO (rr L xs P vi)) := by
  unfold zf_X18_move_J45 qf_X18_move_J45
  refine qs_zi hS pl_2156 ts_2156 ?_
  refine qs_b (qz_X18_goes hS hM et1 et2) (fun v266 S266 w266 M266 h266 hS266 hM266 => ?_)
  refine qs_ite (c_eq h266 k_0) ?_ ?_
  · exact qs_tr (show vi _ _ from k_0) hS266 hM266
  · refine qs_gr hS266 pl_2156 ts_2156 rfl ?_
    refine qs_zi hS266 pl_2157 ts_2157 ?_
    refine qs_b (qz_X16_move hS266 hM266 ei1 ei2 ei3) (fun v269 S269 w269 M269 h269 hS269 hM269 => ?_)
    refine qs_ite (c_eq h269 k_0) ?_ ?_
    · exact qs_tr (show vi _ _ from k_0) hS269 hM269
    · exact qs_tr (show vi _ _ from k_1) hS269 hM269
set_option maxRecDepth 20000 in
theorem qz_X18_move_J33 {P : Nat → Nat} {S : zm_S} {M : qm} {i1 : Int32} {qi1 : Int} {i2 : Int32} {qi2 : Int} {i3 : Int32} {qi3 : Int} {t1 : Int32} {qt1 : Int} (hS : Sh L xs P S) (hM : qM P S = M) (ei1 : i1.toInt = qi1) (ei2 : i2.toInt = qi2) (ei3 : i3.toInt = qi3) (et1 : t1.toInt = qt1) : qs (zf_X18_move_J33 20000 2156 i1 i2 i3 2156 t1 S) (qf_X18_move_J33 20000 qi1 qi2 qi3 qt1 M) (tO (rr L xs P vi)) := by
  unfold zf_X18_move_J33 qf_X18_move_J33
  refine qs_gi hS hM pl_2156 ts_2156 (z := 1) rfl rfl (fun v270 h270 => ?_)
  refine qs_ite (c_eq h270 k_0) ?_ ?_
  · exact (qz_X18_move_J45 hS hM ei1 ei2 ei3 et1 k_1)
  · exact (qz_X18_move_J45 hS hM ei1 ei2 ei3 et1 k_0)
set_option maxRecDepth 20000 in
theorem qz_X18_move_J32 {P : Nat → Nat} {S : zm_S} {M : qm} {i1 : Int32} {qi1 : Int} {i2 : Int32} {qi2 : Int} {i3 : Int32} {qi3 : Int} (hS : Sh L xs P S) (hM : qM P S = M) (ei1 : i1.toInt = qi1) (ei2 : i2.toInt = qi2) (ei3 : i3.toInt = qi3) : qs (zf_X18_move_J32 20000 2156 i1 i2 i3 2156 S) (qf_X18_move_J32 20000 qi1 qi2 qi3 M) (tO (rr L xs P vi)) := by
  unfold zf_X18_move_J32 qf_X18_move_J32
  exact (qz_X18_move_J33 hS hM ei1 ei2 ei3 k_0)
set_option maxRecDepth 20000 in
theorem qz_X16_mayGo {P : Nat → Nat} {S : zm_S} {M : qm} {i1 : Int32} {qi1 : Int} {i2 : Int32} {qi2 : Int} {i3 : Int32} {qi3 : Int} (hS : Sh L xs P S) (hM : qM P S = M) (ei1 : i1.toInt = qi1) (ei2 : i2.toInt = qi2) (ei3 : i3.toInt = qi3) : qs (zf_X16_mayGo 20000 2157 i1 i2 i3 S) (qf_X16_mayGo 20000 qi1 qi2 qi3 M) (tO (rp L xs P M vi)) := by
  unfold zf_X16_mayGo qf_X16_mayGo
  refine qs_ite (c_lt ei2 k_m24) ?_ ?_
  · exact qs_tp (show vi _ _ from k_0) hS hM
  · refine qs_ite (c_lt k_24 ei2) ?_ ?_
    · exact qs_tp (show vi _ _ from k_0) hS hM
    · refine qs_ite (c_lt ei3 k_m24) ?_ ?_
      · exact qs_tp (show vi _ _ from k_0) hS hM
      · refine qs_ite (c_lt k_24 ei3) ?_ ?_
        · exact qs_tp (show vi _ _ from k_0) hS hM
        · refine qs_gr hS pl_2157 ts_2157 rfl ?_
          refine qs_gd (fun g273 => ?_)
          refine qs_xi hM (pa_p hS pl_2158 ts_2158) ei1 g273 (fun v272 h272 => ?_)
          refine qs_bp (qz_X16_isIn hS hM (p_add h272 ei2)) (fun v274 S274 w274 h274 hS274 hM274 => ?_)
          refine qs_ite (c_eq h274 k_0) ?_ ?_
          · exact qs_tp (show vi _ _ from k_0) hS274 hM274
          · refine qs_gr hS274 pl_2157 ts_2157 rfl ?_
            refine qs_gd (fun g277 => ?_)
            refine qs_xi hM274 (pa_p hS274 pl_2159 ts_2159) ei1 g277 (fun v276 h276 => ?_)
            refine qs_bp (qz_X16_isIn hS274 hM274 (p_add h276 ei3)) (fun v278 S278 w278 h278 hS278 hM278 => ?_)
            refine qs_ite (c_eq h278 k_0) ?_ ?_
            · exact qs_tp (show vi _ _ from k_0) hS278 hM278
            · refine qs_zi hS278 pl_2157 ts_2157 ?_
              refine qs_bp (qz_X16_highX hS278 hM278 ei1) (fun v280 S280 w280 h280 hS280 hM280 => ?_)
              refine qs_bp (qz_X16_isIn hS280 hM280 (p_add h280 ei2)) (fun v281 S281 w281 h281 hS281 hM281 => ?_)
              refine qs_ite (c_eq h281 k_0) ?_ ?_
              · exact qs_tp (show vi _ _ from k_0) hS281 hM281
              · refine qs_zi hS281 pl_2157 ts_2157 ?_
                refine qs_bp (qz_X16_highY hS281 hM281 ei1) (fun v283 S283 w283 h283 hS283 hM283 => ?_)
                refine qs_bp (qz_X16_isIn hS283 hM283 (p_add h283 ei3)) (fun v284 S284 w284 h284 hS284 hM284 => ?_)
                refine qs_ite (c_eq h284 k_0) ?_ ?_
                · exact qs_tp (show vi _ _ from k_0) hS284 hM284
                · exact qs_tp (show vi _ _ from k_1) hS284 hM284
set_option maxRecDepth 20000 in
theorem qz_X18_move {P : Nat → Nat} {S : zm_S} {M : qm} {i1 : Int32} {qi1 : Int} {i2 : Int32} {qi2 : Int} {i3 : Int32} {qi3 : Int} (hS : Sh L xs P S) (hM : qM P S = M) (ei1 : i1.toInt = qi1) (ei2 : i2.toInt = qi2) (ei3 : i3.toInt = qi3) : qs (zf_X18_move 20000 2156 i1 i2 i3 S) (qf_X18_move 20000 qi1 qi2 qi3 M) (tO (rr L xs P vi)) := by
  unfold zf_X18_move qf_X18_move
  refine qs_gr hS pl_2156 ts_2156 rfl ?_
  refine qs_gi hS hM pl_2157 ts_2157 (z := 0) rfl rfl (fun v286 h286 => ?_)
  refine qs_bp (qz_X18_isIn hS hM ei1 h286) (fun v287 S287 w287 h287 hS287 hM287 => ?_)
  refine qs_ite (c_eq h287 k_0) ?_ ?_
  · exact (qz_X18_move_J32 hS287 hM287 ei1 ei2 ei3)
  · refine qs_gr hS287 pl_2156 ts_2156 rfl ?_
    refine qs_zi hS287 pl_2157 ts_2157 ?_
    refine qs_bp (qz_X16_mayGo hS287 hM287 ei1 ei2 ei3) (fun v290 S290 w290 h290 hS290 hM290 => ?_)
    refine qs_ite (c_eq h290 k_0) ?_ ?_
    · exact (qz_X18_move_J32 hS290 hM290 ei1 ei2 ei3)
    · exact (qz_X18_move_J33 hS290 hM290 ei1 ei2 ei3 k_1)
set_option maxRecDepth 20000 in
theorem qz_X8_addDoor_J66 {P : Nat → Nat} {S : zm_S} {M : qm} {i1 : Int32} {qi1 : Int} (hS : Sh L xs P S) (hM : qM P S = M) (ei1 : i1.toInt = qi1) : qs (zf_X8_addDoor_J66 20000 7 i1 S) (qf_X8_addDoor_J66 20000 qi1 M) (tO (rr L xs P vi)) := by
  unfold zf_X8_addDoor_J66 qf_X8_addDoor_J66
  refine qs_gr hS pl_7 ts_7 rfl ?_
  refine qs_gd (fun g293 => ?_)
  refine qs_xi hM (pa_p hS pl_29 ts_29) ei1 g293 (fun v292 h292 => ?_)
  exact qs_tr (show vi _ _ from h292) hS hM
set_option maxRecDepth 20000 in
theorem qz_X8_addDoor {P : Nat → Nat} {S : zm_S} {M : qm} {i1 : Int32} {qi1 : Int} {i2 : Int32} {qi2 : Int} {i3 : Int32} {qi3 : Int} {i4 : Int32} {qi4 : Int} (hS : Sh L xs P S) (hM : qM P S = M) (ei1 : i1.toInt = qi1) (ei2 : i2.toInt = qi2) (ei3 : i3.toInt = qi3) (ei4 : i4.toInt = qi4) : qs (zf_X8_addDoor 20000 7 i1 i2 i3 i4 S) (qf_X8_addDoor 20000 qi1 qi2 qi3 qi4 M) (tO (rr L xs P vi)) := by
  unfold zf_X8_addDoor qf_X8_addDoor
  refine qs_gr hS pl_7 ts_7 rfl ?_
  refine qs_gd (fun g296 => ?_)
  refine qs_xi hM (pa_p hS pl_29 ts_29) ei1 g296 (fun v295 h295 => ?_)
  refine qs_ite (c_le k_6 h295) ?_ ?_
  · exact (qz_X8_addDoor_J66 hS hM ei1)
  · refine qs_gr hS pl_7 ts_7 rfl ?_
    refine qs_gd (fun g299 => ?_)
    refine qs_xi hM (pa_p hS pl_29 ts_29) ei1 g299 (fun v298 h298 => ?_)
    refine qs_gr hS pl_7 ts_7 rfl ?_
    refine qs_gd (fun g302 => ?_)
    refine qs_xt hS pl_30 ts_30 (Or.inl rfl) ei1 g302 (fun b301 r301 => ?_)
    refine qs_gd (fun g304 => ?_)
    refine qs_ysi hS hM qt_30 tq_30 r301 (p_mul k_3 h298) g304 ei2 (fun S303 M303 hS303 hM303 => ?_)
    refine qs_gr hS303 pl_7 ts_7 rfl ?_
    refine qs_gd (fun g307 => ?_)
    refine qs_xt hS303 pl_30 ts_30 (Or.inl rfl) ei1 g307 (fun b306 r306 => ?_)
    refine qs_gd (fun g309 => ?_)
    refine qs_ysi hS303 hM303 qt_30 tq_30 r306 (p_add (p_mul k_3 h298) k_1) g309 ei3 (fun S308 M308 hS308 hM308 => ?_)
    refine qs_gr hS308 pl_7 ts_7 rfl ?_
    refine qs_gd (fun g312 => ?_)
    refine qs_xt hS308 pl_30 ts_30 (Or.inl rfl) ei1 g312 (fun b311 r311 => ?_)
    refine qs_gd (fun g314 => ?_)
    refine qs_ysi hS308 hM308 qt_30 tq_30 r311 (p_add (p_mul k_3 h298) k_2) g314 ei4 (fun S313 M313 hS313 hM313 => ?_)
    refine qs_gr hS313 pl_7 ts_7 rfl ?_
    refine qs_gd (fun g317 => ?_)
    refine qs_xi hM313 (pa_p hS313 pl_29 ts_29) ei1 g317 (fun v316 h316 => ?_)
    refine qs_gd (fun g319 => ?_)
    refine qs_si hS313 hM313 (pa_p hS313 pl_29 ts_29) ei1 g319 (p_add h316 k_1) (fun S318 M318 hS318 hM318 => ?_)
    exact (qz_X8_addDoor_J66 hS318 hM318 ei1)
set_option maxRecDepth 20000 in
theorem qz_X11_door_J81 {P : Nat → Nat} {S : zm_S} {M : qm} {i1 : Int32} {qi1 : Int} {i2 : Int32} {qi2 : Int} {i3 : Int32} {qi3 : Int} {i4 : Int32} {qi4 : Int} {t0 : Int32} {qt0 : Int} (hS : Sh L xs P S) (hM : qM P S = M) (ei1 : i1.toInt = qi1) (ei2 : i2.toInt = qi2) (ei3 : i3.toInt = qi3) (ei4 : i4.toInt = qi4) (et0 : t0.toInt = qt0) : qs (zf_X11_door_J81 20000 6 i1 i2 i3 i4 t0 S) (qf_X11_door_J81 20000 qi1 qi2 qi3 qi4 qt0 M) (tO (rr L xs P (vs vi ve))) := by
  unfold zf_X11_door_J81 qf_X11_door_J81
  refine qs_xp (qz_X11_needState hS hM et0) ?_ ?_
  · intro v321 S321 w321 h321 hS321 hM321
    dsimp only
    refine qs_gr hS321 pl_6 ts_6 rfl ?_
    refine qs_zi hS321 pl_7 ts_7 ?_
    refine qs_b (qz_X8_addDoor hS321 hM321 ei1 ei2 ei3 ei4) (fun v324 S324 w324 M324 h324 hS324 hM324 => ?_)
    exact qs_tr (show (vs vi ve) _ _ from h324) hS324 hM324
  · intro v321 S321 hS321 hM321
    dsimp only
    exact qs_tr (show (vs vi ve) _ _ from rfl) hS321 hM321
set_option maxRecDepth 20000 in
theorem qz_X11_door_J80 {P : Nat → Nat} {S : zm_S} {M : qm} {i1 : Int32} {qi1 : Int} {i2 : Int32} {qi2 : Int} {i3 : Int32} {qi3 : Int} {i4 : Int32} {qi4 : Int} (hS : Sh L xs P S) (hM : qM P S = M) (ei1 : i1.toInt = qi1) (ei2 : i2.toInt = qi2) (ei3 : i3.toInt = qi3) (ei4 : i4.toInt = qi4) : qs (zf_X11_door_J80 20000 6 i1 i2 i3 i4 S) (qf_X11_door_J80 20000 qi1 qi2 qi3 qi4 M) (tO (rr L xs P (vs vi ve))) := by
  unfold zf_X11_door_J80 qf_X11_door_J80
  exact (qz_X11_door_J81 hS hM ei1 ei2 ei3 ei4 k_0)
set_option maxRecDepth 20000 in
theorem qz_X11_door_J52 {P : Nat → Nat} {S : zm_S} {M : qm} {i1 : Int32} {qi1 : Int} {i2 : Int32} {qi2 : Int} {i3 : Int32} {qi3 : Int} {i4 : Int32} {qi4 : Int} {t0 : Int32} {qt0 : Int} (hS : Sh L xs P S) (hM : qM P S = M) (ei1 : i1.toInt = qi1) (ei2 : i2.toInt = qi2) (ei3 : i3.toInt = qi3) (ei4 : i4.toInt = qi4) (et0 : t0.toInt = qt0) : qs (zf_X11_door_J52 20000 6 i1 i2 i3 i4 t0 S) (qf_X11_door_J52 20000 qi1 qi2 qi3 qi4 qt0 M) (tO (rr L xs P (vs vi ve))) := by
  unfold zf_X11_door_J52 qf_X11_door_J52
  refine qs_xp (qz_X11_needArgument hS hM et0) ?_ ?_
  · intro v326 S326 w326 h326 hS326 hM326
    dsimp only
    refine qs_gi hS326 hM326 pl_6 ts_6 (z := 11) rfl rfl (fun v327 h327 => ?_)
    refine qs_ite (c_eq h327 k_0) ?_ ?_
    · refine qs_gr hS326 pl_6 ts_6 rfl ?_
      refine qs_gr hS326 pl_7 ts_7 rfl ?_
      refine qs_gd (fun g331 => ?_)
      refine qs_xi hM326 (pa_p hS326 pl_29 ts_29) ei1 g331 (fun v330 h330 => ?_)
      refine qs_ite (c_le k_6 h330) ?_ ?_
      · exact (qz_X11_door_J80 hS326 hM326 ei1 ei2 ei3 ei4)
      · exact (qz_X11_door_J81 hS326 hM326 ei1 ei2 ei3 ei4 k_1)
    · exact (qz_X11_door_J80 hS326 hM326 ei1 ei2 ei3 ei4)
  · intro v326 S326 hS326 hM326
    dsimp only
    exact qs_tr (show (vs vi ve) _ _ from rfl) hS326 hM326
set_option maxRecDepth 20000 in
theorem qz_X11_door_J51 {P : Nat → Nat} {S : zm_S} {M : qm} {i1 : Int32} {qi1 : Int} {i2 : Int32} {qi2 : Int} {i3 : Int32} {qi3 : Int} {i4 : Int32} {qi4 : Int} (hS : Sh L xs P S) (hM : qM P S = M) (ei1 : i1.toInt = qi1) (ei2 : i2.toInt = qi2) (ei3 : i3.toInt = qi3) (ei4 : i4.toInt = qi4) : qs (zf_X11_door_J51 20000 6 i1 i2 i3 i4 S) (qf_X11_door_J51 20000 qi1 qi2 qi3 qi4 M) (tO (rr L xs P (vs vi ve))) := by
  unfold zf_X11_door_J51 qf_X11_door_J51
  exact (qz_X11_door_J52 hS hM ei1 ei2 ei3 ei4 k_0)
set_option maxRecDepth 20000 in
theorem qz_X8_lengthOf {P : Nat → Nat} {S : zm_S} {M : qm} {i1 : Int32} {qi1 : Int} (hS : Sh L xs P S) (hM : qM P S = M) (ei1 : i1.toInt = qi1) : qs (zf_X8_lengthOf 20000 7 i1 S) (qf_X8_lengthOf 20000 qi1 M) (tO (rp L xs P M vi)) := by
  unfold zf_X8_lengthOf qf_X8_lengthOf
  refine qs_gr hS pl_7 ts_7 rfl ?_
  refine qs_gd (fun g334 => ?_)
  refine qs_xt hS pl_8 ts_8 (Or.inl rfl) ei1 g334 (fun b333 r333 => ?_)
  refine qs_yi (j := 2) hS hM qt_8 tq_8 r333 k_2 (by decide) (fun v335 h335 => ?_)
  refine qs_yi (j := 0) hS hM qt_8 tq_8 r333 k_0 (by decide) (fun v336 h336 => ?_)
  refine qs_yi (j := 3) hS hM qt_8 tq_8 r333 k_3 (by decide) (fun v337 h337 => ?_)
  refine qs_yi (j := 1) hS hM qt_8 tq_8 r333 k_1 (by decide) (fun v338 h338 => ?_)
  exact qs_tp (show vi _ _ from (p_sub (p_add (p_sub h335 h336) h337) h338)) hS hM
set_option maxRecDepth 20000 in
theorem qz_X11_door_J23 {P : Nat → Nat} {S : zm_S} {M : qm} {i1 : Int32} {qi1 : Int} {i2 : Int32} {qi2 : Int} {i3 : Int32} {qi3 : Int} {i4 : Int32} {qi4 : Int} {t0 : Int32} {qt0 : Int} (hS : Sh L xs P S) (hM : qM P S = M) (ei1 : i1.toInt = qi1) (ei2 : i2.toInt = qi2) (ei3 : i3.toInt = qi3) (ei4 : i4.toInt = qi4) (et0 : t0.toInt = qt0) : qs (zf_X11_door_J23 20000 6 i1 i2 i3 i4 t0 S) (qf_X11_door_J23 20000 qi1 qi2 qi3 qi4 qt0 M) (tO (rr L xs P (vs vi ve))) := by
  unfold zf_X11_door_J23 qf_X11_door_J23
  refine qs_xp (qz_X11_needArgument hS hM et0) ?_ ?_
  · intro v340 S340 w340 h340 hS340 hM340
    dsimp only
    refine qs_ite (c_lt ei2 k_0) ?_ ?_
    · exact (qz_X11_door_J51 hS340 hM340 ei1 ei2 ei3 ei4)
    · refine qs_ite (c_le ei3 ei2) ?_ ?_
      · exact (qz_X11_door_J51 hS340 hM340 ei1 ei2 ei3 ei4)
      · refine qs_gr hS340 pl_6 ts_6 rfl ?_
        refine qs_zi hS340 pl_7 ts_7 ?_
        refine qs_bp (qz_X8_lengthOf hS340 hM340 ei1) (fun v343 S343 w343 h343 hS343 hM343 => ?_)
        refine qs_ite (c_lt h343 ei3) ?_ ?_
        · exact (qz_X11_door_J51 hS343 hM343 ei1 ei2 ei3 ei4)
        · exact (qz_X11_door_J52 hS343 hM343 ei1 ei2 ei3 ei4 k_1)
  · intro v340 S340 hS340 hM340
    dsimp only
    exact qs_tr (show (vs vi ve) _ _ from rfl) hS340 hM340
set_option maxRecDepth 20000 in
theorem qz_X11_door_J22 {P : Nat → Nat} {S : zm_S} {M : qm} {i1 : Int32} {qi1 : Int} {i2 : Int32} {qi2 : Int} {i3 : Int32} {qi3 : Int} {i4 : Int32} {qi4 : Int} (hS : Sh L xs P S) (hM : qM P S = M) (ei1 : i1.toInt = qi1) (ei2 : i2.toInt = qi2) (ei3 : i3.toInt = qi3) (ei4 : i4.toInt = qi4) : qs (zf_X11_door_J22 20000 6 i1 i2 i3 i4 S) (qf_X11_door_J22 20000 qi1 qi2 qi3 qi4 M) (tO (rr L xs P (vs vi ve))) := by
  unfold zf_X11_door_J22 qf_X11_door_J22
  exact (qz_X11_door_J23 hS hM ei1 ei2 ei3 ei4 k_0)
set_option maxRecDepth 20000 in
theorem qz_X11_door {P : Nat → Nat} {S : zm_S} {M : qm} {i1 : Int32} {qi1 : Int} {i2 : Int32} {qi2 : Int} {i3 : Int32} {qi3 : Int} {i4 : Int32} {qi4 : Int} (hS : Sh L xs P S) (hM : qM P S = M) (ei1 : i1.toInt = qi1) (ei2 : i2.toInt = qi2) (ei3 : i3.toInt = qi3) (ei4 : i4.toInt = qi4) : qs (zf_X11_door 20000 6 i1 i2 i3 i4 S) (qf_X11_door 20000 qi1 qi2 qi3 qi4 M) (tO (rr L xs P (vs vi ve))) := by
  unfold zf_X11_door qf_X11_door
  refine qs_zi hS pl_6 ts_6 ?_
  refine qs_bp (qz_X11_isLine hS hM ei1) (fun v345 S345 w345 h345 hS345 hM345 => ?_)
  refine qs_ite (c_eq h345 k_0) ?_ ?_
  · exact (qz_X11_door_J22 hS345 hM345 ei1 ei2 ei3 ei4)
  · refine qs_bp (qz_X11_isWithin hS345 hM345 ei4 k_1 k_5) (fun v346 S346 w346 h346 hS346 hM346 => ?_)
    refine qs_ite (c_eq h346 k_0) ?_ ?_
    · exact (qz_X11_door_J22 hS346 hM346 ei1 ei2 ei3 ei4)
    · exact (qz_X11_door_J23 hS346 hM346 ei1 ei2 ei3 ei4 k_1)
set_option maxRecDepth 20000 in
theorem qz_L_door {P : Nat → Nat} {S : zm_S} {M : qm} {i1 : Int32} {qi1 : Int} {i2 : Int32} {qi2 : Int} {i3 : Int32} {qi3 : Int} {i4 : Int32} {qi4 : Int} (hS : Sh L xs P S) (hM : qM P S = M) (ei1 : i1.toInt = qi1) (ei2 : i2.toInt = qi2) (ei3 : i3.toInt = qi3) (ei4 : i4.toInt = qi4) : qs (zf_L_door 20000 6 i1 i2 i3 i4 2332 S) (qf_L_door 20000 qi1 qi2 qi3 qi4 M) (tO (rr L xs P vi)) := by
  unfold zf_L_door qf_L_door
  refine qs_zi hS pl_6 ts_6 ?_
  refine qs_xr (qz_X11_door hS hM ei1 ei2 ei3 ei4) ?_ ?_
  · intro v349 S349 w349 M349 h349 hS349 hM349
    dsimp only
    refine qs_sl hS349 hM349 (pa_p hS349 pl_2332 ts_2332) k_0 (by decide) (p_64 h349) (fun S350 M350 hS350 hM350 => ?_)
    exact qs_tr (show vi _ _ from k_0) hS350 hM350
  · intro v349 S349 M349 hS349 hM349
    dsimp only
    refine qs_ite Iff.rfl ?_ ?_
    · exact qs_tr (show vi _ _ from k_1) hS349 hM349
    · refine qs_ite Iff.rfl ?_ ?_
      · exact qs_tr (show vi _ _ from k_2) hS349 hM349
      · exact qs_none
set_option maxRecDepth 20000 in
theorem qz_X16_door {P : Nat → Nat} {S : zm_S} {M : qm} {i1 : Int32} {qi1 : Int} {i2 : Int32} {qi2 : Int} {i3 : Int32} {qi3 : Int} {i4 : Int32} {qi4 : Int} (hS : Sh L xs P S) (hM : qM P S = M) (ei1 : i1.toInt = qi1) (ei2 : i2.toInt = qi2) (ei3 : i3.toInt = qi3) (ei4 : i4.toInt = qi4) : qs (zf_X16_door 20000 2157 i1 i2 i3 i4 S) (qf_X16_door 20000 qi1 qi2 qi3 qi4 M) (tO (rr L xs P vi)) := by
  unfold zf_X16_door qf_X16_door
  refine qs_gr hS pl_2157 ts_2157 rfl ?_
  refine qs_gr hS pl_2157 ts_2157 rfl ?_
  refine qs_gd (fun g354 => ?_)
  refine qs_xi hM (pa_p hS pl_2162 ts_2162) ei1 g354 (fun v353 h353 => ?_)
  refine qs_gd (fun g356 => ?_)
  refine qs_si hS hM (pa_p hS pl_2163 ts_2163) (p_add (p_mul k_6 ei1) h353) g356 ei2 (fun S355 M355 hS355 hM355 => ?_)
  refine qs_gr hS355 pl_2157 ts_2157 rfl ?_
  refine qs_gr hS355 pl_2157 ts_2157 rfl ?_
  refine qs_gd (fun g360 => ?_)
  refine qs_xi hM355 (pa_p hS355 pl_2162 ts_2162) ei1 g360 (fun v359 h359 => ?_)
  refine qs_gd (fun g362 => ?_)
  refine qs_si hS355 hM355 (pa_p hS355 pl_2164 ts_2164) (p_add (p_mul k_6 ei1) h359) g362 ei3 (fun S361 M361 hS361 hM361 => ?_)
  refine qs_gr hS361 pl_2157 ts_2157 rfl ?_
  refine qs_gr hS361 pl_2157 ts_2157 rfl ?_
  refine qs_gd (fun g366 => ?_)
  refine qs_xi hM361 (pa_p hS361 pl_2162 ts_2162) ei1 g366 (fun v365 h365 => ?_)
  refine qs_gd (fun g368 => ?_)
  refine qs_si hS361 hM361 (pa_p hS361 pl_2165 ts_2165) (p_add (p_mul k_6 ei1) h365) g368 ei4 (fun S367 M367 hS367 hM367 => ?_)
  refine qs_gr hS367 pl_2157 ts_2157 rfl ?_
  refine qs_gd (fun g371 => ?_)
  refine qs_xi hM367 (pa_p hS367 pl_2162 ts_2162) ei1 g371 (fun v370 h370 => ?_)
  refine qs_gd (fun g373 => ?_)
  refine qs_si hS367 hM367 (pa_p hS367 pl_2162 ts_2162) ei1 g373 (p_add h370 k_1) (fun S372 M372 hS372 hM372 => ?_)
  refine qs_gr hS372 pl_2157 ts_2157 rfl ?_
  refine qs_gd (fun g376 => ?_)
  refine qs_xi hM372 (pa_p hS372 pl_2162 ts_2162) ei1 g376 (fun v375 h375 => ?_)
  exact qs_tr (show vi _ _ from h375) hS372 hM372
set_option maxRecDepth 20000 in
theorem qz_X18_door_J88 {P : Nat → Nat} {S : zm_S} {M : qm} {i1 : Int32} {qi1 : Int} {i2 : Int32} {qi2 : Int} {i3 : Int32} {qi3 : Int} {i4 : Int32} {qi4 : Int} {t1 : Int32} {qt1 : Int} {t2 : Int32} {qt2 : Int} (hS : Sh L xs P S) (hM : qM P S = M) (ei1 : i1.toInt = qi1) (ei2 : i2.toInt = qi2) (ei3 : i3.toInt = qi3) (ei4 : i4.toInt = qi4) (et1 : t1.toInt = qt1) (et2 : t2.toInt = qt2) : qs (zf_X18_door_J88 20000 2156 i1 i2 i3 i4 2156 t1 t2 S) (qf_X18_door_J88 20000 qi1 qi2 qi3 qi4 qt1 qt2 M) (tO (rr L xs P vi)) := by
  unfold zf_X18_door_J88 qf_X18_door_J88
  refine qs_zi hS pl_2156 ts_2156 ?_
  refine qs_b (qz_X18_goes hS hM et1 et2) (fun v378 S378 w378 M378 h378 hS378 hM378 => ?_)
  refine qs_ite (c_eq h378 k_0) ?_ ?_
  · exact qs_tr (show vi _ _ from k_0) hS378 hM378
  · refine qs_gr hS378 pl_2156 ts_2156 rfl ?_
    refine qs_zi hS378 pl_2157 ts_2157 ?_
    refine qs_b (qz_X16_door hS378 hM378 ei1 ei2 ei3 ei4) (fun v381 S381 w381 M381 h381 hS381 hM381 => ?_)
    exact qs_tr (show vi _ _ from h381) hS381 hM381
set_option maxRecDepth 20000 in
theorem qz_X18_door_J83 {P : Nat → Nat} {S : zm_S} {M : qm} {i1 : Int32} {qi1 : Int} {i2 : Int32} {qi2 : Int} {i3 : Int32} {qi3 : Int} {i4 : Int32} {qi4 : Int} {t1 : Int32} {qt1 : Int} (hS : Sh L xs P S) (hM : qM P S = M) (ei1 : i1.toInt = qi1) (ei2 : i2.toInt = qi2) (ei3 : i3.toInt = qi3) (ei4 : i4.toInt = qi4) (et1 : t1.toInt = qt1) : qs (zf_X18_door_J83 20000 2156 i1 i2 i3 i4 2156 t1 S) (qf_X18_door_J83 20000 qi1 qi2 qi3 qi4 qt1 M) (tO (rr L xs P vi)) := by
  unfold zf_X18_door_J83 qf_X18_door_J83
  exact (qz_X18_door_J88 hS hM ei1 ei2 ei3 ei4 et1 k_1)
set_option maxRecDepth 20000 in
theorem qz_X18_door_J87 {P : Nat → Nat} {S : zm_S} {M : qm} {i1 : Int32} {qi1 : Int} {i2 : Int32} {qi2 : Int} {i3 : Int32} {qi3 : Int} {i4 : Int32} {qi4 : Int} {t1 : Int32} {qt1 : Int} (hS : Sh L xs P S) (hM : qM P S = M) (ei1 : i1.toInt = qi1) (ei2 : i2.toInt = qi2) (ei3 : i3.toInt = qi3) (ei4 : i4.toInt = qi4) (et1 : t1.toInt = qt1) : qs (zf_X18_door_J87 20000 2156 i1 i2 i3 i4 2156 t1 S) (qf_X18_door_J87 20000 qi1 qi2 qi3 qi4 qt1 M) (tO (rr L xs P vi)) := by
  unfold zf_X18_door_J87 qf_X18_door_J87
  exact (qz_X18_door_J88 hS hM ei1 ei2 ei3 ei4 et1 k_0)
set_option maxRecDepth 20000 in
theorem qz_X18_door_J52 {P : Nat → Nat} {S : zm_S} {M : qm} {i1 : Int32} {qi1 : Int} {i2 : Int32} {qi2 : Int} {i3 : Int32} {qi3 : Int} {i4 : Int32} {qi4 : Int} {t0 : Int32} {qt0 : Int} (hS : Sh L xs P S) (hM : qM P S = M) (ei1 : i1.toInt = qi1) (ei2 : i2.toInt = qi2) (ei3 : i3.toInt = qi3) (ei4 : i4.toInt = qi4) (et0 : t0.toInt = qt0) : qs (zf_X18_door_J52 20000 2156 i1 i2 i3 i4 t0 S) (qf_X18_door_J52 20000 qi1 qi2 qi3 qi4 qt0 M) (tO (rr L xs P vi)) := by
  unfold zf_X18_door_J52 qf_X18_door_J52
  refine qs_gi hS hM pl_2156 ts_2156 (z := 1) rfl rfl (fun v382 h382 => ?_)
  refine qs_ite (c_eq h382 k_0) ?_ ?_
  · refine qs_ite (c_eq et0 k_0) ?_ ?_
    · exact (qz_X18_door_J83 hS hM ei1 ei2 ei3 ei4 et0)
    · refine qs_gr hS pl_2156 ts_2156 rfl ?_
      refine qs_gr hS pl_2157 ts_2157 rfl ?_
      refine qs_gd (fun g386 => ?_)
      refine qs_xi hM (pa_p hS pl_2162 ts_2162) ei1 g386 (fun v385 h385 => ?_)
      refine qs_ite (c_le k_6 h385) ?_ ?_
      · exact (qz_X18_door_J87 hS hM ei1 ei2 ei3 ei4 et0)
      · exact (qz_X18_door_J83 hS hM ei1 ei2 ei3 ei4 et0)
  · exact (qz_X18_door_J87 hS hM ei1 ei2 ei3 ei4 et0)
set_option maxRecDepth 20000 in
theorem qz_X18_door_J51 {P : Nat → Nat} {S : zm_S} {M : qm} {i1 : Int32} {qi1 : Int} {i2 : Int32} {qi2 : Int} {i3 : Int32} {qi3 : Int} {i4 : Int32} {qi4 : Int} (hS : Sh L xs P S) (hM : qM P S = M) (ei1 : i1.toInt = qi1) (ei2 : i2.toInt = qi2) (ei3 : i3.toInt = qi3) (ei4 : i4.toInt = qi4) : qs (zf_X18_door_J51 20000 2156 i1 i2 i3 i4 S) (qf_X18_door_J51 20000 qi1 qi2 qi3 qi4 M) (tO (rr L xs P vi)) := by
  unfold zf_X18_door_J51 qf_X18_door_J51
  exact (qz_X18_door_J52 hS hM ei1 ei2 ei3 ei4 k_0)
set_option maxRecDepth 20000 in
theorem qz_X16_lengthOf {P : Nat → Nat} {S : zm_S} {M : qm} {i1 : Int32} {qi1 : Int} (hS : Sh L xs P S) (hM : qM P S = M) (ei1 : i1.toInt = qi1) : qs (zf_X16_lengthOf 20000 2157 i1 S) (qf_X16_lengthOf 20000 qi1 M) (tO (rp L xs P M vi)) := by
  unfold zf_X16_lengthOf qf_X16_lengthOf
  refine qs_gr hS pl_2157 ts_2157 rfl ?_
  refine qs_gd (fun g389 => ?_)
  refine qs_xi hM (pa_p hS pl_2161 ts_2161) ei1 g389 (fun v388 h388 => ?_)
  exact qs_tp (show vi _ _ from h388) hS hM
set_option maxRecDepth 20000 in
theorem qz_X18_door {P : Nat → Nat} {S : zm_S} {M : qm} {i1 : Int32} {qi1 : Int} {i2 : Int32} {qi2 : Int} {i3 : Int32} {qi3 : Int} {i4 : Int32} {qi4 : Int} (hS : Sh L xs P S) (hM : qM P S = M) (ei1 : i1.toInt = qi1) (ei2 : i2.toInt = qi2) (ei3 : i3.toInt = qi3) (ei4 : i4.toInt = qi4) : qs (zf_X18_door 20000 2156 i1 i2 i3 i4 S) (qf_X18_door 20000 qi1 qi2 qi3 qi4 M) (tO (rr L xs P vi)) := by
  unfold zf_X18_door qf_X18_door
  refine qs_gr hS pl_2156 ts_2156 rfl ?_
  refine qs_gi hS hM pl_2157 ts_2157 (z := 0) rfl rfl (fun v391 h391 => ?_)
  refine qs_bp (qz_X18_isIn hS hM ei1 h391) (fun v392 S392 w392 h392 hS392 hM392 => ?_)
  refine qs_ite (c_eq h392 k_0) ?_ ?_
  · exact (qz_X18_door_J51 hS392 hM392 ei1 ei2 ei3 ei4)
  · refine qs_ite (c_lt ei2 k_0) ?_ ?_
    · exact (qz_X18_door_J51 hS392 hM392 ei1 ei2 ei3 ei4)
    · refine qs_ite (c_le ei3 ei2) ?_ ?_
      · exact (qz_X18_door_J51 hS392 hM392 ei1 ei2 ei3 ei4)
      · refine qs_gr hS392 pl_2156 ts_2156 rfl ?_
        refine qs_zi hS392 pl_2157 ts_2157 ?_
        refine qs_bp (qz_X16_lengthOf hS392 hM392 ei1) (fun v395 S395 w395 h395 hS395 hM395 => ?_)
        refine qs_ite (c_lt h395 ei3) ?_ ?_
        · exact (qz_X18_door_J51 hS395 hM395 ei1 ei2 ei3 ei4)
        · refine qs_ite (c_lt ei4 k_1) ?_ ?_
          · exact (qz_X18_door_J51 hS395 hM395 ei1 ei2 ei3 ei4)
          · refine qs_ite (c_lt k_5 ei4) ?_ ?_
            · exact (qz_X18_door_J51 hS395 hM395 ei1 ei2 ei3 ei4)
            · exact (qz_X18_door_J52 hS395 hM395 ei1 ei2 ei3 ei4 k_1)
set_option maxRecDepth 20000 in
theorem qz_X2_swapBefore {P : Nat → Nat} {S : zm_S} {M : qm} (hS : Sh L xs P S) (hM : qM P S = M) : qs (zf_X2_swapBefore 20000 51 S) (qf_X2_swapBefore 20000 M) (tO (re L xs vu)) := by
  unfold zf_X2_swapBefore qf_X2_swapBefore
  refine sw_of hS hM (d1 := 57) (d2 := 56) rfl rfl (by decide) (by decide) (by decide) (by decide) (by decide) (sf_57.trans sf_56.symm) pl_51 ts_51 rfl rfl rfl (TS_51 (Or.inl ⟨rfl, rfl⟩)) (by decide) (fun S1 hS1 hM1 => ?_)
  refine sw_of hS1 hM1 (d1 := 59) (d2 := 58) rfl rfl (by decide) (by decide) (by decide) (by decide) (by decide) (sf_59.trans sf_58.symm) pl_51 ts_51 rfl rfl rfl (TS_51 (Or.inr ⟨rfl, rfl⟩)) (by decide) (fun S2 hS2 hM2 => ?_)
  exact qs_te trivial hS2 hM2
set_option maxRecDepth 20000 in
theorem qz_X8_isLevel {P : Nat → Nat} {S : zm_S} {M : qm} {i1 : Int32} {qi1 : Int} (hS : Sh L xs P S) (hM : qM P S = M) (ei1 : i1.toInt = qi1) : qs (zf_X8_isLevel 20000 7 i1 S) (qf_X8_isLevel 20000 qi1 M) (tO (rp L xs P M vi)) := by
  unfold zf_X8_isLevel qf_X8_isLevel
  refine qs_gr hS pl_7 ts_7 rfl ?_
  refine qs_gd (fun g398 => ?_)
  refine qs_xt hS pl_8 ts_8 (Or.inl rfl) ei1 g398 (fun b397 r397 => ?_)
  refine qs_yi (j := 1) hS hM qt_8 tq_8 r397 k_1 (by decide) (fun v399 h399 => ?_)
  refine qs_gr hS pl_7 ts_7 rfl ?_
  refine qs_gd (fun g402 => ?_)
  refine qs_xt hS pl_8 ts_8 (Or.inl rfl) ei1 g402 (fun b401 r401 => ?_)
  refine qs_yi (j := 3) hS hM qt_8 tq_8 r401 k_3 (by decide) (fun v403 h403 => ?_)
  refine qs_ite (c_eq h399 h403) ?_ ?_
  · exact qs_tp (show vi _ _ from k_1) hS hM
  · exact qs_tp (show vi _ _ from k_0) hS hM
set_option maxRecDepth 20000 in
theorem qz_X2_drawWalls_J116 {P : Nat → Nat} {S : zm_S} {M : qm} {i1 : Int32} {qi1 : Int} {i2 : Int32} {qi2 : Int} {i3 : Int32} {qi3 : Int} {i4 : Int32} {qi4 : Int} {i5 : Int32} {qi5 : Int} {t0 : Nat} {qt0 : Int} {t1 : Int32} {qt1 : Int} {t2 : Int32} {qt2 : Int} {t3 : Int32} {qt3 : Int} (hS : Sh L xs P S) (hM : qM P S = M) (ei1 : i1.toInt = qi1) (ei2 : i2.toInt = qi2) (ei3 : i3.toInt = qi3) (ei4 : i4.toInt = qi4) (ei5 : i5.toInt = qi5) (rt0 : pr t0 53 2 qt0) (et1 : t1.toInt = qt1) (et2 : t2.toInt = qt2) (et3 : t3.toInt = qt3) {k : Nat → Int32 → Int32 → Int32 → Int32 → Int32 → zm_S → Option ((Unit × zm_S) ⊕ ((Unit) × zm_S))} : qs (zf_X2_drawWalls_J116 20000 k 51 i1 i2 i3 i4 i5 t0 t1 t2 t3 S) (qf_X2_drawWalls_J116 20000 qi1 qi2 qi3 qi4 qi5 qt0 qt1 qt2 qt3 M) (tk (vs (rr L xs P vu) (rr L xs P vu)) (qc_X2_drawWalls_L82 L xs P k)) := by
  unfold zf_X2_drawWalls_J116 qf_X2_drawWalls_J116
  refine qs_gd (fun g405 => ?_)
  refine qs_ysi hS hM qt_52 tq_52 rt0 (p_add et1 (p_mul et2 et3)) g405 ei1 (fun S404 M404 hS404 hM404 => ?_)
  exact qs_tk ⟨_, _, _, _, _, _, rfl, ei1, ei2, ei3, ei4, (p_add ei5 k_1), hS404, hM404⟩
set_option maxRecDepth 20000 in
theorem qz_X2_drawWalls_J102 {P : Nat → Nat} {S : zm_S} {M : qm} {i1 : Int32} {qi1 : Int} {i2 : Int32} {qi2 : Int} {i3 : Int32} {qi3 : Int} {i4 : Int32} {qi4 : Int} {i5 : Int32} {qi5 : Int} {t1 : Int32} {qt1 : Int} (hS : Sh L xs P S) (hM : qM P S = M) (ei1 : i1.toInt = qi1) (ei2 : i2.toInt = qi2) (ei3 : i3.toInt = qi3) (ei4 : i4.toInt = qi4) (ei5 : i5.toInt = qi5) (et1 : t1.toInt = qt1) {k : Nat → Int32 → Int32 → Int32 → Int32 → Int32 → zm_S → Option ((Unit × zm_S) ⊕ ((Unit) × zm_S))} : qs (zf_X2_drawWalls_J102 20000 k 51 i1 i2 i3 i4 i5 52 t1 S) (qf_X2_drawWalls_J102 20000 qi1 qi2 qi3 qi4 qi5 qt1 M) (tk (vs (rr L xs P vu) (rr L xs P vu)) (qc_X2_drawWalls_L82 L xs P k)) := by
  unfold zf_X2_drawWalls_J102 qf_X2_drawWalls_J102
  refine qs_gd (fun g407 => ?_)
  refine qs_xt hS pl_52 ts_52 (Or.inl rfl) et1 g407 (fun b406 r406 => ?_)
  refine qs_ite (c_eq ei2 k_0) ?_ ?_
  · exact (qz_X2_drawWalls_J116 hS hM ei1 ei2 ei3 ei4 ei5 r406 ei3 ei5 k_1)
  · exact (qz_X2_drawWalls_J116 hS hM ei1 ei2 ei3 ei4 ei5 r406 ei3 ei5 k_25)
set_option maxRecDepth 20000 in
theorem qz_X2_drawWalls_L82_b (n : Nat) {P : Nat → Nat} {S : zm_S} {M : qm} {i1 : Int32} {qi1 : Int} {i2 : Int32} {qi2 : Int} {i3 : Int32} {qi3 : Int} {i4 : Int32} {qi4 : Int} {i5 : Int32} {qi5 : Int} (hS : Sh L xs P S) (hM : qM P S = M) (ei1 : i1.toInt = qi1) (ei2 : i2.toInt = qi2) (ei3 : i3.toInt = qi3) (ei4 : i4.toInt = qi4) (ei5 : i5.toInt = qi5) : qs (zf_X2_drawWalls_L82 20000 (n + 1) 51 i1 i2 i3 i4 i5 S) (qf_X2_drawWalls_L82_b 20000 qi1 qi2 qi3 qi4 qi5 M) (tk (vs (rr L xs P vu) (rr L xs P vu)) (qc_X2_drawWalls_L82 L xs P (zf_X2_drawWalls_L82 20000 n))) := by
  refine qs_eq (zf_X2_drawWalls_L82.eq_2 ..) ?_
  unfold qf_X2_drawWalls_L82_b
  refine qs_ite (c_le ei4 ei5) ?_ ?_
  · exact qs_tr2 (show vu _ _ from trivial) hS hM
  · refine qs_gr hS pl_51 ts_51 rfl ?_
    refine qs_ite (c_eq ei2 k_0) ?_ ?_
    · exact (qz_X2_drawWalls_J102 hS hM ei1 ei2 ei3 ei4 ei5 k_1)
    · exact (qz_X2_drawWalls_J102 hS hM ei1 ei2 ei3 ei4 ei5 k_0)
theorem qz_X2_drawWalls_L82 (n : Nat) : ∀ {P : Nat → Nat} {S : zm_S} {M : qm} {i1 : Int32} {qi1 : Int} {i2 : Int32} {qi2 : Int} {i3 : Int32} {qi3 : Int} {i4 : Int32} {qi4 : Int} {i5 : Int32} {qi5 : Int} (hS : Sh L xs P S) (hM : qM P S = M) (ei1 : i1.toInt = qi1) (ei2 : i2.toInt = qi2) (ei3 : i3.toInt = qi3) (ei4 : i4.toInt = qi4) (ei5 : i5.toInt = qi5), qs (zf_X2_drawWalls_L82 20000 n 51 i1 i2 i3 i4 i5 S) (qf_X2_drawWalls_L82 20000 n qi1 qi2 qi3 qi4 qi5 M) (tO (vs (rr L xs P vu) (rr L xs P vu))) := by
  induction n with
  | zero =>
    intros
    exact qs_none
  | succ n ih =>
    intro P S M i1 qi1 i2 qi2 i3 qi3 i4 qi4 i5 qi5 hS hM ei1 ei2 ei3 ei4 ei5
    unfold qf_X2_drawWalls_L82
    refine qs_loop (C := (qc_X2_drawWalls_L82 L xs P (zf_X2_drawWalls_L82 20000 n))) (qz_X2_drawWalls_L82_b n hS hM ei1 ei2 ei3 ei4 ei5) ?_
    rintro x s ⟨_, _, _, _, _, _, rfl, u0, u1, u2, u3, u4, hS2, hM2⟩
    exact ih hS2 hM2 u0 u1 u2 u3 u4
set_option maxRecDepth 20000 in
theorem qz_X2_drawWalls_L22_b (n : Nat) {P : Nat → Nat} {S : zm_S} {M : qm} {i1 : Int32} {qi1 : Int} (hS : Sh L xs P S) (hM : qM P S = M) (ei1 : i1.toInt = qi1) : qs (zf_X2_drawWalls_L22 20000 (n + 1) 51 i1 S) (qf_X2_drawWalls_L22_b 20000 qi1 M) (tk (vs (rr L xs P vu) (rr L xs P vu)) (qc_X2_drawWalls_L22 L xs P (zf_X2_drawWalls_L22 20000 n))) := by
  refine qs_eq (zf_X2_drawWalls_L22.eq_2 ..) ?_
  unfold qf_X2_drawWalls_L22_b
  refine qs_gr hS pl_51 ts_51 rfl ?_
  refine qs_gi hS hM pl_7 ts_7 (z := 0) rfl rfl (fun v410 h410 => ?_)
  refine qs_ite (c_le h410 ei1) ?_ ?_
  · exact qs_tr2 (show vu _ _ from trivial) hS hM
  · refine qs_gr hS pl_51 ts_51 rfl ?_
    refine qs_zi hS pl_7 ts_7 ?_
    refine qs_bp (qz_X8_isLevel hS hM ei1) (fun v413 S413 w413 h413 hS413 hM413 => ?_)
    refine qs_gr hS413 pl_51 ts_51 rfl ?_
    refine qs_gr hS413 pl_7 ts_7 rfl ?_
    refine qs_gd (fun g417 => ?_)
    refine qs_xt hS413 pl_8 ts_8 (Or.inl rfl) ei1 g417 (fun b416 r416 => ?_)
    refine qs_yi (j := 0) hS413 hM413 qt_8 tq_8 r416 k_0 (by decide) (fun v418 h418 => ?_)
    refine qs_gr hS413 pl_51 ts_51 rfl ?_
    refine qs_gr hS413 pl_7 ts_7 rfl ?_
    refine qs_gd (fun g422 => ?_)
    refine qs_xt hS413 pl_8 ts_8 (Or.inl rfl) ei1 g422 (fun b421 r421 => ?_)
    refine qs_yi (j := 1) hS413 hM413 qt_8 tq_8 r421 k_1 (by decide) (fun v423 h423 => ?_)
    refine qs_gr hS413 pl_51 ts_51 rfl ?_
    refine qs_zi hS413 pl_7 ts_7 ?_
    refine qs_bp (qz_X8_lengthOf hS413 hM413 ei1) (fun v426 S426 w426 h426 hS426 hM426 => ?_)
    refine qs_lr (qz_X2_drawWalls_L82 20000 hS426 hM426 ei1 h413 (p_add (p_mul h418 k_25) h423) h426 k_0) ?_ ?_
    · intro v428 S428 w428 M428 h428 hS428 hM428
      dsimp only
      exact qs_tr1 h428 hS428 hM428
    · intro v428 S428 w428 M428 h428 hS428 hM428
      dsimp only
      exact qs_tk ⟨_, _, rfl, (p_add ei1 k_1), hS428, hM428⟩
theorem qz_X2_drawWalls_L22 (n : Nat) : ∀ {P : Nat → Nat} {S : zm_S} {M : qm} {i1 : Int32} {qi1 : Int} (hS : Sh L xs P S) (hM : qM P S = M) (ei1 : i1.toInt = qi1), qs (zf_X2_drawWalls_L22 20000 n 51 i1 S) (qf_X2_drawWalls_L22 20000 n qi1 M) (tO (vs (rr L xs P vu) (rr L xs P vu))) := by
  induction n with
  | zero =>
    intros
    exact qs_none
  | succ n ih =>
    intro P S M i1 qi1 hS hM ei1
    unfold qf_X2_drawWalls_L22
    refine qs_loop (C := (qc_X2_drawWalls_L22 L xs P (zf_X2_drawWalls_L22 20000 n))) (qz_X2_drawWalls_L22_b n hS hM ei1) ?_
    rintro x s ⟨_, _, rfl, u0, hS2, hM2⟩
    exact ih hS2 hM2 u0
set_option maxRecDepth 20000 in
theorem qz_X2_drawWalls {P : Nat → Nat} {S : zm_S} {M : qm}  (hS : Sh L xs P S) (hM : qM P S = M)  : qs (zf_X2_drawWalls 20000 51 S) (qf_X2_drawWalls 20000 M) (tO (rr L xs P vu)) := by
  unfold zf_X2_drawWalls qf_X2_drawWalls
  refine qs_gr hS pl_51 ts_51 rfl ?_
  refine qs_xt (i := 0) hS pl_52 ts_52 (Or.inl rfl) k_0 (by decide) (fun b430 r430 => ?_)
  refine qs_fyi hS hM qt_52 tq_52 r430 (by decide) k_m1 (fun S431 M431 hS431 hM431 => ?_)
  refine qs_gr hS431 pl_51 ts_51 rfl ?_
  refine qs_xt (i := 1) hS431 pl_52 ts_52 (Or.inl rfl) k_1 (by decide) (fun b433 r433 => ?_)
  refine qs_fyi hS431 hM431 qt_52 tq_52 r433 (by decide) k_m1 (fun S434 M434 hS434 hM434 => ?_)
  refine qs_lr (qz_X2_drawWalls_L22 20000 hS434 hM434 k_0) ?_ ?_
  · intro v436 S436 w436 M436 h436 hS436 hM436
    dsimp only
    exact qs_tr h436 hS436 hM436
  · intro v436 S436 w436 M436 h436 hS436 hM436
    dsimp only
    exact qs_tr (show vu _ _ from trivial) hS436 hM436
set_option maxRecDepth 20000 in
theorem qz_X2_wallFrom {P : Nat → Nat} {S : zm_S} {M : qm} {i1 : Int32} {qi1 : Int} {i2 : Int32} {qi2 : Int} {i3 : Int32} {qi3 : Int} (hS : Sh L xs P S) (hM : qM P S = M) (ei1 : i1.toInt = qi1) (ei2 : i2.toInt = qi2) (ei3 : i3.toInt = qi3) : qs (zf_X2_wallFrom 20000 51 i1 i2 i3 S) (qf_X2_wallFrom 20000 qi1 qi2 qi3 M) (tO (rp L xs P M vi)) := by
  unfold zf_X2_wallFrom qf_X2_wallFrom
  refine qs_ite (z_eq ei3) ?_ ?_
  · refine qs_ite (c_le k_24 ei1) ?_ ?_
    · exact qs_tp (show vi _ _ from k_m1) hS hM
    · refine qs_gr hS pl_51 ts_51 rfl ?_
      refine qs_xt (i := 0) hS pl_52 ts_52 (Or.inl rfl) k_0 (by decide) (fun b438 r438 => ?_)
      refine qs_gd (fun g440 => ?_)
      refine qs_yi hS hM qt_52 tq_52 r438 (p_add (p_mul ei1 k_25) ei2) g440 (fun v439 h439 => ?_)
      exact qs_tp (show vi _ _ from h439) hS hM
  · refine qs_ite (z_eq ei3) ?_ ?_
    · refine qs_ite (c_le k_24 ei2) ?_ ?_
      · exact qs_tp (show vi _ _ from k_m1) hS hM
      · refine qs_gr hS pl_51 ts_51 rfl ?_
        refine qs_xt (i := 1) hS pl_52 ts_52 (Or.inl rfl) k_1 (by decide) (fun b442 r442 => ?_)
        refine qs_gd (fun g444 => ?_)
        refine qs_yi hS hM qt_52 tq_52 r442 (p_add (p_mul ei1 k_25) ei2) g444 (fun v443 h443 => ?_)
        exact qs_tp (show vi _ _ from h443) hS hM
    · refine qs_ite (z_eq ei3) ?_ ?_
      · refine qs_ite (c_le ei1 k_0) ?_ ?_
        · exact qs_tp (show vi _ _ from k_m1) hS hM
        · refine qs_gr hS pl_51 ts_51 rfl ?_
          refine qs_xt (i := 0) hS pl_52 ts_52 (Or.inl rfl) k_0 (by decide) (fun b446 r446 => ?_)
          refine qs_gd (fun g448 => ?_)
          refine qs_yi hS hM qt_52 tq_52 r446 (p_add (p_mul (p_sub ei1 k_1) k_25) ei2) g448 (fun v447 h447 => ?_)
          exact qs_tp (show vi _ _ from h447) hS hM
      · refine qs_ite (c_le ei2 k_0) ?_ ?_
        · exact qs_tp (show vi _ _ from k_m1) hS hM
        · refine qs_gr hS pl_51 ts_51 rfl ?_
          refine qs_xt (i := 1) hS pl_52 ts_52 (Or.inl rfl) k_1 (by decide) (fun b450 r450 => ?_)
          refine qs_gd (fun g452 => ?_)
          refine qs_yi hS hM qt_52 tq_52 r450 (p_sub (p_add (p_mul ei1 k_25) ei2) k_1) g452 (fun v451 h451 => ?_)
          exact qs_tp (show vi _ _ from h451) hS hM
set_option maxRecDepth 20000 in
theorem qz_X2_markPoints_J96 {P : Nat → Nat} {S : zm_S} {M : qm} {i1 : Int32} {qi1 : Int} {i2 : Int32} {qi2 : Int} {t1 : Int32} {qt1 : Int} (hS : Sh L xs P S) (hM : qM P S = M) (ei1 : i1.toInt = qi1) (ei2 : i2.toInt = qi2) (et1 : t1.toInt = qt1) {k : Nat → Int32 → Int32 → zm_S → Option ((Unit × zm_S) ⊕ ((Unit) × zm_S))} : qs (zf_X2_markPoints_J96 20000 k 51 i1 i2 55 t1 S) (qf_X2_markPoints_J96 20000 qi1 qi2 qt1 M) (tk (vs (rr L xs P vu) (rr L xs P vu)) (qc_X2_markPoints_L10 L xs P k)) := by
  unfold zf_X2_markPoints_J96 qf_X2_markPoints_J96
  refine qs_gd (fun g454 => ?_)
  refine qs_sz hS hM (pa_p hS pl_55 ts_55) et1 g454 k_0 (by decide) (fun S453 M453 hS453 hM453 => ?_)
  exact qs_tk ⟨_, _, _, rfl, ei1, (p_add ei2 k_1), hS453, hM453⟩
set_option maxRecDepth 20000 in
theorem qz_X2_markPoints_J71 {P : Nat → Nat} {S : zm_S} {M : qm} {i1 : Int32} {qi1 : Int} {i2 : Int32} {qi2 : Int} {i3 : Int32} {qi3 : Int} {t0 : Int32} {qt0 : Int} (hS : Sh L xs P S) (hM : qM P S = M) (ei1 : i1.toInt = qi1) (ei2 : i2.toInt = qi2) (ei3 : i3.toInt = qi3) (et0 : t0.toInt = qt0) {k : Nat → Int32 → Int32 → zm_S → Option ((Unit × zm_S) ⊕ ((Unit) × zm_S))} : qs (zf_X2_markPoints_J71 20000 k 51 i1 i2 i3 t0 S) (qf_X2_markPoints_J71 20000 qi1 qi2 qi3 qt0 M) (tk (vs (rr L xs P vu) (rr L xs P vu)) (qc_X2_markPoints_L10 L xs P k)) := by
  unfold zf_X2_markPoints_J71 qf_X2_markPoints_J71
  refine qs_gr hS pl_51 ts_51 rfl ?_
  refine qs_ite (c_eq ei3 k_0) ?_ ?_
  · exact (qz_X2_markPoints_J96 hS hM ei1 ei2 (p_add (p_mul ei1 k_25) ei2))
  · refine qs_ite (c_eq et0 k_0) ?_ ?_
    · exact (qz_X2_markPoints_J96 hS hM ei1 ei2 (p_add (p_mul ei1 k_25) ei2))
    · refine qs_gd (fun g457 => ?_)
      refine qs_sz hS hM (pa_p hS pl_55 ts_55) (p_add (p_mul ei1 k_25) ei2) g457 k_1 (by decide) (fun S456 M456 hS456 hM456 => ?_)
      exact qs_tk ⟨_, _, _, rfl, ei1, (p_add ei2 k_1), hS456, hM456⟩
set_option maxRecDepth 20000 in
theorem qz_X2_markPoints_J66 {P : Nat → Nat} {S : zm_S} {M : qm} {i1 : Int32} {qi1 : Int} {i2 : Int32} {qi2 : Int} {i3 : Int32} {qi3 : Int} (hS : Sh L xs P S) (hM : qM P S = M) (ei1 : i1.toInt = qi1) (ei2 : i2.toInt = qi2) (ei3 : i3.toInt = qi3) {k : Nat → Int32 → Int32 → zm_S → Option ((Unit × zm_S) ⊕ ((Unit) × zm_S))} : qs (zf_X2_markPoints_J66 20000 k 51 i1 i2 i3 S) (qf_X2_markPoints_J66 20000 qi1 qi2 qi3 M) (tk (vs (rr L xs P vu) (rr L xs P vu)) (qc_X2_markPoints_L10 L xs P k)) := by
  unfold zf_X2_markPoints_J66 qf_X2_markPoints_J66
  exact (qz_X2_markPoints_J71 hS hM ei1 ei2 ei3 k_1)
set_option maxRecDepth 20000 in
theorem qz_X2_markPoints_J43 {P : Nat → Nat} {S : zm_S} {M : qm} {i1 : Int32} {qi1 : Int} {i2 : Int32} {qi2 : Int} {t0 : Int32} {qt0 : Int} (hS : Sh L xs P S) (hM : qM P S = M) (ei1 : i1.toInt = qi1) (ei2 : i2.toInt = qi2) (et0 : t0.toInt = qt0) {k : Nat → Int32 → Int32 → zm_S → Option ((Unit × zm_S) ⊕ ((Unit) × zm_S))} : qs (zf_X2_markPoints_J43 20000 k 51 i1 i2 t0 S) (qf_X2_markPoints_J43 20000 qi1 qi2 qt0 M) (tk (vs (rr L xs P vu) (rr L xs P vu)) (qc_X2_markPoints_L10 L xs P k)) := by
  unfold zf_X2_markPoints_J43 qf_X2_markPoints_J43
  refine qs_zi hS pl_51 ts_51 ?_
  refine qs_bp (qz_X2_wallFrom hS hM ei1 ei2 k_1) (fun v459 S459 w459 h459 hS459 hM459 => ?_)
  refine qs_ite (c_eq h459 k_m1) ?_ ?_
  · refine qs_zi hS459 pl_51 ts_51 ?_
    refine qs_bp (qz_X2_wallFrom hS459 hM459 ei1 ei2 k_3) (fun v461 S461 w461 h461 hS461 hM461 => ?_)
    refine qs_ite (c_eq h461 k_m1) ?_ ?_
    · exact (qz_X2_markPoints_J71 hS461 hM461 ei1 ei2 et0 k_0)
    · exact (qz_X2_markPoints_J66 hS461 hM461 ei1 ei2 et0)
  · exact (qz_X2_markPoints_J66 hS459 hM459 ei1 ei2 et0)
set_option maxRecDepth 20000 in
theorem qz_X2_markPoints_J38 {P : Nat → Nat} {S : zm_S} {M : qm} {i1 : Int32} {qi1 : Int} {i2 : Int32} {qi2 : Int} (hS : Sh L xs P S) (hM : qM P S = M) (ei1 : i1.toInt = qi1) (ei2 : i2.toInt = qi2) {k : Nat → Int32 → Int32 → zm_S → Option ((Unit × zm_S) ⊕ ((Unit) × zm_S))} : qs (zf_X2_markPoints_J38 20000 k 51 i1 i2 S) (qf_X2_markPoints_J38 20000 qi1 qi2 M) (tk (vs (rr L xs P vu) (rr L xs P vu)) (qc_X2_markPoints_L10 L xs P k)) := by
  unfold zf_X2_markPoints_J38 qf_X2_markPoints_J38
  exact (qz_X2_markPoints_J43 hS hM ei1 ei2 k_1)
set_option maxRecDepth 20000 in
theorem qz_X2_markPoints_L10_b (n : Nat) {P : Nat → Nat} {S : zm_S} {M : qm} {i1 : Int32} {qi1 : Int} {i2 : Int32} {qi2 : Int} (hS : Sh L xs P S) (hM : qM P S = M) (ei1 : i1.toInt = qi1) (ei2 : i2.toInt = qi2) : qs (zf_X2_markPoints_L10 20000 (n + 1) 51 i1 i2 S) (qf_X2_markPoints_L10_b 20000 qi1 qi2 M) (tk (vs (rr L xs P vu) (rr L xs P vu)) (qc_X2_markPoints_L10 L xs P (zf_X2_markPoints_L10 20000 n))) := by
  refine qs_eq (zf_X2_markPoints_L10.eq_2 ..) ?_
  unfold qf_X2_markPoints_L10_b
  refine qs_ite (c_lt k_24 ei2) ?_ ?_
  · exact qs_tr2 (show vu _ _ from trivial) hS hM
  · refine qs_zi hS pl_51 ts_51 ?_
    refine qs_bp (qz_X2_wallFrom hS hM ei1 ei2 k_0) (fun v463 S463 w463 h463 hS463 hM463 => ?_)
    refine qs_ite (c_eq h463 k_m1) ?_ ?_
    · refine qs_zi hS463 pl_51 ts_51 ?_
      refine qs_bp (qz_X2_wallFrom hS463 hM463 ei1 ei2 k_2) (fun v465 S465 w465 h465 hS465 hM465 => ?_)
      refine qs_ite (c_eq h465 k_m1) ?_ ?_
      · exact (qz_X2_markPoints_J43 hS465 hM465 ei1 ei2 k_0)
      · exact (qz_X2_markPoints_J38 hS465 hM465 ei1 ei2)
    · exact (qz_X2_markPoints_J38 hS463 hM463 ei1 ei2)
theorem qz_X2_markPoints_L10 (n : Nat) : ∀ {P : Nat → Nat} {S : zm_S} {M : qm} {i1 : Int32} {qi1 : Int} {i2 : Int32} {qi2 : Int} (hS : Sh L xs P S) (hM : qM P S = M) (ei1 : i1.toInt = qi1) (ei2 : i2.toInt = qi2), qs (zf_X2_markPoints_L10 20000 n 51 i1 i2 S) (qf_X2_markPoints_L10 20000 n qi1 qi2 M) (tO (vs (rr L xs P vu) (rr L xs P vu))) := by
  induction n with
  | zero =>
    intros
    exact qs_none
  | succ n ih =>
    intro P S M i1 qi1 i2 qi2 hS hM ei1 ei2
    unfold qf_X2_markPoints_L10
    refine qs_loop (C := (qc_X2_markPoints_L10 L xs P (zf_X2_markPoints_L10 20000 n))) (qz_X2_markPoints_L10_b n hS hM ei1 ei2) ?_
    rintro x s ⟨_, _, _, rfl, u0, u1, hS2, hM2⟩
    exact ih hS2 hM2 u0 u1
set_option maxRecDepth 20000 in
theorem qz_X2_markPoints_L2_b (n : Nat) {P : Nat → Nat} {S : zm_S} {M : qm} {i1 : Int32} {qi1 : Int} (hS : Sh L xs P S) (hM : qM P S = M) (ei1 : i1.toInt = qi1) : qs (zf_X2_markPoints_L2 20000 (n + 1) 51 i1 S) (qf_X2_markPoints_L2_b 20000 qi1 M) (tk (vs (rr L xs P vu) (rr L xs P vu)) (qc_X2_markPoints_L2 L xs P (zf_X2_markPoints_L2 20000 n))) := by
  refine qs_eq (zf_X2_markPoints_L2.eq_2 ..) ?_
  unfold qf_X2_markPoints_L2_b
  refine qs_ite (c_lt k_24 ei1) ?_ ?_
  · exact qs_tr2 (show vu _ _ from trivial) hS hM
  · refine qs_lr (qz_X2_markPoints_L10 20000 hS hM ei1 k_0) ?_ ?_
    · intro v467 S467 w467 M467 h467 hS467 hM467
      dsimp only
      exact qs_tr1 h467 hS467 hM467
    · intro v467 S467 w467 M467 h467 hS467 hM467
      dsimp only
      exact qs_tk ⟨_, _, rfl, (p_add ei1 k_1), hS467, hM467⟩
theorem qz_X2_markPoints_L2 (n : Nat) : ∀ {P : Nat → Nat} {S : zm_S} {M : qm} {i1 : Int32} {qi1 : Int} (hS : Sh L xs P S) (hM : qM P S = M) (ei1 : i1.toInt = qi1), qs (zf_X2_markPoints_L2 20000 n 51 i1 S) (qf_X2_markPoints_L2 20000 n qi1 M) (tO (vs (rr L xs P vu) (rr L xs P vu))) := by
  induction n with
  | zero =>
    intros
    exact qs_none
  | succ n ih =>
    intro P S M i1 qi1 hS hM ei1
    unfold qf_X2_markPoints_L2
    refine qs_loop (C := (qc_X2_markPoints_L2 L xs P (zf_X2_markPoints_L2 20000 n))) (qz_X2_markPoints_L2_b n hS hM ei1) ?_
    rintro x s ⟨_, _, rfl, u0, hS2, hM2⟩
    exact ih hS2 hM2 u0
set_option maxRecDepth 20000 in
theorem qz_X2_markPoints_L112_b (n : Nat) {P : Nat → Nat} {S : zm_S} {M : qm} {i1 : Int32} {qi1 : Int} (hS : Sh L xs P S) (hM : qM P S = M) (ei1 : i1.toInt = qi1) : qs (zf_X2_markPoints_L112 20000 (n + 1) 51 i1 S) (qf_X2_markPoints_L112_b 20000 qi1 M) (tk (vs (rr L xs P vu) (rr L xs P vu)) (qc_X2_markPoints_L112 L xs P (zf_X2_markPoints_L112 20000 n))) := by
  refine qs_eq (zf_X2_markPoints_L112.eq_2 ..) ?_
  unfold qf_X2_markPoints_L112_b
  refine qs_gr hS pl_51 ts_51 rfl ?_
  refine qs_gi hS hM pl_7 ts_7 (z := 0) rfl rfl (fun v469 h469 => ?_)
  refine qs_ite (c_le h469 ei1) ?_ ?_
  · exact qs_tr2 (show vu _ _ from trivial) hS hM
  · refine qs_gr hS pl_51 ts_51 rfl ?_
    refine qs_gr hS pl_7 ts_7 rfl ?_
    refine qs_gd (fun g473 => ?_)
    refine qs_xt hS pl_8 ts_8 (Or.inl rfl) ei1 g473 (fun b472 r472 => ?_)
    refine qs_gr hS pl_51 ts_51 rfl ?_
    refine qs_yi (j := 0) hS hM qt_8 tq_8 r472 k_0 (by decide) (fun v475 h475 => ?_)
    refine qs_yi (j := 1) hS hM qt_8 tq_8 r472 k_1 (by decide) (fun v476 h476 => ?_)
    refine qs_gd (fun g478 => ?_)
    refine qs_sz hS hM (pa_p hS pl_55 ts_55) (p_add (p_mul h475 k_25) h476) g478 k_1 (by decide) (fun S477 M477 hS477 hM477 => ?_)
    refine qs_gr hS477 pl_51 ts_51 rfl ?_
    refine qs_yi (j := 2) hS477 hM477 qt_8 tq_8 r472 k_2 (by decide) (fun v480 h480 => ?_)
    refine qs_yi (j := 3) hS477 hM477 qt_8 tq_8 r472 k_3 (by decide) (fun v481 h481 => ?_)
    refine qs_gd (fun g483 => ?_)
    refine qs_sz hS477 hM477 (pa_p hS477 pl_55 ts_55) (p_add (p_mul h480 k_25) h481) g483 k_1 (by decide) (fun S482 M482 hS482 hM482 => ?_)
    exact qs_tk ⟨_, _, rfl, (p_add ei1 k_1), hS482, hM482⟩
theorem qz_X2_markPoints_L112 (n : Nat) : ∀ {P : Nat → Nat} {S : zm_S} {M : qm} {i1 : Int32} {qi1 : Int} (hS : Sh L xs P S) (hM : qM P S = M) (ei1 : i1.toInt = qi1), qs (zf_X2_markPoints_L112 20000 n 51 i1 S) (qf_X2_markPoints_L112 20000 n qi1 M) (tO (vs (rr L xs P vu) (rr L xs P vu))) := by
  induction n with
  | zero =>
    intros
    exact qs_none
  | succ n ih =>
    intro P S M i1 qi1 hS hM ei1
    unfold qf_X2_markPoints_L112
    refine qs_loop (C := (qc_X2_markPoints_L112 L xs P (zf_X2_markPoints_L112 20000 n))) (qz_X2_markPoints_L112_b n hS hM ei1) ?_
    rintro x s ⟨_, _, rfl, u0, hS2, hM2⟩
    exact ih hS2 hM2 u0
set_option maxRecDepth 20000 in
theorem qz_X2_markPoints {P : Nat → Nat} {S : zm_S} {M : qm}  (hS : Sh L xs P S) (hM : qM P S = M)  : qs (zf_X2_markPoints 20000 51 S) (qf_X2_markPoints 20000 M) (tO (rr L xs P vu)) := by
  unfold zf_X2_markPoints qf_X2_markPoints
  refine qs_lr (qz_X2_markPoints_L2 20000 hS hM k_0) ?_ ?_
  · intro v485 S485 w485 M485 h485 hS485 hM485
    dsimp only
    exact qs_tr h485 hS485 hM485
  · intro v485 S485 w485 M485 h485 hS485 hM485
    dsimp only
    refine qs_lr (qz_X2_markPoints_L112 20000 hS485 hM485 k_0) ?_ ?_
    · intro v487 S487 w487 M487 h487 hS487 hM487
      dsimp only
      exact qs_tr h487 hS487 hM487
    · intro v487 S487 w487 M487 h487 hS487 hM487
      dsimp only
      exact qs_tr (show vu _ _ from trivial) hS487 hM487
set_option maxRecDepth 20000 in
theorem qz_X2_cellNumber {P : Nat → Nat} {S : zm_S} {M : qm} {i0 : Int32} {qi0 : Int} {i1 : Int32} {qi1 : Int} (hS : Sh L xs P S) (hM : qM P S = M) (ei0 : i0.toInt = qi0) (ei1 : i1.toInt = qi1) : qs (zf_X2_cellNumber 20000 i0 i1 S) (qf_X2_cellNumber 20000 qi0 qi1 M) (tO (rp L xs P M vi)) := by
  unfold zf_X2_cellNumber qf_X2_cellNumber
  exact qs_tp (show vi _ _ from (p_add (p_mul ei0 k_24) ei1)) hS hM
set_option maxRecDepth 20000 in
theorem qz_X2_placeBeside {P : Nat → Nat} {S : zm_S} {M : qm} {i1 : Int32} {qi1 : Int} {i2 : Int32} {qi2 : Int} (hS : Sh L xs P S) (hM : qM P S = M) (ei1 : i1.toInt = qi1) (ei2 : i2.toInt = qi2) : qs (zf_X2_placeBeside 20000 51 i1 i2 S) (qf_X2_placeBeside 20000 qi1 qi2 M) (tO (rp L xs P M vi)) := by
  unfold zf_X2_placeBeside qf_X2_placeBeside
  refine qs_ite (c_eq ei2 k_0) ?_ ?_
  · exact qs_tp (show vi _ _ from (p_add (p_add (p_mul (p_div ei1 k_24 (by decide)) k_25) (p_mod ei1 k_24)) k_25)) hS hM
  · refine qs_ite (c_eq ei2 k_2) ?_ ?_
    · exact qs_tp (show vi _ _ from (p_add (p_add (p_mul (p_div ei1 k_24 (by decide)) k_25) (p_mod ei1 k_24)) k_1)) hS hM
    · exact qs_tp (show vi _ _ from (p_add (p_mul (p_div ei1 k_24 (by decide)) k_25) (p_mod ei1 k_24))) hS hM
set_option maxRecDepth 20000 in
theorem qz_X2_wallBeside {P : Nat → Nat} {S : zm_S} {M : qm} {i1 : Int32} {qi1 : Int} {i2 : Int32} {qi2 : Int} (hS : Sh L xs P S) (hM : qM P S = M) (ei1 : i1.toInt = qi1) (ei2 : i2.toInt = qi2) : qs (zf_X2_wallBeside 20000 51 i1 i2 S) (qf_X2_wallBeside 20000 qi1 qi2 M) (tO (rp L xs P M vi)) := by
  unfold zf_X2_wallBeside qf_X2_wallBeside
  refine qs_zi hS pl_51 ts_51 ?_
  refine qs_bp (qz_X2_placeBeside hS hM ei1 ei2) (fun v489 S489 w489 h489 hS489 hM489 => ?_)
  refine qs_ite (c_le k_2 ei2) ?_ ?_
  · refine qs_gr hS489 pl_51 ts_51 rfl ?_
    refine qs_xt (i := 0) hS489 pl_52 ts_52 (Or.inl rfl) k_0 (by decide) (fun b491 r491 => ?_)
    refine qs_gd (fun g493 => ?_)
    refine qs_yi hS489 hM489 qt_52 tq_52 r491 h489 g493 (fun v492 h492 => ?_)
    exact qs_tp (show vi _ _ from h492) hS489 hM489
  · refine qs_gr hS489 pl_51 ts_51 rfl ?_
    refine qs_xt (i := 1) hS489 pl_52 ts_52 (Or.inl rfl) k_1 (by decide) (fun b495 r495 => ?_)
    refine qs_gd (fun g497 => ?_)
    refine qs_yi hS489 hM489 qt_52 tq_52 r495 h489 g497 (fun v496 h496 => ?_)
    exact qs_tp (show vi _ _ from h496) hS489 hM489
set_option maxRecDepth 20000 in
theorem qz_X2_cellBeside {P : Nat → Nat} {S : zm_S} {M : qm} {i1 : Int32} {qi1 : Int} {i2 : Int32} {qi2 : Int} (hS : Sh L xs P S) (hM : qM P S = M) (ei1 : i1.toInt = qi1) (ei2 : i2.toInt = qi2) : qs (zf_X2_cellBeside 20000 51 i1 i2 S) (qf_X2_cellBeside 20000 qi1 qi2 M) (tO (rp L xs P M vi)) := by
  unfold zf_X2_cellBeside qf_X2_cellBeside
  refine qs_ite (z_eq ei2) ?_ ?_
  · refine qs_ite (c_le k_23 (p_div ei1 k_24 (by decide))) ?_ ?_
    · exact qs_tp (show vi _ _ from k_m1) hS hM
    · exact qs_tp (show vi _ _ from (p_add ei1 k_24)) hS hM
  · refine qs_ite (z_eq ei2) ?_ ?_
    · refine qs_ite (c_le (p_div ei1 k_24 (by decide)) k_0) ?_ ?_
      · exact qs_tp (show vi _ _ from k_m1) hS hM
      · exact qs_tp (show vi _ _ from (p_sub ei1 k_24)) hS hM
    · refine qs_ite (z_eq ei2) ?_ ?_
      · refine qs_ite (c_le k_23 (p_mod ei1 k_24)) ?_ ?_
        · exact qs_tp (show vi _ _ from k_m1) hS hM
        · exact qs_tp (show vi _ _ from (p_add ei1 k_1)) hS hM
      · refine qs_ite (c_le (p_mod ei1 k_24) k_0) ?_ ?_
        · exact qs_tp (show vi _ _ from k_m1) hS hM
        · exact qs_tp (show vi _ _ from (p_sub ei1 k_1)) hS hM
set_option maxRecDepth 20000 in
theorem qz_X2_fill_J77 {P : Nat → Nat} {S : zm_S} {M : qm} {i2 : Int32} {qi2 : Int} {i3 : Int32} {qi3 : Int} {i4 : Int32} {qi4 : Int} {i5 : Int32} {qi5 : Int} {i6 : Int32} {qi6 : Int} {t0 : Int32} {qt0 : Int} (hS : Sh L xs P S) (hM : qM P S = M) (ei2 : i2.toInt = qi2) (ei3 : i3.toInt = qi3) (ei4 : i4.toInt = qi4) (ei5 : i5.toInt = qi5) (ei6 : i6.toInt = qi6) (et0 : t0.toInt = qt0) {k : Nat → Int32 → Int32 → Int32 → Int32 → zm_S → Option ((Int32 × zm_S) ⊕ ((Int32) × zm_S))} : qs (zf_X2_fill_J77 20000 k 51 i2 i3 i4 i5 i6 t0 S) (qf_X2_fill_J77 20000 qi2 qi3 qi4 qi5 qi6 qt0 M) (tk (vs (rr L xs P vi) (rr L xs P vi)) (qc_X2_fill_L28 L xs P k)) := by
  unfold zf_X2_fill_J77 qf_X2_fill_J77
  refine qs_ite (c_eq et0 k_0) ?_ ?_
  · exact qs_tk ⟨_, _, _, _, _, rfl, ei2, ei3, ei4, (p_add ei5 k_1), hS, hM⟩
  · refine qs_gr hS pl_51 ts_51 rfl ?_
    refine qs_gd (fun g500 => ?_)
    refine qs_xi hM (pa_s hS (d := 56) rfl (by decide) (by decide) sf_56) ei6 g500 (fun v499 h499 => ?_)
    refine qs_ite (c_eq h499 k_m3) ?_ ?_
    · refine qs_ite (c_le k_576 ei3) ?_ ?_
      · exact qs_tk ⟨_, _, _, _, _, rfl, ei2, ei3, ei4, (p_add ei5 k_1), hS, hM⟩
      · refine qs_gr hS pl_51 ts_51 rfl ?_
        refine qs_gd (fun g503 => ?_)
        refine qs_si hS hM (pa_s hS (d := 56) rfl (by decide) (by decide) sf_56) ei6 g503 ei2 (fun S502 M502 hS502 hM502 => ?_)
        refine qs_gr hS502 pl_51 ts_51 rfl ?_
        refine qs_gd (fun g506 => ?_)
        refine qs_si hS502 hM502 (pa_p hS502 pl_725 ts_725) ei3 g506 ei6 (fun S505 M505 hS505 hM505 => ?_)
        exact qs_tk ⟨_, _, _, _, _, rfl, ei2, (p_add ei3 k_1), ei4, (p_add ei5 k_1), hS505, hM505⟩
    · exact qs_tk ⟨_, _, _, _, _, rfl, ei2, ei3, ei4, (p_add ei5 k_1), hS, hM⟩
set_option maxRecDepth 20000 in
theorem qz_X2_fill_J76 {P : Nat → Nat} {S : zm_S} {M : qm} {i2 : Int32} {qi2 : Int} {i3 : Int32} {qi3 : Int} {i4 : Int32} {qi4 : Int} {i5 : Int32} {qi5 : Int} {i6 : Int32} {qi6 : Int} (hS : Sh L xs P S) (hM : qM P S = M) (ei2 : i2.toInt = qi2) (ei3 : i3.toInt = qi3) (ei4 : i4.toInt = qi4) (ei5 : i5.toInt = qi5) (ei6 : i6.toInt = qi6) {k : Nat → Int32 → Int32 → Int32 → Int32 → zm_S → Option ((Int32 × zm_S) ⊕ ((Int32) × zm_S))} : qs (zf_X2_fill_J76 20000 k 51 i2 i3 i4 i5 i6 S) (qf_X2_fill_J76 20000 qi2 qi3 qi4 qi5 qi6 M) (tk (vs (rr L xs P vi) (rr L xs P vi)) (qc_X2_fill_L28 L xs P k)) := by
  unfold zf_X2_fill_J76 qf_X2_fill_J76
  exact (qz_X2_fill_J77 hS hM ei2 ei3 ei4 ei5 ei6 k_0)
set_option maxRecDepth 20000 in
theorem qz_X2_fill_L28_b (n : Nat) {P : Nat → Nat} {S : zm_S} {M : qm} {i2 : Int32} {qi2 : Int} {i3 : Int32} {qi3 : Int} {i4 : Int32} {qi4 : Int} {i5 : Int32} {qi5 : Int} (hS : Sh L xs P S) (hM : qM P S = M) (ei2 : i2.toInt = qi2) (ei3 : i3.toInt = qi3) (ei4 : i4.toInt = qi4) (ei5 : i5.toInt = qi5) : qs (zf_X2_fill_L28 20000 (n + 1) 51 i2 i3 i4 i5 S) (qf_X2_fill_L28_b 20000 qi2 qi3 qi4 qi5 M) (tk (vs (rr L xs P vi) (rr L xs P vi)) (qc_X2_fill_L28 L xs P (zf_X2_fill_L28 20000 n))) := by
  refine qs_eq (zf_X2_fill_L28.eq_2 ..) ?_
  unfold qf_X2_fill_L28_b
  refine qs_ite (c_le k_4 ei5) ?_ ?_
  · exact qs_tr2 (show vi _ _ from ei3) hS hM
  · refine qs_gr hS pl_51 ts_51 rfl ?_
    refine qs_gd (fun g509 => ?_)
    refine qs_xi hM (pa_p hS pl_725 ts_725) ei4 g509 (fun v508 h508 => ?_)
    refine qs_zi hS pl_51 ts_51 ?_
    refine qs_bp (qz_X2_cellBeside hS hM h508 ei5) (fun v511 S511 w511 h511 hS511 hM511 => ?_)
    refine qs_ite (c_eq h511 k_m1) ?_ ?_
    · exact (qz_X2_fill_J76 hS511 hM511 ei2 ei3 ei4 ei5 h511)
    · refine qs_gr hS511 pl_51 ts_51 rfl ?_
      refine qs_gd (fun g514 => ?_)
      refine qs_xi hM511 (pa_p hS511 pl_725 ts_725) ei4 g514 (fun v513 h513 => ?_)
      refine qs_zi hS511 pl_51 ts_51 ?_
      refine qs_bp (qz_X2_wallBeside hS511 hM511 h513 ei5) (fun v516 S516 w516 h516 hS516 hM516 => ?_)
      refine qs_ite (c_eq h516 k_m1) ?_ ?_
      · exact (qz_X2_fill_J77 hS516 hM516 ei2 ei3 ei4 ei5 h511 k_1)
      · exact (qz_X2_fill_J76 hS516 hM516 ei2 ei3 ei4 ei5 h511)
theorem qz_X2_fill_L28 (n : Nat) : ∀ {P : Nat → Nat} {S : zm_S} {M : qm} {i2 : Int32} {qi2 : Int} {i3 : Int32} {qi3 : Int} {i4 : Int32} {qi4 : Int} {i5 : Int32} {qi5 : Int} (hS : Sh L xs P S) (hM : qM P S = M) (ei2 : i2.toInt = qi2) (ei3 : i3.toInt = qi3) (ei4 : i4.toInt = qi4) (ei5 : i5.toInt = qi5), qs (zf_X2_fill_L28 20000 n 51 i2 i3 i4 i5 S) (qf_X2_fill_L28 20000 n qi2 qi3 qi4 qi5 M) (tO (vs (rr L xs P vi) (rr L xs P vi))) := by
  induction n with
  | zero =>
    intros
    exact qs_none
  | succ n ih =>
    intro P S M i2 qi2 i3 qi3 i4 qi4 i5 qi5 hS hM ei2 ei3 ei4 ei5
    unfold qf_X2_fill_L28
    refine qs_loop (C := (qc_X2_fill_L28 L xs P (zf_X2_fill_L28 20000 n))) (qz_X2_fill_L28_b n hS hM ei2 ei3 ei4 ei5) ?_
    rintro x s ⟨_, _, _, _, _, rfl, u0, u1, u2, u3, hS2, hM2⟩
    exact ih hS2 hM2 u0 u1 u2 u3
set_option maxRecDepth 20000 in
theorem qz_X2_fill_L19_b (n : Nat) {P : Nat → Nat} {S : zm_S} {M : qm} {i2 : Int32} {qi2 : Int} {i3 : Int32} {qi3 : Int} {i4 : Int32} {qi4 : Int} (hS : Sh L xs P S) (hM : qM P S = M) (ei2 : i2.toInt = qi2) (ei3 : i3.toInt = qi3) (ei4 : i4.toInt = qi4) : qs (zf_X2_fill_L19 20000 (n + 1) 51 i2 i3 i4 S) (qf_X2_fill_L19_b 20000 qi2 qi3 qi4 M) (tk (vs (rr L xs P vi) (rr L xs P vi)) (qc_X2_fill_L19 L xs P (zf_X2_fill_L19 20000 n))) := by
  refine qs_eq (zf_X2_fill_L19.eq_2 ..) ?_
  unfold qf_X2_fill_L19_b
  refine qs_ite (c_le ei3 ei4) ?_ ?_
  · exact qs_tr2 (show vi _ _ from ei3) hS hM
  · refine qs_lr (qz_X2_fill_L28 20000 hS hM ei2 ei3 ei4 k_0) ?_ ?_
    · intro v518 S518 w518 M518 h518 hS518 hM518
      dsimp only
      exact qs_tr1 h518 hS518 hM518
    · intro v518 S518 w518 M518 h518 hS518 hM518
      dsimp only
      exact qs_tk ⟨_, _, _, _, rfl, ei2, h518, (p_add ei4 k_1), hS518, hM518⟩
theorem qz_X2_fill_L19 (n : Nat) : ∀ {P : Nat → Nat} {S : zm_S} {M : qm} {i2 : Int32} {qi2 : Int} {i3 : Int32} {qi3 : Int} {i4 : Int32} {qi4 : Int} (hS : Sh L xs P S) (hM : qM P S = M) (ei2 : i2.toInt = qi2) (ei3 : i3.toInt = qi3) (ei4 : i4.toInt = qi4), qs (zf_X2_fill_L19 20000 n 51 i2 i3 i4 S) (qf_X2_fill_L19 20000 n qi2 qi3 qi4 M) (tO (vs (rr L xs P vi) (rr L xs P vi))) := by
  induction n with
  | zero =>
    intros
    exact qs_none
  | succ n ih =>
    intro P S M i2 qi2 i3 qi3 i4 qi4 hS hM ei2 ei3 ei4
    unfold qf_X2_fill_L19
    refine qs_loop (C := (qc_X2_fill_L19 L xs P (zf_X2_fill_L19 20000 n))) (qz_X2_fill_L19_b n hS hM ei2 ei3 ei4) ?_
    rintro x s ⟨_, _, _, _, rfl, u0, u1, u2, hS2, hM2⟩
    exact ih hS2 hM2 u0 u1 u2
set_option maxRecDepth 20000 in
theorem qz_X2_fill {P : Nat → Nat} {S : zm_S} {M : qm} {i1 : Int32} {qi1 : Int} {i2 : Int32} {qi2 : Int} (hS : Sh L xs P S) (hM : qM P S = M) (ei1 : i1.toInt = qi1) (ei2 : i2.toInt = qi2) : qs (zf_X2_fill 20000 51 i1 i2 S) (qf_X2_fill 20000 qi1 qi2 M) (tO (rr L xs P vi)) := by
  unfold zf_X2_fill qf_X2_fill
  refine qs_gr hS pl_51 ts_51 rfl ?_
  refine qs_gd (fun g521 => ?_)
  refine qs_si hS hM (pa_s hS (d := 56) rfl (by decide) (by decide) sf_56) ei1 g521 ei2 (fun S520 M520 hS520 hM520 => ?_)
  refine qs_gr hS520 pl_51 ts_51 rfl ?_
  refine qs_si hS520 hM520 (pa_p hS520 pl_725 ts_725) k_0 (by decide) ei1 (fun S523 M523 hS523 hM523 => ?_)
  refine qs_lr (qz_X2_fill_L19 20000 hS523 hM523 ei2 k_1 k_0) ?_ ?_
  · intro v525 S525 w525 M525 h525 hS525 hM525
    dsimp only
    exact qs_tr h525 hS525 hM525
  · intro v525 S525 w525 M525 h525 hS525 hM525
    dsimp only
    exact qs_tr (show vi _ _ from h525) hS525 hM525
set_option maxRecDepth 20000 in
theorem qz_X2_fillFromEdge {P : Nat → Nat} {S : zm_S} {M : qm} {i1 : Int32} {qi1 : Int} {i2 : Int32} {qi2 : Int} (hS : Sh L xs P S) (hM : qM P S = M) (ei1 : i1.toInt = qi1) (ei2 : i2.toInt = qi2) : qs (zf_X2_fillFromEdge 20000 51 i1 i2 S) (qf_X2_fillFromEdge 20000 qi1 qi2 M) (tO (rr L xs P vu)) := by
  unfold zf_X2_fillFromEdge qf_X2_fillFromEdge
  refine qs_gr hS pl_51 ts_51 rfl ?_
  refine qs_gd (fun g528 => ?_)
  refine qs_xi hM (pa_s hS (d := 56) rfl (by decide) (by decide) sf_56) ei1 g528 (fun v527 h527 => ?_)
  refine qs_ite (c_eq h527 k_m3) ?_ ?_
  · refine qs_zi hS pl_51 ts_51 ?_
    refine qs_bp (qz_X2_wallBeside hS hM ei1 ei2) (fun v530 S530 w530 h530 hS530 hM530 => ?_)
    refine qs_ite (c_eq h530 k_m1) ?_ ?_
    · refine qs_zi hS530 pl_51 ts_51 ?_
      refine qs_b (qz_X2_fill hS530 hM530 ei1 k_m1) (fun v532 S532 w532 M532 h532 hS532 hM532 => ?_)
      exact qs_tr (show vu _ _ from trivial) hS532 hM532
    · exact qs_tr (show vu _ _ from trivial) hS530 hM530
  · exact qs_tr (show vu _ _ from trivial) hS hM
set_option maxRecDepth 20000 in
theorem qz_X2_fillSpaces_L11_b (n : Nat) {P : Nat → Nat} {S : zm_S} {M : qm} {i1 : Int32} {qi1 : Int} (hS : Sh L xs P S) (hM : qM P S = M) (ei1 : i1.toInt = qi1) : qs (zf_X2_fillSpaces_L11 20000 (n + 1) 51 i1 S) (qf_X2_fillSpaces_L11_b 20000 qi1 M) (tk (vs (rr L xs P vu) (rr L xs P vu)) (qc_X2_fillSpaces_L11 L xs P (zf_X2_fillSpaces_L11 20000 n))) := by
  refine qs_eq (zf_X2_fillSpaces_L11.eq_2 ..) ?_
  unfold qf_X2_fillSpaces_L11_b
  refine qs_ite (c_le k_24 ei1) ?_ ?_
  · exact qs_tr2 (show vu _ _ from trivial) hS hM
  · refine qs_bp (qz_X2_cellNumber hS hM k_23 ei1) (fun v533 S533 w533 h533 hS533 hM533 => ?_)
    refine qs_zi hS533 pl_51 ts_51 ?_
    refine qs_b (qz_X2_fillFromEdge hS533 hM533 h533 k_0) (fun v535 S535 w535 M535 h535 hS535 hM535 => ?_)
    refine qs_bp (qz_X2_cellNumber hS535 hM535 k_0 ei1) (fun v536 S536 w536 h536 hS536 hM536 => ?_)
    refine qs_zi hS536 pl_51 ts_51 ?_
    refine qs_b (qz_X2_fillFromEdge hS536 hM536 h536 k_1) (fun v538 S538 w538 M538 h538 hS538 hM538 => ?_)
    refine qs_bp (qz_X2_cellNumber hS538 hM538 ei1 k_23) (fun v539 S539 w539 h539 hS539 hM539 => ?_)
    refine qs_zi hS539 pl_51 ts_51 ?_
    refine qs_b (qz_X2_fillFromEdge hS539 hM539 h539 k_2) (fun v541 S541 w541 M541 h541 hS541 hM541 => ?_)
    refine qs_bp (qz_X2_cellNumber hS541 hM541 ei1 k_0) (fun v542 S542 w542 h542 hS542 hM542 => ?_)
    refine qs_zi hS542 pl_51 ts_51 ?_
    refine qs_b (qz_X2_fillFromEdge hS542 hM542 h542 k_3) (fun v544 S544 w544 M544 h544 hS544 hM544 => ?_)
    exact qs_tk ⟨_, _, rfl, (p_add ei1 k_1), hS544, hM544⟩
theorem qz_X2_fillSpaces_L11 (n : Nat) : ∀ {P : Nat → Nat} {S : zm_S} {M : qm} {i1 : Int32} {qi1 : Int} (hS : Sh L xs P S) (hM : qM P S = M) (ei1 : i1.toInt = qi1), qs (zf_X2_fillSpaces_L11 20000 n 51 i1 S) (qf_X2_fillSpaces_L11 20000 n qi1 M) (tO (vs (rr L xs P vu) (rr L xs P vu))) := by
  induction n with
  | zero =>
    intros
    exact qs_none
  | succ n ih =>
    intro P S M i1 qi1 hS hM ei1
    unfold qf_X2_fillSpaces_L11
    refine qs_loop (C := (qc_X2_fillSpaces_L11 L xs P (zf_X2_fillSpaces_L11 20000 n))) (qz_X2_fillSpaces_L11_b n hS hM ei1) ?_
    rintro x s ⟨_, _, rfl, u0, hS2, hM2⟩
    exact ih hS2 hM2 u0
set_option maxRecDepth 20000 in
theorem qz_X2_fillSpaces_L72_b (n : Nat) {P : Nat → Nat} {S : zm_S} {M : qm} {i1 : Int32} {qi1 : Int} (hS : Sh L xs P S) (hM : qM P S = M) (ei1 : i1.toInt = qi1) : qs (zf_X2_fillSpaces_L72 20000 (n + 1) 51 i1 S) (qf_X2_fillSpaces_L72_b 20000 qi1 M) (tk (vs (rr L xs P vu) (rr L xs P vu)) (qc_X2_fillSpaces_L72 L xs P (zf_X2_fillSpaces_L72 20000 n))) := by
  refine qs_eq (zf_X2_fillSpaces_L72.eq_2 ..) ?_
  unfold qf_X2_fillSpaces_L72_b
  refine qs_ite (c_le k_576 ei1) ?_ ?_
  · exact qs_tr2 (show vu _ _ from trivial) hS hM
  · refine qs_gr hS pl_51 ts_51 rfl ?_
    refine qs_gd (fun g547 => ?_)
    refine qs_xi hM (pa_s hS (d := 56) rfl (by decide) (by decide) sf_56) ei1 g547 (fun v546 h546 => ?_)
    refine qs_ite (c_eq h546 k_m3) ?_ ?_
    · refine qs_gi hS hM pl_51 ts_51 (z := 3) rfl rfl (fun v548 h548 => ?_)
      refine qs_ite (c_le k_100 h548) ?_ ?_
      · exact qs_tk ⟨_, _, rfl, (p_add ei1 k_1), hS, hM⟩
      · refine qs_gr hS pl_51 ts_51 rfl ?_
        refine qs_gi hS hM pl_51 ts_51 (z := 3) rfl rfl (fun v550 h550 => ?_)
        refine qs_gi hS hM pl_51 ts_51 (z := 3) rfl rfl (fun v551 h551 => ?_)
        refine qs_zi hS pl_51 ts_51 ?_
        refine qs_b (qz_X2_fill hS hM ei1 h551) (fun v553 S553 w553 M553 h553 hS553 hM553 => ?_)
        refine qs_gd (fun g555 => ?_)
        refine qs_si hS553 hM553 (pa_p hS553 pl_60 ts_60) h550 g555 h553 (fun S554 M554 hS554 hM554 => ?_)
        refine qs_gi hS554 hM554 pl_51 ts_51 (z := 3) rfl rfl (fun v556 h556 => ?_)
        refine qs_pi hS554 hM554 pl_51 ts_51 (z := 3) rfl rfl (p_add h556 k_1) (fun S557 M557 hS557 hM557 => ?_)
        exact qs_tk ⟨_, _, rfl, (p_add ei1 k_1), hS557, hM557⟩
    · exact qs_tk ⟨_, _, rfl, (p_add ei1 k_1), hS, hM⟩
theorem qz_X2_fillSpaces_L72 (n : Nat) : ∀ {P : Nat → Nat} {S : zm_S} {M : qm} {i1 : Int32} {qi1 : Int} (hS : Sh L xs P S) (hM : qM P S = M) (ei1 : i1.toInt = qi1), qs (zf_X2_fillSpaces_L72 20000 n 51 i1 S) (qf_X2_fillSpaces_L72 20000 n qi1 M) (tO (vs (rr L xs P vu) (rr L xs P vu))) := by
  induction n with
  | zero =>
    intros
    exact qs_none
  | succ n ih =>
    intro P S M i1 qi1 hS hM ei1
    unfold qf_X2_fillSpaces_L72
    refine qs_loop (C := (qc_X2_fillSpaces_L72 L xs P (zf_X2_fillSpaces_L72 20000 n))) (qz_X2_fillSpaces_L72_b n hS hM ei1) ?_
    rintro x s ⟨_, _, rfl, u0, hS2, hM2⟩
    exact ih hS2 hM2 u0
set_option maxRecDepth 20000 in
theorem qz_X2_fillSpaces {P : Nat → Nat} {S : zm_S} {M : qm}  (hS : Sh L xs P S) (hM : qM P S = M)  : qs (zf_X2_fillSpaces 20000 51 S) (qf_X2_fillSpaces 20000 M) (tO (rr L xs P vu)) := by
  unfold zf_X2_fillSpaces qf_X2_fillSpaces
  refine qs_gr hS pl_51 ts_51 rfl ?_
  refine qs_fii hS hM (fun _ h => (pa_s h (d := 56) rfl (by decide) (by decide) sf_56)) (by decide) k_m3 (fun S559 M559 hS559 hM559 => ?_)
  refine qs_lr (qz_X2_fillSpaces_L11 20000 hS559 hM559 k_0) ?_ ?_
  · intro v561 S561 w561 M561 h561 hS561 hM561
    dsimp only
    exact qs_tr h561 hS561 hM561
  · intro v561 S561 w561 M561 h561 hS561 hM561
    dsimp only
    refine qs_pi hS561 hM561 pl_51 ts_51 (z := 3) rfl rfl k_0 (fun S562 M562 hS562 hM562 => ?_)
    refine qs_lr (qz_X2_fillSpaces_L72 20000 hS562 hM562 k_0) ?_ ?_
    · intro v564 S564 w564 M564 h564 hS564 hM564
      dsimp only
      exact qs_tr h564 hS564 hM564
    · intro v564 S564 w564 M564 h564 hS564 hM564
      dsimp only
      exact qs_tr (show vu _ _ from trivial) hS564 hM564
set_option maxRecDepth 20000 in
theorem qz_X2_traceRings_L12_b (n : Nat) {P : Nat → Nat} {S : zm_S} {M : qm} {i1 : Int32} {qi1 : Int} (hS : Sh L xs P S) (hM : qM P S = M) (ei1 : i1.toInt = qi1) : qs (zf_X2_traceRings_L12 20000 (n + 1) 51 i1 S) (qf_X2_traceRings_L12_b 20000 qi1 M) (tk (vs (rr L xs P vu) (rr L xs P vu)) (qc_X2_traceRings_L12 L xs P (zf_X2_traceRings_L12 20000 n))) := by
  refine qs_eq (zf_X2_traceRings_L12.eq_2 ..) ?_
  unfold qf_X2_traceRings_L12_b
  refine qs_gr hS pl_51 ts_51 rfl ?_
  refine qs_n (pa_p hS pl_724 ts_724) (by decide) (x := 2500) (by decide) (fun v566 h566 => ?_)
  refine qs_ite (c_le h566 ei1) ?_ ?_
  · exact qs_tr2 (show vu _ _ from trivial) hS hM
  · refine qs_gr hS pl_51 ts_51 rfl ?_
    refine qs_gd (fun g569 => ?_)
    refine qs_sz hS hM (pa_p hS pl_724 ts_724) ei1 g569 k_0 (by decide) (fun S568 M568 hS568 hM568 => ?_)
    exact qs_tk ⟨_, _, rfl, (p_add ei1 k_1), hS568, hM568⟩
theorem qz_X2_traceRings_L12 (n : Nat) : ∀ {P : Nat → Nat} {S : zm_S} {M : qm} {i1 : Int32} {qi1 : Int} (hS : Sh L xs P S) (hM : qM P S = M) (ei1 : i1.toInt = qi1), qs (zf_X2_traceRings_L12 20000 n 51 i1 S) (qf_X2_traceRings_L12 20000 n qi1 M) (tO (vs (rr L xs P vu) (rr L xs P vu))) := by
  induction n with
  | zero =>
    intros
    exact qs_none
  | succ n ih =>
    intro P S M i1 qi1 hS hM ei1
    unfold qf_X2_traceRings_L12
    refine qs_loop (C := (qc_X2_traceRings_L12 L xs P (zf_X2_traceRings_L12 20000 n))) (qz_X2_traceRings_L12_b n hS hM ei1) ?_
    rintro x s ⟨_, _, rfl, u0, hS2, hM2⟩
    exact ih hS2 hM2 u0
set_option maxRecDepth 20000 in
theorem qz_X2_spaceAt {P : Nat → Nat} {S : zm_S} {M : qm} {i1 : Int32} {qi1 : Int} {i2 : Int32} {qi2 : Int} (hS : Sh L xs P S) (hM : qM P S = M) (ei1 : i1.toInt = qi1) (ei2 : i2.toInt = qi2) : qs (zf_X2_spaceAt 20000 51 i1 i2 S) (qf_X2_spaceAt 20000 qi1 qi2 M) (tO (rp L xs P M vi)) := by
  unfold zf_X2_spaceAt qf_X2_spaceAt
  refine qs_ite (c_lt ei1 k_0) ?_ ?_
  · exact qs_tp (show vi _ _ from k_m1) hS hM
  · refine qs_ite (c_le k_24 ei1) ?_ ?_
    · exact qs_tp (show vi _ _ from k_m1) hS hM
    · refine qs_ite (c_lt ei2 k_0) ?_ ?_
      · exact qs_tp (show vi _ _ from k_m1) hS hM
      · refine qs_ite (c_le k_24 ei2) ?_ ?_
        · exact qs_tp (show vi _ _ from k_m1) hS hM
        · refine qs_gr hS pl_51 ts_51 rfl ?_
          refine qs_gd (fun g572 => ?_)
          refine qs_xi hM (pa_s hS (d := 56) rfl (by decide) (by decide) sf_56) (p_add (p_mul ei1 k_24) ei2) g572 (fun v571 h571 => ?_)
          exact qs_tp (show vi _ _ from h571) hS hM
set_option maxRecDepth 20000 in
theorem qz_X2_leftOf_J18 {P : Nat → Nat} {S : zm_S} {M : qm} {i2 : Int32} {qi2 : Int} {i3 : Int32} {qi3 : Int} {t1 : Int32} {qt1 : Int} (hS : Sh L xs P S) (hM : qM P S = M) (ei2 : i2.toInt = qi2) (ei3 : i3.toInt = qi3) (et1 : t1.toInt = qt1) : qs (zf_X2_leftOf_J18 20000 i2 i3 51 t1 S) (qf_X2_leftOf_J18 20000 qi2 qi3 qt1 M) (tO (rp L xs P M vi)) := by
  unfold zf_X2_leftOf_J18 qf_X2_leftOf_J18
  refine qs_ite (c_lt ei3 k_2) ?_ ?_
  · refine qs_zi hS pl_51 ts_51 ?_
    refine qs_bp (qz_X2_spaceAt hS hM et1 ei2) (fun v574 S574 w574 h574 hS574 hM574 => ?_)
    exact qs_tp (show vi _ _ from h574) hS574 hM574
  · refine qs_zi hS pl_51 ts_51 ?_
    refine qs_bp (qz_X2_spaceAt hS hM et1 (p_sub ei2 k_1)) (fun v576 S576 w576 h576 hS576 hM576 => ?_)
    exact qs_tp (show vi _ _ from h576) hS576 hM576
set_option maxRecDepth 20000 in
theorem qz_X2_leftOf_J11 {P : Nat → Nat} {S : zm_S} {M : qm} {i1 : Int32} {qi1 : Int} {i2 : Int32} {qi2 : Int} {i3 : Int32} {qi3 : Int} (hS : Sh L xs P S) (hM : qM P S = M) (ei1 : i1.toInt = qi1) (ei2 : i2.toInt = qi2) (ei3 : i3.toInt = qi3) : qs (zf_X2_leftOf_J11 20000 i1 i2 i3 51 S) (qf_X2_leftOf_J11 20000 qi1 qi2 qi3 M) (tO (rp L xs P M vi)) := by
  unfold zf_X2_leftOf_J11 qf_X2_leftOf_J11
  exact (qz_X2_leftOf_J18 hS hM ei2 ei3 (p_sub ei1 k_1))
set_option maxRecDepth 20000 in
theorem qz_X2_leftOf {P : Nat → Nat} {S : zm_S} {M : qm} {i1 : Int32} {qi1 : Int} {i2 : Int32} {qi2 : Int} {i3 : Int32} {qi3 : Int} (hS : Sh L xs P S) (hM : qM P S = M) (ei1 : i1.toInt = qi1) (ei2 : i2.toInt = qi2) (ei3 : i3.toInt = qi3) : qs (zf_X2_leftOf 20000 51 i1 i2 i3 S) (qf_X2_leftOf 20000 qi1 qi2 qi3 M) (tO (rp L xs P M vi)) := by
  unfold zf_X2_leftOf qf_X2_leftOf
  refine qs_ite (c_eq ei3 k_1) ?_ ?_
  · exact (qz_X2_leftOf_J11 hS hM ei1 ei2 ei3)
  · refine qs_ite (c_eq ei3 k_2) ?_ ?_
    · exact (qz_X2_leftOf_J11 hS hM ei1 ei2 ei3)
    · exact (qz_X2_leftOf_J18 hS hM ei2 ei3 ei1)
set_option maxRecDepth 20000 in
theorem qz_X2_pieceLength_L6_b (n : Nat) {P : Nat → Nat} {S : zm_S} {M : qm} {i1 : Int32} {qi1 : Int} {i2 : Int32} {qi2 : Int} {i3 : Int32} {qi3 : Int} {i4 : Int32} {qi4 : Int} {i5 : Int32} {qi5 : Int} (hS : Sh L xs P S) (hM : qM P S = M) (ei1 : i1.toInt = qi1) (ei2 : i2.toInt = qi2) (ei3 : i3.toInt = qi3) (ei4 : i4.toInt = qi4) (ei5 : i5.toInt = qi5) : qs (zf_X2_pieceLength_L6 20000 (n + 1) 51 i1 i2 i3 i4 i5 S) (qf_X2_pieceLength_L6_b 20000 qi1 qi2 qi3 qi4 qi5 M) (tk (vs (rp L xs P M vi) (rp L xs P M vi)) (qc_X2_pieceLength_L6 L xs P M (zf_X2_pieceLength_L6 20000 n))) := by
  refine qs_eq (zf_X2_pieceLength_L6.eq_2 ..) ?_
  unfold qf_X2_pieceLength_L6_b
  refine qs_ite (c_le k_24 ei5) ?_ ?_
  · exact qs_tp2 (show vi _ _ from ei4) hS hM
  · refine qs_zi hS pl_51 ts_51 ?_
    refine qs_bp (qz_X2_wallFrom hS hM ei1 ei2 ei3) (fun v578 S578 w578 h578 hS578 hM578 => ?_)
    refine qs_ite (c_eq h578 k_m1) ?_ ?_
    · exact qs_tp2 (show vi _ _ from ei4) hS578 hM578
    · refine qs_gd (fun g580 => ?_)
      refine qs_c2 hS578 ei3 g580 (fun v579 h579 => ?_)
      refine qs_gd (fun g582 => ?_)
      refine qs_c3 hS578 ei3 g582 (fun v581 h581 => ?_)
      refine qs_gr hS578 pl_51 ts_51 rfl ?_
      refine qs_gd (fun g585 => ?_)
      refine qs_xi hM578 (pa_p hS578 pl_55 ts_55) (p_add (p_mul (p_add ei1 h579) k_25) (p_add ei2 h581)) g585 (fun v584 h584 => ?_)
      refine qs_ite (c_eq h584 k_0) ?_ ?_
      · exact qs_tk ⟨_, _, _, _, _, _, rfl, (p_add ei1 h579), (p_add ei2 h581), ei3, (p_add ei4 k_1), (p_add ei5 k_1), hS578, hM578⟩
      · exact qs_tp1 (show vi _ _ from ei4) hS578 hM578
theorem qz_X2_pieceLength_L6 (n : Nat) : ∀ {P : Nat → Nat} {S : zm_S} {M : qm} {i1 : Int32} {qi1 : Int} {i2 : Int32} {qi2 : Int} {i3 : Int32} {qi3 : Int} {i4 : Int32} {qi4 : Int} {i5 : Int32} {qi5 : Int} (hS : Sh L xs P S) (hM : qM P S = M) (ei1 : i1.toInt = qi1) (ei2 : i2.toInt = qi2) (ei3 : i3.toInt = qi3) (ei4 : i4.toInt = qi4) (ei5 : i5.toInt = qi5), qs (zf_X2_pieceLength_L6 20000 n 51 i1 i2 i3 i4 i5 S) (qf_X2_pieceLength_L6 20000 n qi1 qi2 qi3 qi4 qi5 M) (tO (vs (rp L xs P M vi) (rp L xs P M vi))) := by
  induction n with
  | zero =>
    intros
    exact qs_none
  | succ n ih =>
    intro P S M i1 qi1 i2 qi2 i3 qi3 i4 qi4 i5 qi5 hS hM ei1 ei2 ei3 ei4 ei5
    unfold qf_X2_pieceLength_L6
    refine qs_loop (C := (qc_X2_pieceLength_L6 L xs P M (zf_X2_pieceLength_L6 20000 n))) (qz_X2_pieceLength_L6_b n hS hM ei1 ei2 ei3 ei4 ei5) ?_
    rintro x s ⟨_, _, _, _, _, _, rfl, u0, u1, u2, u3, u4, hS2, hM2⟩
    exact ih hS2 hM2 u0 u1 u2 u3 u4
set_option maxRecDepth 20000 in
theorem qz_X2_pieceLength {P : Nat → Nat} {S : zm_S} {M : qm} {i1 : Int32} {qi1 : Int} {i2 : Int32} {qi2 : Int} {i3 : Int32} {qi3 : Int} (hS : Sh L xs P S) (hM : qM P S = M) (ei1 : i1.toInt = qi1) (ei2 : i2.toInt = qi2) (ei3 : i3.toInt = qi3) : qs (zf_X2_pieceLength 20000 51 i1 i2 i3 S) (qf_X2_pieceLength 20000 qi1 qi2 qi3 M) (tO (rp L xs P M vi)) := by
  unfold zf_X2_pieceLength qf_X2_pieceLength
  refine qs_lp (qz_X2_pieceLength_L6 20000 hS hM ei1 ei2 ei3 k_1 k_1) ?_ ?_
  · intro v587 S587 w587 h587 hS587 hM587
    dsimp only
    exact qs_tp h587 hS587 hM587
  · intro v587 S587 w587 h587 hS587 hM587
    dsimp only
    exact qs_tp (show vi _ _ from h587) hS587 hM587
set_option maxRecDepth 20000 in
theorem qz_X2_rightOf_J22 {P : Nat → Nat} {S : zm_S} {M : qm} {i2 : Int32} {qi2 : Int} {t1 : Int32} {qt1 : Int} (hS : Sh L xs P S) (hM : qM P S = M) (ei2 : i2.toInt = qi2) (et1 : t1.toInt = qt1) : qs (zf_X2_rightOf_J22 20000 i2 51 t1 S) (qf_X2_rightOf_J22 20000 qi2 qt1 M) (tO (rp L xs P M vi)) := by
  unfold zf_X2_rightOf_J22 qf_X2_rightOf_J22
  refine qs_zi hS pl_51 ts_51 ?_
  refine qs_bp (qz_X2_spaceAt hS hM et1 (p_sub ei2 k_1)) (fun v589 S589 w589 h589 hS589 hM589 => ?_)
  exact qs_tp (show vi _ _ from h589) hS589 hM589
set_option maxRecDepth 20000 in
theorem qz_X2_rightOf_J13 {P : Nat → Nat} {S : zm_S} {M : qm} {i2 : Int32} {qi2 : Int} {i3 : Int32} {qi3 : Int} {t1 : Int32} {qt1 : Int} (hS : Sh L xs P S) (hM : qM P S = M) (ei2 : i2.toInt = qi2) (ei3 : i3.toInt = qi3) (et1 : t1.toInt = qt1) : qs (zf_X2_rightOf_J13 20000 i2 i3 51 t1 S) (qf_X2_rightOf_J13 20000 qi2 qi3 qt1 M) (tO (rp L xs P M vi)) := by
  unfold zf_X2_rightOf_J13 qf_X2_rightOf_J13
  refine qs_ite (c_eq ei3 k_0) ?_ ?_
  · exact (qz_X2_rightOf_J22 hS hM ei2 et1)
  · refine qs_ite (c_eq ei3 k_3) ?_ ?_
    · exact (qz_X2_rightOf_J22 hS hM ei2 et1)
    · refine qs_zi hS pl_51 ts_51 ?_
      refine qs_bp (qz_X2_spaceAt hS hM et1 ei2) (fun v591 S591 w591 h591 hS591 hM591 => ?_)
      exact qs_tp (show vi _ _ from h591) hS591 hM591
set_option maxRecDepth 20000 in
theorem qz_X2_rightOf {P : Nat → Nat} {S : zm_S} {M : qm} {i1 : Int32} {qi1 : Int} {i2 : Int32} {qi2 : Int} {i3 : Int32} {qi3 : Int} (hS : Sh L xs P S) (hM : qM P S = M) (ei1 : i1.toInt = qi1) (ei2 : i2.toInt = qi2) (ei3 : i3.toInt = qi3) : qs (zf_X2_rightOf 20000 51 i1 i2 i3 S) (qf_X2_rightOf 20000 qi1 qi2 qi3 M) (tO (rp L xs P M vi)) := by
  unfold zf_X2_rightOf qf_X2_rightOf
  refine qs_ite (c_lt ei3 k_2) ?_ ?_
  · exact (qz_X2_rightOf_J13 hS hM ei2 ei3 ei1)
  · exact (qz_X2_rightOf_J13 hS hM ei2 ei3 (p_sub ei1 k_1))
set_option maxRecDepth 20000 in
theorem qz_X2_noteSide {P : Nat → Nat} {S : zm_S} {M : qm} {i1 : Int32} {qi1 : Int} {i2 : Int32} {qi2 : Int} {i3 : Int32} {qi3 : Int} {i4 : Int32} {qi4 : Int} (hS : Sh L xs P S) (hM : qM P S = M) (ei1 : i1.toInt = qi1) (ei2 : i2.toInt = qi2) (ei3 : i3.toInt = qi3) (ei4 : i4.toInt = qi4) : qs (zf_X2_noteSide 20000 51 i1 i2 i3 i4 S) (qf_X2_noteSide 20000 qi1 qi2 qi3 qi4 M) (tO (rr L xs P vu)) := by
  unfold zf_X2_noteSide qf_X2_noteSide
  refine qs_gi hS hM pl_51 ts_51 (z := 14) rfl rfl (fun v592 h592 => ?_)
  refine qs_ite (c_le k_440 h592) ?_ ?_
  · exact qs_tr (show vu _ _ from trivial) hS hM
  · refine qs_gr hS pl_51 ts_51 rfl ?_
    refine qs_gi hS hM pl_51 ts_51 (z := 14) rfl rfl (fun v594 h594 => ?_)
    refine qs_gd (fun g596 => ?_)
    refine qs_xt hS pl_283 ts_283 (Or.inl rfl) h594 g596 (fun b595 r595 => ?_)
    refine qs_zi hS pl_51 ts_51 ?_
    refine qs_bp (qz_X2_wallFrom hS hM ei1 ei2 ei3) (fun v598 S598 w598 h598 hS598 hM598 => ?_)
    refine qs_ysi hS598 hM598 qt_283 tq_283 r595 k_0 (by decide) h598 (fun S599 M599 hS599 hM599 => ?_)
    refine qs_ysi hS599 hM599 qt_283 tq_283 r595 k_1 (by decide) ei1 (fun S600 M600 hS600 hM600 => ?_)
    refine qs_ysi hS600 hM600 qt_283 tq_283 r595 k_2 (by decide) ei2 (fun S601 M601 hS601 hM601 => ?_)
    refine qs_gd (fun g603 => ?_)
    refine qs_c2 hS601 ei3 g603 (fun v602 h602 => ?_)
    refine qs_ysi hS601 hM601 qt_283 tq_283 r595 k_3 (by decide) (p_add ei1 (p_mul ei4 h602)) (fun S604 M604 hS604 hM604 => ?_)
    refine qs_gd (fun g606 => ?_)
    refine qs_c3 hS604 ei3 g606 (fun v605 h605 => ?_)
    refine qs_ysi hS604 hM604 qt_283 tq_283 r595 k_4 (by decide) (p_add ei2 (p_mul ei4 h605)) (fun S607 M607 hS607 hM607 => ?_)
    refine qs_zi hS607 pl_51 ts_51 ?_
    refine qs_bp (qz_X2_rightOf hS607 hM607 ei1 ei2 ei3) (fun v609 S609 w609 h609 hS609 hM609 => ?_)
    refine qs_ysi hS609 hM609 qt_283 tq_283 r595 k_5 (by decide) h609 (fun S610 M610 hS610 hM610 => ?_)
    refine qs_gi hS610 hM610 pl_51 ts_51 (z := 14) rfl rfl (fun v611 h611 => ?_)
    refine qs_pi hS610 hM610 pl_51 ts_51 (z := 14) rfl rfl (p_add h611 k_1) (fun S612 M612 hS612 hM612 => ?_)
    exact qs_tr (show vu _ _ from trivial) hS612 hM612
set_option maxRecDepth 20000 in
theorem qz_X2_turnAt_L3_b (n : Nat) {P : Nat → Nat} {S : zm_S} {M : qm} {i1 : Int32} {qi1 : Int} {i2 : Int32} {qi2 : Int} {i3 : Int32} {qi3 : Int} {i4 : Int32} {qi4 : Int} (hS : Sh L xs P S) (hM : qM P S = M) (ei1 : i1.toInt = qi1) (ei2 : i2.toInt = qi2) (ei3 : i3.toInt = qi3) (ei4 : i4.toInt = qi4) : qs (zf_X2_turnAt_L3 20000 (n + 1) 51 i1 i2 i3 i4 S) (qf_X2_turnAt_L3_b 20000 qi1 qi2 qi3 qi4 M) (tk (vs (rp L xs P M vi) (rp L xs P M vu)) (qc_X2_turnAt_L3 L xs P M (zf_X2_turnAt_L3 20000 n))) := by
  refine qs_eq (zf_X2_turnAt_L3.eq_2 ..) ?_
  unfold qf_X2_turnAt_L3_b
  refine qs_cn4 hS (fun v613 h613 => ?_)
  refine qs_ite (c_le h613 ei4) ?_ ?_
  · exact qs_tp2 (show vu _ _ from trivial) hS hM
  · refine qs_gd (fun g615 => ?_)
    refine qs_c4 hS ei4 g615 (fun v614 h614 => ?_)
    refine qs_zi hS pl_51 ts_51 ?_
    refine qs_bp (qz_X2_wallFrom hS hM ei1 ei2 (p_mod (p_add ei3 h614) k_4)) (fun v617 S617 w617 h617 hS617 hM617 => ?_)
    refine qs_ite (c_eq h617 k_m1) ?_ ?_
    · exact qs_tk ⟨_, _, _, _, _, rfl, ei1, ei2, ei3, (p_add ei4 k_1), hS617, hM617⟩
    · exact qs_tp1 (show vi _ _ from (p_mod (p_add ei3 h614) k_4)) hS617 hM617
theorem qz_X2_turnAt_L3 (n : Nat) : ∀ {P : Nat → Nat} {S : zm_S} {M : qm} {i1 : Int32} {qi1 : Int} {i2 : Int32} {qi2 : Int} {i3 : Int32} {qi3 : Int} {i4 : Int32} {qi4 : Int} (hS : Sh L xs P S) (hM : qM P S = M) (ei1 : i1.toInt = qi1) (ei2 : i2.toInt = qi2) (ei3 : i3.toInt = qi3) (ei4 : i4.toInt = qi4), qs (zf_X2_turnAt_L3 20000 n 51 i1 i2 i3 i4 S) (qf_X2_turnAt_L3 20000 n qi1 qi2 qi3 qi4 M) (tO (vs (rp L xs P M vi) (rp L xs P M vu))) := by
  induction n with
  | zero =>
    intros
    exact qs_none
  | succ n ih =>
    intro P S M i1 qi1 i2 qi2 i3 qi3 i4 qi4 hS hM ei1 ei2 ei3 ei4
    unfold qf_X2_turnAt_L3
    refine qs_loop (C := (qc_X2_turnAt_L3 L xs P M (zf_X2_turnAt_L3 20000 n))) (qz_X2_turnAt_L3_b n hS hM ei1 ei2 ei3 ei4) ?_
    rintro x s ⟨_, _, _, _, _, rfl, u0, u1, u2, u3, hS2, hM2⟩
    exact ih hS2 hM2 u0 u1 u2 u3
set_option maxRecDepth 20000 in
theorem qz_X2_turnAt {P : Nat → Nat} {S : zm_S} {M : qm} {i1 : Int32} {qi1 : Int} {i2 : Int32} {qi2 : Int} {i3 : Int32} {qi3 : Int} (hS : Sh L xs P S) (hM : qM P S = M) (ei1 : i1.toInt = qi1) (ei2 : i2.toInt = qi2) (ei3 : i3.toInt = qi3) : qs (zf_X2_turnAt 20000 51 i1 i2 i3 S) (qf_X2_turnAt 20000 qi1 qi2 qi3 M) (tO (rp L xs P M vi)) := by
  unfold zf_X2_turnAt qf_X2_turnAt
  refine qs_lp (qz_X2_turnAt_L3 20000 hS hM ei1 ei2 ei3 k_0) ?_ ?_
  · intro v619 S619 w619 h619 hS619 hM619
    dsimp only
    exact qs_tp h619 hS619 hM619
  · intro v619 S619 w619 h619 hS619 hM619
    dsimp only
    exact qs_tp (show vi _ _ from ei3) hS619 hM619
set_option maxRecDepth 20000 in
theorem qz_X2_traceRing_L37_b (n : Nat) {P : Nat → Nat} {S : zm_S} {M : qm} {i3 : Int32} {qi3 : Int} {i4 : Int32} {qi4 : Int} {i5 : Int32} {qi5 : Int} {i6 : Int32} {qi6 : Int} {i7 : Int32} {qi7 : Int} {i8 : Int32} {qi8 : Int} {i9 : Int32} {qi9 : Int} (hS : Sh L xs P S) (hM : qM P S = M) (ei3 : i3.toInt = qi3) (ei4 : i4.toInt = qi4) (ei5 : i5.toInt = qi5) (ei6 : i6.toInt = qi6) (ei7 : i7.toInt = qi7) (ei8 : i8.toInt = qi8) (ei9 : i9.toInt = qi9) : qs (zf_X2_traceRing_L37 20000 (n + 1) 51 i3 i4 i5 i6 i7 i8 i9 S) (qf_X2_traceRing_L37_b 20000 qi3 qi4 qi5 qi6 qi7 qi8 qi9 M) (tk (vs (rr L xs P vu) (rr L xs P vi)) (qc_X2_traceRing_L37 L xs P (zf_X2_traceRing_L37 20000 n))) := by
  refine qs_eq (zf_X2_traceRing_L37.eq_2 ..) ?_
  unfold qf_X2_traceRing_L37_b
  refine qs_ite (c_le k_440 ei9) ?_ ?_
  · exact qs_tr2 (show vi _ _ from ei8) hS hM
  · refine qs_gr hS pl_51 ts_51 rfl ?_
    refine qs_gd (fun g622 => ?_)
    refine qs_xi hM (pa_p hS pl_724 ts_724) (p_add (p_mul k_4 (p_add (p_mul ei3 k_25) ei4)) ei5) g622 (fun v621 h621 => ?_)
    refine qs_ite (c_eq h621 k_0) ?_ ?_
    · refine qs_gr hS pl_51 ts_51 rfl ?_
      refine qs_gd (fun g625 => ?_)
      refine qs_sz hS hM (pa_p hS pl_724 ts_724) (p_add (p_mul k_4 (p_add (p_mul ei3 k_25) ei4)) ei5) g625 k_1 (by decide) (fun S624 M624 hS624 hM624 => ?_)
      refine qs_zi hS624 pl_51 ts_51 ?_
      refine qs_bp (qz_X2_pieceLength hS624 hM624 ei3 ei4 ei5) (fun v627 S627 w627 h627 hS627 hM627 => ?_)
      refine qs_zi hS627 pl_51 ts_51 ?_
      refine qs_b (qz_X2_noteSide hS627 hM627 ei3 ei4 ei5 h627) (fun v629 S629 w629 M629 h629 hS629 hM629 => ?_)
      refine qs_gd (fun g631 => ?_)
      refine qs_c2 hS629 ei5 g631 (fun v630 h630 => ?_)
      refine qs_gd (fun g633 => ?_)
      refine qs_c3 hS629 ei5 g633 (fun v632 h632 => ?_)
      refine qs_zi hS629 pl_51 ts_51 ?_
      refine qs_bp (qz_X2_turnAt hS629 hM629 (p_add ei3 (p_mul h627 h630)) (p_add ei4 (p_mul h627 h632)) ei5) (fun v635 S635 w635 h635 hS635 hM635 => ?_)
      exact qs_tk ⟨_, _, _, _, _, _, _, _, rfl, (p_add ei3 (p_mul h627 h630)), (p_add ei4 (p_mul h627 h632)), h635, ei6, ei7, (p_add ei8 h627), (p_add ei9 k_1), hS635, hM635⟩
    · exact qs_tr2 (show vi _ _ from ei8) hS hM
theorem qz_X2_traceRing_L37 (n : Nat) : ∀ {P : Nat → Nat} {S : zm_S} {M : qm} {i3 : Int32} {qi3 : Int} {i4 : Int32} {qi4 : Int} {i5 : Int32} {qi5 : Int} {i6 : Int32} {qi6 : Int} {i7 : Int32} {qi7 : Int} {i8 : Int32} {qi8 : Int} {i9 : Int32} {qi9 : Int} (hS : Sh L xs P S) (hM : qM P S = M) (ei3 : i3.toInt = qi3) (ei4 : i4.toInt = qi4) (ei5 : i5.toInt = qi5) (ei6 : i6.toInt = qi6) (ei7 : i7.toInt = qi7) (ei8 : i8.toInt = qi8) (ei9 : i9.toInt = qi9), qs (zf_X2_traceRing_L37 20000 n 51 i3 i4 i5 i6 i7 i8 i9 S) (qf_X2_traceRing_L37 20000 n qi3 qi4 qi5 qi6 qi7 qi8 qi9 M) (tO (vs (rr L xs P vu) (rr L xs P vi))) := by
  induction n with
  | zero =>
    intros
    exact qs_none
  | succ n ih =>
    intro P S M i3 qi3 i4 qi4 i5 qi5 i6 qi6 i7 qi7 i8 qi8 i9 qi9 hS hM ei3 ei4 ei5 ei6 ei7 ei8 ei9
    unfold qf_X2_traceRing_L37
    refine qs_loop (C := (qc_X2_traceRing_L37 L xs P (zf_X2_traceRing_L37 20000 n))) (qz_X2_traceRing_L37_b n hS hM ei3 ei4 ei5 ei6 ei7 ei8 ei9) ?_
    rintro x s ⟨_, _, _, _, _, _, _, _, rfl, u0, u1, u2, u3, u4, u5, u6, hS2, hM2⟩
    exact ih hS2 hM2 u0 u1 u2 u3 u4 u5 u6
set_option maxRecDepth 20000 in
theorem qz_X2_traceRing_J155 {P : Nat → Nat} {S : zm_S} {M : qm} {i6 : Int32} {qi6 : Int} {i7 : Int32} {qi7 : Int} {i8 : Int32} {qi8 : Int} (hS : Sh L xs P S) (hM : qM P S = M) (ei6 : i6.toInt = qi6) (ei7 : i7.toInt = qi7) (ei8 : i8.toInt = qi8) : qs (zf_X2_traceRing_J155 20000 51 i6 i7 i8 S) (qf_X2_traceRing_J155 20000 qi6 qi7 qi8 M) (tO (rr L xs P vu)) := by
  unfold zf_X2_traceRing_J155 qf_X2_traceRing_J155
  refine qs_gr hS pl_51 ts_51 rfl ?_
  refine qs_gi hS hM pl_51 ts_51 (z := 12) rfl rfl (fun v637 h637 => ?_)
  refine qs_gd (fun g639 => ?_)
  refine qs_xt hS pl_62 ts_62 (Or.inl rfl) h637 g639 (fun b638 r638 => ?_)
  refine qs_ysi hS hM qt_62 tq_62 r638 k_0 (by decide) ei6 (fun S640 M640 hS640 hM640 => ?_)
  refine qs_ysi hS640 hM640 qt_62 tq_62 r638 k_1 (by decide) ei7 (fun S641 M641 hS641 hM641 => ?_)
  refine qs_gi hS641 hM641 pl_51 ts_51 (z := 14) rfl rfl (fun v642 h642 => ?_)
  refine qs_ysi hS641 hM641 qt_62 tq_62 r638 k_2 (by decide) (p_sub h642 ei7) (fun S643 M643 hS643 hM643 => ?_)
  refine qs_gi hS643 hM643 pl_51 ts_51 (z := 12) rfl rfl (fun v644 h644 => ?_)
  refine qs_pi hS643 hM643 pl_51 ts_51 (z := 12) rfl rfl (p_add h644 k_1) (fun S645 M645 hS645 hM645 => ?_)
  refine qs_ite (c_lt ei6 k_0) ?_ ?_
  · exact qs_tr (show vu _ _ from trivial) hS645 hM645
  · refine qs_gr hS645 pl_51 ts_51 rfl ?_
    refine qs_gd (fun g648 => ?_)
    refine qs_xi hM645 (pa_p hS645 pl_61 ts_61) ei6 g648 (fun v647 h647 => ?_)
    refine qs_gd (fun g650 => ?_)
    refine qs_si hS645 hM645 (pa_p hS645 pl_61 ts_61) ei6 g650 (p_add h647 ei8) (fun S649 M649 hS649 hM649 => ?_)
    exact qs_tr (show vu _ _ from trivial) hS649 hM649
set_option maxRecDepth 20000 in
theorem qz_X2_traceRing {P : Nat → Nat} {S : zm_S} {M : qm} {i1 : Int32} {qi1 : Int} {i2 : Int32} {qi2 : Int} (hS : Sh L xs P S) (hM : qM P S = M) (ei1 : i1.toInt = qi1) (ei2 : i2.toInt = qi2) : qs (zf_X2_traceRing 20000 51 i1 i2 S) (qf_X2_traceRing 20000 qi1 qi2 M) (tO (rr L xs P vu)) := by
  unfold zf_X2_traceRing qf_X2_traceRing
  refine qs_zi hS pl_51 ts_51 ?_
  refine qs_bp (qz_X2_leftOf hS hM (p_div ei1 k_25 (by decide)) (p_mod ei1 k_25) ei2) (fun v652 S652 w652 h652 hS652 hM652 => ?_)
  refine qs_gi hS652 hM652 pl_51 ts_51 (z := 14) rfl rfl (fun v653 h653 => ?_)
  refine qs_lr (qz_X2_traceRing_L37 20000 hS652 hM652 (p_div ei1 k_25 (by decide)) (p_mod ei1 k_25) ei2 h652 h653 k_0 k_0) ?_ ?_
  · intro v655 S655 w655 M655 h655 hS655 hM655
    dsimp only
    exact qs_tr h655 hS655 hM655
  · intro v655 S655 w655 M655 h655 hS655 hM655
    dsimp only
    exact (qz_X2_traceRing_J155 hS655 hM655 h652 h653 h655)
set_option maxRecDepth 20000 in
theorem qz_X2_traceRings_J89 {P : Nat → Nat} {S : zm_S} {M : qm} {i1 : Int32} {qi1 : Int} {i2 : Int32} {qi2 : Int} {t0 : Int32} {qt0 : Int} (hS : Sh L xs P S) (hM : qM P S = M) (ei1 : i1.toInt = qi1) (ei2 : i2.toInt = qi2) (et0 : t0.toInt = qt0) {k : Nat → Int32 → Int32 → zm_S → Option ((Unit × zm_S) ⊕ ((Unit) × zm_S))} : qs (zf_X2_traceRings_J89 20000 k 51 i1 i2 t0 S) (qf_X2_traceRings_J89 20000 qi1 qi2 qt0 M) (tk (vs (rr L xs P vu) (rr L xs P vu)) (qc_X2_traceRings_L53 L xs P k)) := by
  unfold zf_X2_traceRings_J89 qf_X2_traceRings_J89
  refine qs_ite (c_eq et0 k_0) ?_ ?_
  · exact qs_tk ⟨_, _, _, rfl, ei1, (p_add ei2 k_1), hS, hM⟩
  · refine qs_gr hS pl_51 ts_51 rfl ?_
    refine qs_gd (fun g658 => ?_)
    refine qs_xi hM (pa_p hS pl_724 ts_724) (p_add (p_mul k_4 ei1) ei2) g658 (fun v657 h657 => ?_)
    refine qs_ite (c_eq h657 k_0) ?_ ?_
    · refine qs_gi hS hM pl_51 ts_51 (z := 12) rfl rfl (fun v659 h659 => ?_)
      refine qs_ite (c_le k_220 h659) ?_ ?_
      · exact qs_tk ⟨_, _, _, rfl, ei1, (p_add ei2 k_1), hS, hM⟩
      · refine qs_zi hS pl_51 ts_51 ?_
        refine qs_b (qz_X2_traceRing hS hM ei1 ei2) (fun v661 S661 w661 M661 h661 hS661 hM661 => ?_)
        exact qs_tk ⟨_, _, _, rfl, ei1, (p_add ei2 k_1), hS661, hM661⟩
    · exact qs_tk ⟨_, _, _, rfl, ei1, (p_add ei2 k_1), hS, hM⟩
set_option maxRecDepth 20000 in
theorem qz_X2_traceRings_J88 {P : Nat → Nat} {S : zm_S} {M : qm} {i1 : Int32} {qi1 : Int} {i2 : Int32} {qi2 : Int} (hS : Sh L xs P S) (hM : qM P S = M) (ei1 : i1.toInt = qi1) (ei2 : i2.toInt = qi2) {k : Nat → Int32 → Int32 → zm_S → Option ((Unit × zm_S) ⊕ ((Unit) × zm_S))} : qs (zf_X2_traceRings_J88 20000 k 51 i1 i2 S) (qf_X2_traceRings_J88 20000 qi1 qi2 M) (tk (vs (rr L xs P vu) (rr L xs P vu)) (qc_X2_traceRings_L53 L xs P k)) := by
  unfold zf_X2_traceRings_J88 qf_X2_traceRings_J88
  exact (qz_X2_traceRings_J89 hS hM ei1 ei2 k_0)
set_option maxRecDepth 20000 in
theorem qz_X2_traceRings_L53_b (n : Nat) {P : Nat → Nat} {S : zm_S} {M : qm} {i1 : Int32} {qi1 : Int} {i2 : Int32} {qi2 : Int} (hS : Sh L xs P S) (hM : qM P S = M) (ei1 : i1.toInt = qi1) (ei2 : i2.toInt = qi2) : qs (zf_X2_traceRings_L53 20000 (n + 1) 51 i1 i2 S) (qf_X2_traceRings_L53_b 20000 qi1 qi2 M) (tk (vs (rr L xs P vu) (rr L xs P vu)) (qc_X2_traceRings_L53 L xs P (zf_X2_traceRings_L53 20000 n))) := by
  refine qs_eq (zf_X2_traceRings_L53.eq_2 ..) ?_
  unfold qf_X2_traceRings_L53_b
  refine qs_ite (c_le k_4 ei2) ?_ ?_
  · exact qs_tr2 (show vu _ _ from trivial) hS hM
  · refine qs_gr hS pl_51 ts_51 rfl ?_
    refine qs_gd (fun g664 => ?_)
    refine qs_xi hM (pa_p hS pl_55 ts_55) ei1 g664 (fun v663 h663 => ?_)
    refine qs_ite (c_eq h663 k_0) ?_ ?_
    · exact (qz_X2_traceRings_J88 hS hM ei1 ei2)
    · refine qs_zi hS pl_51 ts_51 ?_
      refine qs_bp (qz_X2_wallFrom hS hM (p_div ei1 k_25 (by decide)) (p_mod ei1 k_25) ei2) (fun v666 S666 w666 h666 hS666 hM666 => ?_)
      refine qs_ite (c_eq h666 k_m1) ?_ ?_
      · exact (qz_X2_traceRings_J88 hS666 hM666 ei1 ei2)
      · exact (qz_X2_traceRings_J89 hS666 hM666 ei1 ei2 k_1)
theorem qz_X2_traceRings_L53 (n : Nat) : ∀ {P : Nat → Nat} {S : zm_S} {M : qm} {i1 : Int32} {qi1 : Int} {i2 : Int32} {qi2 : Int} (hS : Sh L xs P S) (hM : qM P S = M) (ei1 : i1.toInt = qi1) (ei2 : i2.toInt = qi2), qs (zf_X2_traceRings_L53 20000 n 51 i1 i2 S) (qf_X2_traceRings_L53 20000 n qi1 qi2 M) (tO (vs (rr L xs P vu) (rr L xs P vu))) := by
  induction n with
  | zero =>
    intros
    exact qs_none
  | succ n ih =>
    intro P S M i1 qi1 i2 qi2 hS hM ei1 ei2
    unfold qf_X2_traceRings_L53
    refine qs_loop (C := (qc_X2_traceRings_L53 L xs P (zf_X2_traceRings_L53 20000 n))) (qz_X2_traceRings_L53_b n hS hM ei1 ei2) ?_
    rintro x s ⟨_, _, _, rfl, u0, u1, hS2, hM2⟩
    exact ih hS2 hM2 u0 u1
set_option maxRecDepth 20000 in
theorem qz_X2_traceRings_L44_b (n : Nat) {P : Nat → Nat} {S : zm_S} {M : qm} {i1 : Int32} {qi1 : Int} (hS : Sh L xs P S) (hM : qM P S = M) (ei1 : i1.toInt = qi1) : qs (zf_X2_traceRings_L44 20000 (n + 1) 51 i1 S) (qf_X2_traceRings_L44_b 20000 qi1 M) (tk (vs (rr L xs P vu) (rr L xs P vu)) (qc_X2_traceRings_L44 L xs P (zf_X2_traceRings_L44 20000 n))) := by
  refine qs_eq (zf_X2_traceRings_L44.eq_2 ..) ?_
  unfold qf_X2_traceRings_L44_b
  refine qs_ite (c_le k_625 ei1) ?_ ?_
  · exact qs_tr2 (show vu _ _ from trivial) hS hM
  · refine qs_lr (qz_X2_traceRings_L53 20000 hS hM ei1 k_0) ?_ ?_
    · intro v668 S668 w668 M668 h668 hS668 hM668
      dsimp only
      exact qs_tr1 h668 hS668 hM668
    · intro v668 S668 w668 M668 h668 hS668 hM668
      dsimp only
      exact qs_tk ⟨_, _, rfl, (p_add ei1 k_1), hS668, hM668⟩
theorem qz_X2_traceRings_L44 (n : Nat) : ∀ {P : Nat → Nat} {S : zm_S} {M : qm} {i1 : Int32} {qi1 : Int} (hS : Sh L xs P S) (hM : qM P S = M) (ei1 : i1.toInt = qi1), qs (zf_X2_traceRings_L44 20000 n 51 i1 S) (qf_X2_traceRings_L44 20000 n qi1 M) (tO (vs (rr L xs P vu) (rr L xs P vu))) := by
  induction n with
  | zero =>
    intros
    exact qs_none
  | succ n ih =>
    intro P S M i1 qi1 hS hM ei1
    unfold qf_X2_traceRings_L44
    refine qs_loop (C := (qc_X2_traceRings_L44 L xs P (zf_X2_traceRings_L44 20000 n))) (qz_X2_traceRings_L44_b n hS hM ei1) ?_
    rintro x s ⟨_, _, rfl, u0, hS2, hM2⟩
    exact ih hS2 hM2 u0
set_option maxRecDepth 20000 in
theorem qz_X2_traceRings {P : Nat → Nat} {S : zm_S} {M : qm}  (hS : Sh L xs P S) (hM : qM P S = M)  : qs (zf_X2_traceRings 20000 51 S) (qf_X2_traceRings 20000 M) (tO (rr L xs P vu)) := by
  unfold zf_X2_traceRings qf_X2_traceRings
  refine qs_pi hS hM pl_51 ts_51 (z := 12) rfl rfl k_0 (fun S669 M669 hS669 hM669 => ?_)
  refine qs_pi hS669 hM669 pl_51 ts_51 (z := 14) rfl rfl k_0 (fun S670 M670 hS670 hM670 => ?_)
  refine qs_lr (qz_X2_traceRings_L12 20000 hS670 hM670 k_0) ?_ ?_
  · intro v672 S672 w672 M672 h672 hS672 hM672
    dsimp only
    exact qs_tr h672 hS672 hM672
  · intro v672 S672 w672 M672 h672 hS672 hM672
    dsimp only
    refine qs_gr hS672 pl_51 ts_51 rfl ?_
    refine qs_fii hS672 hM672 (fun _ h => (pa_p h pl_61 ts_61)) (by decide) k_0 (fun S674 M674 hS674 hM674 => ?_)
    refine qs_lr (qz_X2_traceRings_L44 20000 hS674 hM674 k_0) ?_ ?_
    · intro v676 S676 w676 M676 h676 hS676 hM676
      dsimp only
      exact qs_tr h676 hS676 hM676
    · intro v676 S676 w676 M676 h676 hS676 hM676
      dsimp only
      exact qs_tr (show vu _ _ from trivial) hS676 hM676
set_option maxRecDepth 20000 in
theorem qz_X2_giveNameOn_L13_b (n : Nat) {P : Nat → Nat} {S : zm_S} {M : qm} {i1 : Int32} {qi1 : Int} {i2 : Int32} {qi2 : Int} (hS : Sh L xs P S) (hM : qM P S = M) (ei1 : i1.toInt = qi1) (ei2 : i2.toInt = qi2) : qs (zf_X2_giveNameOn_L13 20000 (n + 1) 51 i1 i2 S) (qf_X2_giveNameOn_L13_b 20000 qi1 qi2 M) (tk (vs (rr L xs P vu) (rr L xs P vu)) (qc_X2_giveNameOn_L13 L xs P (zf_X2_giveNameOn_L13 20000 n))) := by
  refine qs_eq (zf_X2_giveNameOn_L13.eq_2 ..) ?_
  unfold qf_X2_giveNameOn_L13_b
  refine qs_ite (c_le k_576 ei2) ?_ ?_
  · exact qs_tr2 (show vu _ _ from trivial) hS hM
  · refine qs_gr hS pl_51 ts_51 rfl ?_
    refine qs_gd (fun g679 => ?_)
    refine qs_xi hM (pa_s hS (d := 57) rfl (by decide) (by decide) sf_57) ei2 g679 (fun v678 h678 => ?_)
    refine qs_ite (c_eq h678 ei1) ?_ ?_
    · refine qs_gr hS pl_51 ts_51 rfl ?_
      refine qs_gd (fun g682 => ?_)
      refine qs_xi hM (pa_s hS (d := 56) rfl (by decide) (by decide) sf_56) ei2 g682 (fun v681 h681 => ?_)
      refine qs_ite (c_lt h681 k_0) ?_ ?_
      · exact qs_tk ⟨_, _, _, rfl, ei1, (p_add ei2 k_1), hS, hM⟩
      · refine qs_gr hS pl_51 ts_51 rfl ?_
        refine qs_gr hS pl_51 ts_51 rfl ?_
        refine qs_gd (fun g686 => ?_)
        refine qs_xi hM (pa_s hS (d := 56) rfl (by decide) (by decide) sf_56) ei2 g686 (fun v685 h685 => ?_)
        refine qs_gd (fun g688 => ?_)
        refine qs_xi hM (pa_p hS pl_725 ts_725) h685 g688 (fun v687 h687 => ?_)
        refine qs_gd (fun g690 => ?_)
        refine qs_si hS hM (pa_p hS pl_725 ts_725) h685 g690 (p_add h687 k_1) (fun S689 M689 hS689 hM689 => ?_)
        exact qs_tk ⟨_, _, _, rfl, ei1, (p_add ei2 k_1), hS689, hM689⟩
    · exact qs_tk ⟨_, _, _, rfl, ei1, (p_add ei2 k_1), hS, hM⟩
theorem qz_X2_giveNameOn_L13 (n : Nat) : ∀ {P : Nat → Nat} {S : zm_S} {M : qm} {i1 : Int32} {qi1 : Int} {i2 : Int32} {qi2 : Int} (hS : Sh L xs P S) (hM : qM P S = M) (ei1 : i1.toInt = qi1) (ei2 : i2.toInt = qi2), qs (zf_X2_giveNameOn_L13 20000 n 51 i1 i2 S) (qf_X2_giveNameOn_L13 20000 n qi1 qi2 M) (tO (vs (rr L xs P vu) (rr L xs P vu))) := by
  induction n with
  | zero =>
    intros
    exact qs_none
  | succ n ih =>
    intro P S M i1 qi1 i2 qi2 hS hM ei1 ei2
    unfold qf_X2_giveNameOn_L13
    refine qs_loop (C := (qc_X2_giveNameOn_L13 L xs P (zf_X2_giveNameOn_L13 20000 n))) (qz_X2_giveNameOn_L13_b n hS hM ei1 ei2) ?_
    rintro x s ⟨_, _, _, rfl, u0, u1, hS2, hM2⟩
    exact ih hS2 hM2 u0 u1
set_option maxRecDepth 20000 in
theorem qz_X2_giveNameOn_L64_b (n : Nat) {P : Nat → Nat} {S : zm_S} {M : qm} {i1 : Int32} {qi1 : Int} {i2 : Int32} {qi2 : Int} {i3 : Int32} {qi3 : Int} (hS : Sh L xs P S) (hM : qM P S = M) (ei1 : i1.toInt = qi1) (ei2 : i2.toInt = qi2) (ei3 : i3.toInt = qi3) : qs (zf_X2_giveNameOn_L64 20000 (n + 1) 51 i1 i2 i3 S) (qf_X2_giveNameOn_L64_b 20000 qi1 qi2 qi3 M) (tk (vs (rp L xs P M vu) (rp L xs P M vi)) (qc_X2_giveNameOn_L64 L xs P M (zf_X2_giveNameOn_L64 20000 n))) := by
  refine qs_eq (zf_X2_giveNameOn_L64.eq_2 ..) ?_
  unfold qf_X2_giveNameOn_L64_b
  refine qs_gi hS hM pl_51 ts_51 (z := 3) rfl rfl (fun v691 h691 => ?_)
  refine qs_ite (c_le h691 ei3) ?_ ?_
  · exact qs_tp2 (show vi _ _ from ei2) hS hM
  · refine qs_gr hS pl_51 ts_51 rfl ?_
    refine qs_gd (fun g694 => ?_)
    refine qs_xi hM (pa_p hS pl_725 ts_725) ei3 g694 (fun v693 h693 => ?_)
    refine qs_gr hS pl_51 ts_51 rfl ?_
    refine qs_gd (fun g697 => ?_)
    refine qs_xi hM (pa_p hS pl_725 ts_725) ei2 g697 (fun v696 h696 => ?_)
    refine qs_ite (c_le h693 h696) ?_ ?_
    · exact qs_tk ⟨_, _, _, _, rfl, ei1, ei2, (p_add ei3 k_1), hS, hM⟩
    · exact qs_tk ⟨_, _, _, _, rfl, ei1, ei3, (p_add ei3 k_1), hS, hM⟩
theorem qz_X2_giveNameOn_L64 (n : Nat) : ∀ {P : Nat → Nat} {S : zm_S} {M : qm} {i1 : Int32} {qi1 : Int} {i2 : Int32} {qi2 : Int} {i3 : Int32} {qi3 : Int} (hS : Sh L xs P S) (hM : qM P S = M) (ei1 : i1.toInt = qi1) (ei2 : i2.toInt = qi2) (ei3 : i3.toInt = qi3), qs (zf_X2_giveNameOn_L64 20000 n 51 i1 i2 i3 S) (qf_X2_giveNameOn_L64 20000 n qi1 qi2 qi3 M) (tO (vs (rp L xs P M vu) (rp L xs P M vi))) := by
  induction n with
  | zero =>
    intros
    exact qs_none
  | succ n ih =>
    intro P S M i1 qi1 i2 qi2 i3 qi3 hS hM ei1 ei2 ei3
    unfold qf_X2_giveNameOn_L64
    refine qs_loop (C := (qc_X2_giveNameOn_L64 L xs P M (zf_X2_giveNameOn_L64 20000 n))) (qz_X2_giveNameOn_L64_b n hS hM ei1 ei2 ei3) ?_
    rintro x s ⟨_, _, _, _, rfl, u0, u1, u2, hS2, hM2⟩
    exact ih hS2 hM2 u0 u1 u2
set_option maxRecDepth 20000 in
theorem qz_X2_giveNameOn {P : Nat → Nat} {S : zm_S} {M : qm} {i1 : Int32} {qi1 : Int} (hS : Sh L xs P S) (hM : qM P S = M) (ei1 : i1.toInt = qi1) : qs (zf_X2_giveNameOn 20000 51 i1 S) (qf_X2_giveNameOn 20000 qi1 M) (tO (rr L xs P vu)) := by
  unfold zf_X2_giveNameOn qf_X2_giveNameOn
  refine qs_gr hS pl_51 ts_51 rfl ?_
  refine qs_fri hS hM (fun _ h => (pa_p h pl_725 ts_725)) (by decide) k_0 k_100 k_0 (by decide) (fun S699 M699 hS699 hM699 => ?_)
  refine qs_lr (qz_X2_giveNameOn_L13 20000 hS699 hM699 ei1 k_0) ?_ ?_
  · intro v701 S701 w701 M701 h701 hS701 hM701
    dsimp only
    exact qs_tr h701 hS701 hM701
  · intro v701 S701 w701 M701 h701 hS701 hM701
    dsimp only
    refine qs_lp (qz_X2_giveNameOn_L64 20000 hS701 hM701 ei1 k_0 k_1) ?_ ?_
    · intro v703 S703 w703 h703 hS703 hM703
      dsimp only
      exact qs_tr h703 hS703 hM703
    · intro v703 S703 w703 h703 hS703 hM703
      dsimp only
      refine qs_gr hS703 pl_51 ts_51 rfl ?_
      refine qs_gd (fun g706 => ?_)
      refine qs_xi hM703 (pa_p hS703 pl_725 ts_725) h703 g706 (fun v705 h705 => ?_)
      refine qs_gr hS703 pl_51 ts_51 rfl ?_
      refine qs_gd (fun g709 => ?_)
      refine qs_xi hM703 (pa_p hS703 pl_726 ts_726) h703 g709 (fun v708 h708 => ?_)
      refine qs_ite (c_le h705 h708) ?_ ?_
      · exact qs_tr (show vu _ _ from trivial) hS703 hM703
      · refine qs_gr hS703 pl_51 ts_51 rfl ?_
        refine qs_gr hS703 pl_51 ts_51 rfl ?_
        refine qs_gd (fun g713 => ?_)
        refine qs_xi hM703 (pa_p hS703 pl_725 ts_725) h703 g713 (fun v712 h712 => ?_)
        refine qs_gd (fun g715 => ?_)
        refine qs_si hS703 hM703 (pa_p hS703 pl_726 ts_726) h703 g715 h712 (fun S714 M714 hS714 hM714 => ?_)
        refine qs_gr hS714 pl_51 ts_51 rfl ?_
        refine qs_gr hS714 pl_51 ts_51 rfl ?_
        refine qs_gd (fun g719 => ?_)
        refine qs_xi hM714 (pa_s hS714 (d := 59) rfl (by decide) (by decide) sf_59) ei1 g719 (fun v718 h718 => ?_)
        refine qs_gd (fun g721 => ?_)
        refine qs_si hS714 hM714 (pa_s hS714 (d := 58) rfl (by decide) (by decide) sf_58) h703 g721 h718 (fun S720 M720 hS720 hM720 => ?_)
        exact qs_tr (show vu _ _ from trivial) hS720 hM720
set_option maxRecDepth 20000 in
theorem qz_X2_giveNamesOn_L18_b (n : Nat) {P : Nat → Nat} {S : zm_S} {M : qm} {i1 : Int32} {qi1 : Int} {i2 : Int32} {qi2 : Int} (hS : Sh L xs P S) (hM : qM P S = M) (ei1 : i1.toInt = qi1) (ei2 : i2.toInt = qi2) : qs (zf_X2_giveNamesOn_L18 20000 (n + 1) 51 i1 i2 S) (qf_X2_giveNamesOn_L18_b 20000 qi1 qi2 M) (tk (vs (rr L xs P vu) (rr L xs P vu)) (qc_X2_giveNamesOn_L18 L xs P (zf_X2_giveNamesOn_L18 20000 n))) := by
  refine qs_eq (zf_X2_giveNamesOn_L18.eq_2 ..) ?_
  unfold qf_X2_giveNamesOn_L18_b
  refine qs_ite (c_le ei1 ei2) ?_ ?_
  · exact qs_tr2 (show vu _ _ from trivial) hS hM
  · refine qs_gr hS pl_51 ts_51 rfl ?_
    refine qs_gd (fun g724 => ?_)
    refine qs_xi hM (pa_s hS (d := 59) rfl (by decide) (by decide) sf_59) ei2 g724 (fun v723 h723 => ?_)
    refine qs_ite (c_eq h723 k_0) ?_ ?_
    · exact qs_tk ⟨_, _, _, rfl, ei1, (p_add ei2 k_1), hS, hM⟩
    · refine qs_zi hS pl_51 ts_51 ?_
      refine qs_b (qz_X2_giveNameOn hS hM ei2) (fun v726 S726 w726 M726 h726 hS726 hM726 => ?_)
      exact qs_tk ⟨_, _, _, rfl, ei1, (p_add ei2 k_1), hS726, hM726⟩
theorem qz_X2_giveNamesOn_L18 (n : Nat) : ∀ {P : Nat → Nat} {S : zm_S} {M : qm} {i1 : Int32} {qi1 : Int} {i2 : Int32} {qi2 : Int} (hS : Sh L xs P S) (hM : qM P S = M) (ei1 : i1.toInt = qi1) (ei2 : i2.toInt = qi2), qs (zf_X2_giveNamesOn_L18 20000 n 51 i1 i2 S) (qf_X2_giveNamesOn_L18 20000 n qi1 qi2 M) (tO (vs (rr L xs P vu) (rr L xs P vu))) := by
  induction n with
  | zero =>
    intros
    exact qs_none
  | succ n ih =>
    intro P S M i1 qi1 i2 qi2 hS hM ei1 ei2
    unfold qf_X2_giveNamesOn_L18
    refine qs_loop (C := (qc_X2_giveNamesOn_L18 L xs P (zf_X2_giveNamesOn_L18 20000 n))) (qz_X2_giveNamesOn_L18_b n hS hM ei1 ei2) ?_
    rintro x s ⟨_, _, _, rfl, u0, u1, hS2, hM2⟩
    exact ih hS2 hM2 u0 u1
set_option maxRecDepth 20000 in
theorem qz_X2_giveNamesOn {P : Nat → Nat} {S : zm_S} {M : qm} {i1 : Int32} {qi1 : Int} (hS : Sh L xs P S) (hM : qM P S = M) (ei1 : i1.toInt = qi1) : qs (zf_X2_giveNamesOn 20000 51 i1 S) (qf_X2_giveNamesOn 20000 qi1 M) (tO (rr L xs P vu)) := by
  unfold zf_X2_giveNamesOn qf_X2_giveNamesOn
  refine qs_gr hS pl_51 ts_51 rfl ?_
  refine qs_fii hS hM (fun _ h => (pa_s h (d := 58) rfl (by decide) (by decide) sf_58)) (by decide) k_0 (fun S728 M728 hS728 hM728 => ?_)
  refine qs_gr hS728 pl_51 ts_51 rfl ?_
  refine qs_fii hS728 hM728 (fun _ h => (pa_p h pl_726 ts_726)) (by decide) k_0 (fun S730 M730 hS730 hM730 => ?_)
  refine qs_lr (qz_X2_giveNamesOn_L18 20000 hS730 hM730 ei1 k_0) ?_ ?_
  · intro v732 S732 w732 M732 h732 hS732 hM732
    dsimp only
    exact qs_tr h732 hS732 hM732
  · intro v732 S732 w732 M732 h732 hS732 hM732
    dsimp only
    exact qs_tr (show vu _ _ from trivial) hS732 hM732
set_option maxRecDepth 20000 in
theorem qz_X2_findSpaces {P : Nat → Nat} {S : zm_S} {M : qm}  (hS : Sh L xs P S) (hM : qM P S = M)  : qs (zf_X2_findSpaces 20000 51 S) (qf_X2_findSpaces 20000 M) (tO (re L xs vi)) := by
  unfold zf_X2_findSpaces qf_X2_findSpaces
  refine qs_gi hS hM pl_51 ts_51 (z := 3) rfl rfl (fun v733 h733 => ?_)
  refine qs_zi hS pl_51 ts_51 ?_
  refine qs_be (qz_X2_swapBefore hS hM ) (fun v735 S735 w735 M735 P735 h735 hS735 hM735 => ?_)
  refine qs_zi hS735 pl_51 ts_51 ?_
  refine qs_b (qz_X2_drawWalls hS735 hM735 ) (fun v737 S737 w737 M737 h737 hS737 hM737 => ?_)
  refine qs_zi hS737 pl_51 ts_51 ?_
  refine qs_b (qz_X2_markPoints hS737 hM737 ) (fun v739 S739 w739 M739 h739 hS739 hM739 => ?_)
  refine qs_zi hS739 pl_51 ts_51 ?_
  refine qs_b (qz_X2_fillSpaces hS739 hM739 ) (fun v741 S741 w741 M741 h741 hS741 hM741 => ?_)
  refine qs_zi hS741 pl_51 ts_51 ?_
  refine qs_b (qz_X2_traceRings hS741 hM741 ) (fun v743 S743 w743 M743 h743 hS743 hM743 => ?_)
  refine qs_zi hS743 pl_51 ts_51 ?_
  refine qs_b (qz_X2_giveNamesOn hS743 hM743 h733) (fun v745 S745 w745 M745 h745 hS745 hM745 => ?_)
  refine qs_gi hS745 hM745 pl_51 ts_51 (z := 1) rfl rfl (fun v746 h746 => ?_)
  refine qs_pi hS745 hM745 pl_51 ts_51 (z := 1) rfl rfl (p_add h746 k_1) (fun S747 M747 hS747 hM747 => ?_)
  refine qs_pi hS747 hM747 pl_51 ts_51 (z := 2) rfl rfl k_1 (fun S748 M748 hS748 hM748 => ?_)
  refine qs_gi hS748 hM748 pl_51 ts_51 (z := 3) rfl rfl (fun v749 h749 => ?_)
  exact qs_te (show vi _ _ from h749) hS748 hM748
set_option maxRecDepth 20000 in
theorem qz_X11_find_J24 {P : Nat → Nat} {S : zm_S} {M : qm} {t0 : Int32} {qt0 : Int} (hS : Sh L xs P S) (hM : qM P S = M) (et0 : t0.toInt = qt0) : qs (zf_X11_find_J24 20000 6 t0 S) (qf_X11_find_J24 20000 qt0 M) (tO (re L xs (vs vi ve))) := by
  unfold zf_X11_find_J24 qf_X11_find_J24
  refine qs_xp (qz_X11_needState hS hM et0) ?_ ?_
  · intro v751 S751 w751 h751 hS751 hM751
    dsimp only
    refine qs_gr hS751 pl_6 ts_6 rfl ?_
    refine qs_zi hS751 pl_51 ts_51 ?_
    refine qs_be (qz_X2_findSpaces hS751 hM751 ) (fun v754 S754 w754 M754 P754 h754 hS754 hM754 => ?_)
    exact qs_te (show (vs vi ve) _ _ from h754) hS754 hM754
  · intro v751 S751 hS751 hM751
    dsimp only
    exact qs_te (show (vs vi ve) _ _ from rfl) hS751 hM751
set_option maxRecDepth 20000 in
theorem qz_X11_find_J23 {P : Nat → Nat} {S : zm_S} {M : qm}  (hS : Sh L xs P S) (hM : qM P S = M)  : qs (zf_X11_find_J23 20000 6 S) (qf_X11_find_J23 20000 M) (tO (re L xs (vs vi ve))) := by
  unfold zf_X11_find_J23 qf_X11_find_J23
  exact (qz_X11_find_J24 hS hM k_0)
set_option maxRecDepth 20000 in
theorem qz_X11_find {P : Nat → Nat} {S : zm_S} {M : qm}  (hS : Sh L xs P S) (hM : qM P S = M)  : qs (zf_X11_find 20000 6 S) (qf_X11_find 20000 M) (tO (re L xs (vs vi ve))) := by
  unfold zf_X11_find qf_X11_find
  refine qs_gi hS hM pl_6 ts_6 (z := 11) rfl rfl (fun v755 h755 => ?_)
  refine qs_ite (c_eq h755 k_0) ?_ ?_
  · refine qs_gr hS pl_6 ts_6 rfl ?_
    refine qs_gi hS hM pl_51 ts_51 (z := 1) rfl rfl (fun v757 h757 => ?_)
    refine qs_ite (c_le k_60 h757) ?_ ?_
    · exact (qz_X11_find_J23 hS hM )
    · exact (qz_X11_find_J24 hS hM k_1)
  · exact (qz_X11_find_J23 hS hM )
set_option maxRecDepth 20000 in
theorem qz_L_find {P : Nat → Nat} {S : zm_S} {M : qm}  (hS : Sh L xs P S) (hM : qM P S = M)  : qs (zf_L_find 20000 6 2332 S) (qf_L_find 20000 M) (tO (re L xs vi)) := by
  unfold zf_L_find qf_L_find
  refine qs_zi hS pl_6 ts_6 ?_
  refine qs_xe (qz_X11_find hS hM ) ?_ ?_
  · intro v760 S760 w760 M760 P760 h760 hS760 hM760
    dsimp only
    refine qs_sl hS760 hM760 (pa_p hS760 pl_2332 ts_2332) k_0 (by decide) (p_64 h760) (fun S761 M761 hS761 hM761 => ?_)
    exact qs_te (show vi _ _ from k_0) hS761 hM761
  · intro v760 S760 M760 P760 hS760 hM760
    dsimp only
    refine qs_ite Iff.rfl ?_ ?_
    · exact qs_te (show vi _ _ from k_1) hS760 hM760
    · exact qs_none
set_option maxRecDepth 20000 in
theorem qz_X18_stays {P : Nat → Nat} {S : zm_S} {M : qm} {i1 : Int32} {qi1 : Int} (hS : Sh L xs P S) (hM : qM P S = M) (ei1 : i1.toInt = qi1) : qs (zf_X18_stays 20000 2156 i1 S) (qf_X18_stays 20000 qi1 M) (tO (rr L xs P vi)) := by
  unfold zf_X18_stays qf_X18_stays
  refine qs_ite (c_eq ei1 k_0) ?_ ?_
  · refine qs_pi hS hM pl_2156 ts_2156 (z := 0) rfl rfl k_1 (fun S762 M762 hS762 hM762 => ?_)
    refine qs_ite (or_congr (c_eq ei1 k_0) (c_eq ei1 k_1)) ?_ ?_
    · exact qs_tr (show vi _ _ from ei1) hS762 hM762
    · exact qs_none
  · refine qs_pi hS hM pl_2156 ts_2156 (z := 0) rfl rfl k_0 (fun S763 M763 hS763 hM763 => ?_)
    refine qs_ite (or_congr (c_eq ei1 k_0) (c_eq ei1 k_1)) ?_ ?_
    · exact qs_tr (show vi _ _ from ei1) hS763 hM763
    · exact qs_none
set_option maxRecDepth 20000 in
theorem qz_X16_turn {P : Nat → Nat} {S : zm_S} {M : qm} (hS : Sh L xs P S) (hM : qM P S = M) : qs (zf_X16_turn 20000 2157 S) (qf_X16_turn 20000 M) (tO (re L xs vu)) := by
  unfold zf_X16_turn qf_X16_turn
  refine sw_of hS hM (d1 := 2169) (d2 := 2166) rfl rfl (by decide) (by decide) (by decide) (by decide) (by decide) (sf_2169.trans sf_2166.symm) pl_2157 ts_2157 rfl rfl rfl (TS_2157 (Or.inl ⟨rfl, rfl⟩)) (by decide) (fun S1 hS1 hM1 => ?_)
  refine sw_of hS1 hM1 (d1 := 2170) (d2 := 2167) rfl rfl (by decide) (by decide) (by decide) (by decide) (by decide) (sf_2170.trans sf_2167.symm) pl_2157 ts_2157 rfl rfl rfl (TS_2157 (Or.inr (Or.inl ⟨rfl, rfl⟩))) (by decide) (fun S2 hS2 hM2 => ?_)
  refine sw_of hS2 hM2 (d1 := 2171) (d2 := 2168) rfl rfl (by decide) (by decide) (by decide) (by decide) (by decide) (sf_2171.trans sf_2168.symm) pl_2157 ts_2157 rfl rfl rfl (TS_2157 (Or.inr (Or.inr (Or.inl ⟨rfl, rfl⟩)))) (by decide) (fun S3 hS3 hM3 => ?_)
  refine sw_of hS3 hM3 (d1 := 2173) (d2 := 2172) rfl rfl (by decide) (by decide) (by decide) (by decide) (by decide) (sf_2173.trans sf_2172.symm) pl_2157 ts_2157 rfl rfl rfl (TS_2157 (Or.inr (Or.inr (Or.inr ⟨rfl, rfl⟩)))) (by decide) (fun S4 hS4 hM4 => ?_)
  refine qs_bnd ?_
  refine qs_gi hS4 hM4 pl_2157 ts_2157 (z := 12) rfl rfl (fun v4 h4 => ?_)
  refine qs_pi hS4 hM4 pl_2157 ts_2157 (z := 19) rfl rfl h4 (fun S5 M5 hS5 hM5 => ?_)
  refine qs_gi hS5 hM5 pl_2157 ts_2157 (z := 13) rfl rfl (fun v5 h5 => ?_)
  refine qs_pi hS5 hM5 pl_2157 ts_2157 (z := 20) rfl rfl h5 (fun S6 M6 hS6 hM6 => ?_)
  refine qs_gi hS6 hM6 pl_2157 ts_2157 (z := 17) rfl rfl (fun v6 h6 => ?_)
  refine qs_pi hS6 hM6 pl_2157 ts_2157 (z := 24) rfl rfl h6 (fun S7 M7 hS7 hM7 => ?_)
  refine qs_gi hS7 hM7 pl_2157 ts_2157 (z := 9) rfl rfl (fun v7 h7 => ?_)
  refine qs_gd (fun g => ?_)
  refine qs_pz hS7 hM7 pl_2157 ts_2157 (z := 18) rfl rfl h7 g (fun S8 M8 hS8 hM8 => ?_)
  exact qs_te trivial hS8 hM8
set_option maxRecDepth 20000 in
theorem qz_X16_insert_L2_b (n : Nat) {P : Nat → Nat} {S : zm_S} {M : qm} {i1 : Int32} {qi1 : Int} {i2 : Int32} {qi2 : Int} {i3 : Int32} {qi3 : Int} (hS : Sh L xs P S) (hM : qM P S = M) (ei1 : i1.toInt = qi1) (ei2 : i2.toInt = qi2) (ei3 : i3.toInt = qi3) : qs (zf_X16_insert_L2 20000 (n + 1) (P 2166) i1 i2 i3 S) (qf_X16_insert_L2_b 20000 qi1 qi2 qi3 M) (tk (vs (rp L xs P M vi) (rp L xs P M vi)) (qc_X16_insert_L2 L xs P M (zf_X16_insert_L2 20000 n))) := by
  refine qs_eq (zf_X16_insert_L2.eq_2 ..) ?_
  unfold qf_X16_insert_L2_b
  refine qs_ite (c_le ei1 ei3) ?_ ?_
  · exact qs_tp2 (show vi _ _ from ei3) hS hM
  · refine qs_gd (fun g765 => ?_)
    refine qs_xi hM (pa_s hS (d := 2166) rfl (by decide) (by decide) sf_2166) ei3 g765 (fun v764 h764 => ?_)
    refine qs_ite (c_le ei2 h764) ?_ ?_
    · exact qs_tp2 (show vi _ _ from ei3) hS hM
    · exact qs_tk ⟨_, _, _, _, rfl, ei1, ei2, (p_add ei3 k_1), hS, hM⟩
theorem qz_X16_insert_L2 (n : Nat) : ∀ {P : Nat → Nat} {S : zm_S} {M : qm} {i1 : Int32} {qi1 : Int} {i2 : Int32} {qi2 : Int} {i3 : Int32} {qi3 : Int} (hS : Sh L xs P S) (hM : qM P S = M) (ei1 : i1.toInt = qi1) (ei2 : i2.toInt = qi2) (ei3 : i3.toInt = qi3), qs (zf_X16_insert_L2 20000 n (P 2166) i1 i2 i3 S) (qf_X16_insert_L2 20000 n qi1 qi2 qi3 M) (tO (vs (rp L xs P M vi) (rp L xs P M vi))) := by
  induction n with
  | zero =>
    intros
    exact qs_none
  | succ n ih =>
    intro P S M i1 qi1 i2 qi2 i3 qi3 hS hM ei1 ei2 ei3
    unfold qf_X16_insert_L2
    refine qs_loop (C := (qc_X16_insert_L2 L xs P M (zf_X16_insert_L2 20000 n))) (qz_X16_insert_L2_b n hS hM ei1 ei2 ei3) ?_
    rintro x s ⟨_, _, _, _, rfl, u0, u1, u2, hS2, hM2⟩
    exact ih hS2 hM2 u0 u1 u2
set_option maxRecDepth 20000 in
theorem qz_X16_insert_L37_b (n : Nat) {P : Nat → Nat} {S : zm_S} {M : qm} {i1 : Int32} {qi1 : Int} {i2 : Int32} {qi2 : Int} {i3 : Int32} {qi3 : Int} {i4 : Int32} {qi4 : Int} (hS : Sh L xs P S) (hM : qM P S = M) (ei1 : i1.toInt = qi1) (ei2 : i2.toInt = qi2) (ei3 : i3.toInt = qi3) (ei4 : i4.toInt = qi4) : qs (zf_X16_insert_L37 20000 (n + 1) (P 2166) i1 i2 i3 i4 S) (qf_X16_insert_L37_b 20000 qi1 qi2 qi3 qi4 M) (tk (vs (rr L xs P vi) (rr L xs P vu)) (qc_X16_insert_L37 L xs P (zf_X16_insert_L37 20000 n))) := by
  refine qs_eq (zf_X16_insert_L37.eq_2 ..) ?_
  unfold qf_X16_insert_L37_b
  refine qs_ite (c_le ei4 ei3) ?_ ?_
  · exact qs_tr2 (show vu _ _ from trivial) hS hM
  · refine qs_gd (fun g767 => ?_)
    refine qs_xi hM (pa_s hS (d := 2166) rfl (by decide) (by decide) sf_2166) (p_sub ei4 k_1) g767 (fun v766 h766 => ?_)
    refine qs_gd (fun g769 => ?_)
    refine qs_si hS hM (pa_s hS (d := 2166) rfl (by decide) (by decide) sf_2166) ei4 g769 h766 (fun S768 M768 hS768 hM768 => ?_)
    exact qs_tk ⟨_, _, _, _, _, rfl, ei1, ei2, ei3, (p_addm ei4 k_m1), hS768, hM768⟩
theorem qz_X16_insert_L37 (n : Nat) : ∀ {P : Nat → Nat} {S : zm_S} {M : qm} {i1 : Int32} {qi1 : Int} {i2 : Int32} {qi2 : Int} {i3 : Int32} {qi3 : Int} {i4 : Int32} {qi4 : Int} (hS : Sh L xs P S) (hM : qM P S = M) (ei1 : i1.toInt = qi1) (ei2 : i2.toInt = qi2) (ei3 : i3.toInt = qi3) (ei4 : i4.toInt = qi4), qs (zf_X16_insert_L37 20000 n (P 2166) i1 i2 i3 i4 S) (qf_X16_insert_L37 20000 n qi1 qi2 qi3 qi4 M) (tO (vs (rr L xs P vi) (rr L xs P vu))) := by
  induction n with
  | zero =>
    intros
    exact qs_none
  | succ n ih =>
    intro P S M i1 qi1 i2 qi2 i3 qi3 i4 qi4 hS hM ei1 ei2 ei3 ei4
    unfold qf_X16_insert_L37
    refine qs_loop (C := (qc_X16_insert_L37 L xs P (zf_X16_insert_L37 20000 n))) (qz_X16_insert_L37_b n hS hM ei1 ei2 ei3 ei4) ?_
    rintro x s ⟨_, _, _, _, _, rfl, u0, u1, u2, u3, hS2, hM2⟩
    exact ih hS2 hM2 u0 u1 u2 u3
set_option maxRecDepth 20000 in
theorem qz_X16_insert_J34 {P : Nat → Nat} {S : zm_S} {M : qm} {i1 : Int32} {qi1 : Int} {i2 : Int32} {qi2 : Int} {i3 : Int32} {qi3 : Int} (hS : Sh L xs P S) (hM : qM P S = M) (ei1 : i1.toInt = qi1) (ei2 : i2.toInt = qi2) (ei3 : i3.toInt = qi3) : qs (zf_X16_insert_J34 20000 (P 2166) i1 i2 i3 S) (qf_X16_insert_J34 20000 qi1 qi2 qi3 M) (tO (rr L xs P vi)) := by
  unfold zf_X16_insert_J34 qf_X16_insert_J34
  refine qs_lr (qz_X16_insert_L37 20000 hS hM ei1 ei2 ei3 ei1) ?_ ?_
  · intro v771 S771 w771 M771 h771 hS771 hM771
    dsimp only
    exact qs_tr h771 hS771 hM771
  · intro v771 S771 w771 M771 h771 hS771 hM771
    dsimp only
    refine qs_gd (fun g773 => ?_)
    refine qs_si hS771 hM771 (pa_s hS771 (d := 2166) rfl (by decide) (by decide) sf_2166) ei3 g773 ei2 (fun S772 M772 hS772 hM772 => ?_)
    exact qs_tr (show vi _ _ from (p_add ei1 k_1)) hS772 hM772
set_option maxRecDepth 20000 in
theorem qz_X16_insert_J20 {P : Nat → Nat} {S : zm_S} {M : qm} {i1 : Int32} {qi1 : Int} {i2 : Int32} {qi2 : Int} {i3 : Int32} {qi3 : Int} (hS : Sh L xs P S) (hM : qM P S = M) (ei1 : i1.toInt = qi1) (ei2 : i2.toInt = qi2) (ei3 : i3.toInt = qi3) : qs (zf_X16_insert_J20 20000 (P 2166) i1 i2 i3 S) (qf_X16_insert_J20 20000 qi1 qi2 qi3 M) (tO (rr L xs P vi)) := by
  unfold zf_X16_insert_J20 qf_X16_insert_J20
  refine qs_ite (c_le ei1 ei3) ?_ ?_
  · exact (qz_X16_insert_J34 hS hM ei1 ei2 ei3)
  · refine qs_gd (fun g775 => ?_)
    refine qs_xi hM (pa_s hS (d := 2166) rfl (by decide) (by decide) sf_2166) ei3 g775 (fun v774 h774 => ?_)
    refine qs_ite (c_eq h774 ei2) ?_ ?_
    · exact qs_tr (show vi _ _ from ei1) hS hM
    · exact (qz_X16_insert_J34 hS hM ei1 ei2 ei3)
set_option maxRecDepth 20000 in
theorem qz_X16_insert {P : Nat → Nat} {S : zm_S} {M : qm} {i1 : Int32} {qi1 : Int} {i2 : Int32} {qi2 : Int} (hS : Sh L xs P S) (hM : qM P S = M) (ei1 : i1.toInt = qi1) (ei2 : i2.toInt = qi2) : qs (zf_X16_insert 20000 (P 2166) i1 i2 S) (qf_X16_insert 20000 qi1 qi2 M) (tO (rr L xs P vi)) := by
  unfold zf_X16_insert qf_X16_insert
  refine qs_lp (qz_X16_insert_L2 20000 hS hM ei1 ei2 k_0) ?_ ?_
  · intro v777 S777 w777 h777 hS777 hM777
    dsimp only
    exact qs_tr h777 hS777 hM777
  · intro v777 S777 w777 h777 hS777 hM777
    dsimp only
    exact (qz_X16_insert_J20 hS777 hM777 ei1 ei2 h777)
set_option maxRecDepth 20000 in
theorem qz_X16_insert_L2_s1_b (n : Nat) {P : Nat → Nat} {S : zm_S} {M : qm} {i1 : Int32} {qi1 : Int} {i2 : Int32} {qi2 : Int} {i3 : Int32} {qi3 : Int} (hS : Sh L xs P S) (hM : qM P S = M) (ei1 : i1.toInt = qi1) (ei2 : i2.toInt = qi2) (ei3 : i3.toInt = qi3) : qs (zf_X16_insert_L2 20000 (n + 1) (P 2167) i1 i2 i3 S) (qf_X16_insert_L2_s1_b 20000 qi1 qi2 qi3 M) (tk (vs (rp L xs P M vi) (rp L xs P M vi)) (qc_X16_insert_L2_s1 L xs P M (zf_X16_insert_L2 20000 n))) := by
  refine qs_eq (zf_X16_insert_L2.eq_2 ..) ?_
  unfold qf_X16_insert_L2_s1_b
  refine qs_ite (c_le ei1 ei3) ?_ ?_
  · exact qs_tp2 (show vi _ _ from ei3) hS hM
  · refine qs_gd (fun g779 => ?_)
    refine qs_xi hM (pa_s hS (d := 2167) rfl (by decide) (by decide) sf_2167) ei3 g779 (fun v778 h778 => ?_)
    refine qs_ite (c_le ei2 h778) ?_ ?_
    · exact qs_tp2 (show vi _ _ from ei3) hS hM
    · exact qs_tk ⟨_, _, _, _, rfl, ei1, ei2, (p_add ei3 k_1), hS, hM⟩
theorem qz_X16_insert_L2_s1 (n : Nat) : ∀ {P : Nat → Nat} {S : zm_S} {M : qm} {i1 : Int32} {qi1 : Int} {i2 : Int32} {qi2 : Int} {i3 : Int32} {qi3 : Int} (hS : Sh L xs P S) (hM : qM P S = M) (ei1 : i1.toInt = qi1) (ei2 : i2.toInt = qi2) (ei3 : i3.toInt = qi3), qs (zf_X16_insert_L2 20000 n (P 2167) i1 i2 i3 S) (qf_X16_insert_L2_s1 20000 n qi1 qi2 qi3 M) (tO (vs (rp L xs P M vi) (rp L xs P M vi))) := by
  induction n with
  | zero =>
    intros
    exact qs_none
  | succ n ih =>
    intro P S M i1 qi1 i2 qi2 i3 qi3 hS hM ei1 ei2 ei3
    unfold qf_X16_insert_L2_s1
    refine qs_loop (C := (qc_X16_insert_L2_s1 L xs P M (zf_X16_insert_L2 20000 n))) (qz_X16_insert_L2_s1_b n hS hM ei1 ei2 ei3) ?_
    rintro x s ⟨_, _, _, _, rfl, u0, u1, u2, hS2, hM2⟩
    exact ih hS2 hM2 u0 u1 u2
set_option maxRecDepth 20000 in
theorem qz_X16_insert_L37_s1_b (n : Nat) {P : Nat → Nat} {S : zm_S} {M : qm} {i1 : Int32} {qi1 : Int} {i2 : Int32} {qi2 : Int} {i3 : Int32} {qi3 : Int} {i4 : Int32} {qi4 : Int} (hS : Sh L xs P S) (hM : qM P S = M) (ei1 : i1.toInt = qi1) (ei2 : i2.toInt = qi2) (ei3 : i3.toInt = qi3) (ei4 : i4.toInt = qi4) : qs (zf_X16_insert_L37 20000 (n + 1) (P 2167) i1 i2 i3 i4 S) (qf_X16_insert_L37_s1_b 20000 qi1 qi2 qi3 qi4 M) (tk (vs (rr L xs P vi) (rr L xs P vu)) (qc_X16_insert_L37_s1 L xs P (zf_X16_insert_L37 20000 n))) := by
  refine qs_eq (zf_X16_insert_L37.eq_2 ..) ?_
  unfold qf_X16_insert_L37_s1_b
  refine qs_ite (c_le ei4 ei3) ?_ ?_
  · exact qs_tr2 (show vu _ _ from trivial) hS hM
  · refine qs_gd (fun g781 => ?_)
    refine qs_xi hM (pa_s hS (d := 2167) rfl (by decide) (by decide) sf_2167) (p_sub ei4 k_1) g781 (fun v780 h780 => ?_)
    refine qs_gd (fun g783 => ?_)
    refine qs_si hS hM (pa_s hS (d := 2167) rfl (by decide) (by decide) sf_2167) ei4 g783 h780 (fun S782 M782 hS782 hM782 => ?_)
    exact qs_tk ⟨_, _, _, _, _, rfl, ei1, ei2, ei3, (p_addm ei4 k_m1), hS782, hM782⟩
theorem qz_X16_insert_L37_s1 (n : Nat) : ∀ {P : Nat → Nat} {S : zm_S} {M : qm} {i1 : Int32} {qi1 : Int} {i2 : Int32} {qi2 : Int} {i3 : Int32} {qi3 : Int} {i4 : Int32} {qi4 : Int} (hS : Sh L xs P S) (hM : qM P S = M) (ei1 : i1.toInt = qi1) (ei2 : i2.toInt = qi2) (ei3 : i3.toInt = qi3) (ei4 : i4.toInt = qi4), qs (zf_X16_insert_L37 20000 n (P 2167) i1 i2 i3 i4 S) (qf_X16_insert_L37_s1 20000 n qi1 qi2 qi3 qi4 M) (tO (vs (rr L xs P vi) (rr L xs P vu))) := by
  induction n with
  | zero =>
    intros
    exact qs_none
  | succ n ih =>
    intro P S M i1 qi1 i2 qi2 i3 qi3 i4 qi4 hS hM ei1 ei2 ei3 ei4
    unfold qf_X16_insert_L37_s1
    refine qs_loop (C := (qc_X16_insert_L37_s1 L xs P (zf_X16_insert_L37 20000 n))) (qz_X16_insert_L37_s1_b n hS hM ei1 ei2 ei3 ei4) ?_
    rintro x s ⟨_, _, _, _, _, rfl, u0, u1, u2, u3, hS2, hM2⟩
    exact ih hS2 hM2 u0 u1 u2 u3
set_option maxRecDepth 20000 in
theorem qz_X16_insert_J34_s1 {P : Nat → Nat} {S : zm_S} {M : qm} {i1 : Int32} {qi1 : Int} {i2 : Int32} {qi2 : Int} {i3 : Int32} {qi3 : Int} (hS : Sh L xs P S) (hM : qM P S = M) (ei1 : i1.toInt = qi1) (ei2 : i2.toInt = qi2) (ei3 : i3.toInt = qi3) : qs (zf_X16_insert_J34 20000 (P 2167) i1 i2 i3 S) (qf_X16_insert_J34_s1 20000 qi1 qi2 qi3 M) (tO (rr L xs P vi)) := by
  unfold zf_X16_insert_J34 qf_X16_insert_J34_s1
  refine qs_lr (qz_X16_insert_L37_s1 20000 hS hM ei1 ei2 ei3 ei1) ?_ ?_
  · intro v785 S785 w785 M785 h785 hS785 hM785
    dsimp only
    exact qs_tr h785 hS785 hM785
  · intro v785 S785 w785 M785 h785 hS785 hM785
    dsimp only
    refine qs_gd (fun g787 => ?_)
    refine qs_si hS785 hM785 (pa_s hS785 (d := 2167) rfl (by decide) (by decide) sf_2167) ei3 g787 ei2 (fun S786 M786 hS786 hM786 => ?_)
    exact qs_tr (show vi _ _ from (p_add ei1 k_1)) hS786 hM786
set_option maxRecDepth 20000 in
theorem qz_X16_insert_J20_s1 {P : Nat → Nat} {S : zm_S} {M : qm} {i1 : Int32} {qi1 : Int} {i2 : Int32} {qi2 : Int} {i3 : Int32} {qi3 : Int} (hS : Sh L xs P S) (hM : qM P S = M) (ei1 : i1.toInt = qi1) (ei2 : i2.toInt = qi2) (ei3 : i3.toInt = qi3) : qs (zf_X16_insert_J20 20000 (P 2167) i1 i2 i3 S) (qf_X16_insert_J20_s1 20000 qi1 qi2 qi3 M) (tO (rr L xs P vi)) := by
  unfold zf_X16_insert_J20 qf_X16_insert_J20_s1
  refine qs_ite (c_le ei1 ei3) ?_ ?_
  · exact (qz_X16_insert_J34_s1 hS hM ei1 ei2 ei3)
  · refine qs_gd (fun g789 => ?_)
    refine qs_xi hM (pa_s hS (d := 2167) rfl (by decide) (by decide) sf_2167) ei3 g789 (fun v788 h788 => ?_)
    refine qs_ite (c_eq h788 ei2) ?_ ?_
    · exact qs_tr (show vi _ _ from ei1) hS hM
    · exact (qz_X16_insert_J34_s1 hS hM ei1 ei2 ei3)
set_option maxRecDepth 20000 in
theorem qz_X16_insert_s1 {P : Nat → Nat} {S : zm_S} {M : qm} {i1 : Int32} {qi1 : Int} {i2 : Int32} {qi2 : Int} (hS : Sh L xs P S) (hM : qM P S = M) (ei1 : i1.toInt = qi1) (ei2 : i2.toInt = qi2) : qs (zf_X16_insert 20000 (P 2167) i1 i2 S) (qf_X16_insert_s1 20000 qi1 qi2 M) (tO (rr L xs P vi)) := by
  unfold zf_X16_insert qf_X16_insert_s1
  refine qs_lp (qz_X16_insert_L2_s1 20000 hS hM ei1 ei2 k_0) ?_ ?_
  · intro v791 S791 w791 h791 hS791 hM791
    dsimp only
    exact qs_tr h791 hS791 hM791
  · intro v791 S791 w791 h791 hS791 hM791
    dsimp only
    exact (qz_X16_insert_J20_s1 hS791 hM791 ei1 ei2 h791)
set_option maxRecDepth 20000 in
theorem qz_X16_run_L26_b (n : Nat) {P : Nat → Nat} {S : zm_S} {M : qm} {i1 : Int32} {qi1 : Int} (hS : Sh L xs P S) (hM : qM P S = M) (ei1 : i1.toInt = qi1) : qs (zf_X16_run_L26 20000 (n + 1) 2157 i1 S) (qf_X16_run_L26_b 20000 qi1 M) (tk (vs (rr L xs P vi) (rr L xs P vu)) (qc_X16_run_L26 L xs P (zf_X16_run_L26 20000 n))) := by
  refine qs_eq (zf_X16_run_L26.eq_2 ..) ?_
  unfold qf_X16_run_L26_b
  refine qs_gi hS hM pl_2157 ts_2157 (z := 0) rfl rfl (fun v792 h792 => ?_)
  refine qs_ite (c_le h792 ei1) ?_ ?_
  · exact qs_tr2 (show vu _ _ from trivial) hS hM
  · refine qs_gr hS pl_2157 ts_2157 rfl ?_
    refine qs_gi hS hM pl_2157 ts_2157 (z := 12) rfl rfl (fun v794 h794 => ?_)
    refine qs_gr hS pl_2157 ts_2157 rfl ?_
    refine qs_gd (fun g797 => ?_)
    refine qs_xi hM (pa_p hS pl_2158 ts_2158) ei1 g797 (fun v796 h796 => ?_)
    refine qs_b (qz_X16_insert hS hM h794 h796) (fun v798 S798 w798 M798 h798 hS798 hM798 => ?_)
    refine qs_pi hS798 hM798 pl_2157 ts_2157 (z := 12) rfl rfl h798 (fun S799 M799 hS799 hM799 => ?_)
    refine qs_gr hS799 pl_2157 ts_2157 rfl ?_
    refine qs_gi hS799 hM799 pl_2157 ts_2157 (z := 12) rfl rfl (fun v801 h801 => ?_)
    refine qs_zi hS799 pl_2157 ts_2157 ?_
    refine qs_bp (qz_X16_highX hS799 hM799 ei1) (fun v803 S803 w803 h803 hS803 hM803 => ?_)
    refine qs_b (qz_X16_insert hS803 hM803 h801 h803) (fun v804 S804 w804 M804 h804 hS804 hM804 => ?_)
    refine qs_pi hS804 hM804 pl_2157 ts_2157 (z := 12) rfl rfl h804 (fun S805 M805 hS805 hM805 => ?_)
    refine qs_gr hS805 pl_2157 ts_2157 rfl ?_
    refine qs_gi hS805 hM805 pl_2157 ts_2157 (z := 13) rfl rfl (fun v807 h807 => ?_)
    refine qs_gr hS805 pl_2157 ts_2157 rfl ?_
    refine qs_gd (fun g810 => ?_)
    refine qs_xi hM805 (pa_p hS805 pl_2159 ts_2159) ei1 g810 (fun v809 h809 => ?_)
    refine qs_b (qz_X16_insert_s1 hS805 hM805 h807 h809) (fun v811 S811 w811 M811 h811 hS811 hM811 => ?_)
    refine qs_pi hS811 hM811 pl_2157 ts_2157 (z := 13) rfl rfl h811 (fun S812 M812 hS812 hM812 => ?_)
    refine qs_gr hS812 pl_2157 ts_2157 rfl ?_
    refine qs_gi hS812 hM812 pl_2157 ts_2157 (z := 13) rfl rfl (fun v814 h814 => ?_)
    refine qs_zi hS812 pl_2157 ts_2157 ?_
    refine qs_bp (qz_X16_highY hS812 hM812 ei1) (fun v816 S816 w816 h816 hS816 hM816 => ?_)
    refine qs_b (qz_X16_insert_s1 hS816 hM816 h814 h816) (fun v817 S817 w817 M817 h817 hS817 hM817 => ?_)
    refine qs_pi hS817 hM817 pl_2157 ts_2157 (z := 13) rfl rfl h817 (fun S818 M818 hS818 hM818 => ?_)
    exact qs_tk ⟨_, _, rfl, (p_add ei1 k_1), hS818, hM818⟩
theorem qz_X16_run_L26 (n : Nat) : ∀ {P : Nat → Nat} {S : zm_S} {M : qm} {i1 : Int32} {qi1 : Int} (hS : Sh L xs P S) (hM : qM P S = M) (ei1 : i1.toInt = qi1), qs (zf_X16_run_L26 20000 n 2157 i1 S) (qf_X16_run_L26 20000 n qi1 M) (tO (vs (rr L xs P vi) (rr L xs P vu))) := by
  induction n with
  | zero =>
    intros
    exact qs_none
  | succ n ih =>
    intro P S M i1 qi1 hS hM ei1
    unfold qf_X16_run_L26
    refine qs_loop (C := (qc_X16_run_L26 L xs P (zf_X16_run_L26 20000 n))) (qz_X16_run_L26_b n hS hM ei1) ?_
    rintro x s ⟨_, _, rfl, u0, hS2, hM2⟩
    exact ih hS2 hM2 u0
set_option maxRecDepth 20000 in
theorem qz_X16_fill_L2_b (n : Nat) {P : Nat → Nat} {S : zm_S} {M : qm} {i1 : Int32} {qi1 : Int} (hS : Sh L xs P S) (hM : qM P S = M) (ei1 : i1.toInt = qi1) : qs (zf_X16_fill_L2 20000 (n + 1) 2157 i1 S) (qf_X16_fill_L2_b 20000 qi1 M) (tk (vs (rr L xs P vu) (rr L xs P vu)) (qc_X16_fill_L2 L xs P (zf_X16_fill_L2 20000 n))) := by
  refine qs_eq (zf_X16_fill_L2.eq_2 ..) ?_
  unfold qf_X16_fill_L2_b
  refine qs_ite (c_le k_1764 ei1) ?_ ?_
  · exact qs_tr2 (show vu _ _ from trivial) hS hM
  · refine qs_gr hS pl_2157 ts_2157 rfl ?_
    refine qs_gd (fun g821 => ?_)
    refine qs_si hS hM (pa_s hS (d := 2168) rfl (by decide) (by decide) sf_2168) ei1 g821 ei1 (fun S820 M820 hS820 hM820 => ?_)
    exact qs_tk ⟨_, _, rfl, (p_add ei1 k_1), hS820, hM820⟩
theorem qz_X16_fill_L2 (n : Nat) : ∀ {P : Nat → Nat} {S : zm_S} {M : qm} {i1 : Int32} {qi1 : Int} (hS : Sh L xs P S) (hM : qM P S = M) (ei1 : i1.toInt = qi1), qs (zf_X16_fill_L2 20000 n 2157 i1 S) (qf_X16_fill_L2 20000 n qi1 M) (tO (vs (rr L xs P vu) (rr L xs P vu))) := by
  induction n with
  | zero =>
    intros
    exact qs_none
  | succ n ih =>
    intro P S M i1 qi1 hS hM ei1
    unfold qf_X16_fill_L2
    refine qs_loop (C := (qc_X16_fill_L2 L xs P (zf_X16_fill_L2 20000 n))) (qz_X16_fill_L2_b n hS hM ei1) ?_
    rintro x s ⟨_, _, rfl, u0, hS2, hM2⟩
    exact ih hS2 hM2 u0
set_option maxRecDepth 20000 in
theorem qz_X16_fill_J135 {P : Nat → Nat} {S : zm_S} {M : qm} {i2 : Int32} {qi2 : Int} {i3 : Int32} {qi3 : Int} {t0 : Int32} {qt0 : Int} {t1 : Int32} {qt1 : Int} (hS : Sh L xs P S) (hM : qM P S = M) (ei2 : i2.toInt = qi2) (ei3 : i3.toInt = qi3) (et0 : t0.toInt = qt0) (et1 : t1.toInt = qt1) {k : Nat → Int32 → Int32 → Int32 → zm_S → Option ((Unit × zm_S) ⊕ ((Int32) × zm_S))} : qs (zf_X16_fill_J135 20000 k 2157 i2 i3 t0 t1 S) (qf_X16_fill_J135 20000 qi2 qi3 qt0 qt1 M) (tk (vs (rr L xs P vu) (rr L xs P vi)) (qc_X16_fill_L42 L xs P k)) := by
  unfold zf_X16_fill_J135 qf_X16_fill_J135
  exact qs_tk ⟨_, _, _, _, rfl, (p_or et0 et1), ei2, (p_add ei3 k_1), hS, hM⟩
set_option maxRecDepth 20000 in
theorem qz_X16_fill_J134 {P : Nat → Nat} {S : zm_S} {M : qm} {i2 : Int32} {qi2 : Int} {i3 : Int32} {qi3 : Int} {t0 : Int32} {qt0 : Int} (hS : Sh L xs P S) (hM : qM P S = M) (ei2 : i2.toInt = qi2) (ei3 : i3.toInt = qi3) (et0 : t0.toInt = qt0) {k : Nat → Int32 → Int32 → Int32 → zm_S → Option ((Unit × zm_S) ⊕ ((Int32) × zm_S))} : qs (zf_X16_fill_J134 20000 k 2157 i2 i3 t0 S) (qf_X16_fill_J134 20000 qi2 qi3 qt0 M) (tk (vs (rr L xs P vu) (rr L xs P vi)) (qc_X16_fill_L42 L xs P k)) := by
  unfold zf_X16_fill_J134 qf_X16_fill_J134
  exact (qz_X16_fill_J135 hS hM ei2 ei3 et0 k_0)
set_option maxRecDepth 20000 in
theorem qz_X16_isShut_J200 {P : Nat → Nat} {S : zm_S} {M : qm} {i1 : Int32} {qi1 : Int} {i2 : Int32} {qi2 : Int} {i3 : Int32} {qi3 : Int} {i5 : Int32} {qi5 : Int} (hS : Sh L xs P S) (hM : qM P S = M) (ei1 : i1.toInt = qi1) (ei2 : i2.toInt = qi2) (ei3 : i3.toInt = qi3) (ei5 : i5.toInt = qi5) {k : Nat → Int32 → Int32 → Int32 → Int32 → Int32 → zm_S → Option ((Int32 × zm_S) ⊕ ((Int32) × zm_S))} : qs (zf_X16_isShut_J200 20000 k 2157 i1 i2 i3 i5 S) (qf_X16_isShut_J200 20000 qi1 qi2 qi3 qi5 M) (tk (vs (rp L xs P M vi) (rp L xs P M vi)) (qc_X16_isShut_L6 L xs P M k)) := by
  unfold zf_X16_isShut_J200 qf_X16_isShut_J200
  exact qs_tk ⟨_, _, _, _, _, _, rfl, ei1, ei2, ei3, k_0, (p_add ei5 k_1), hS, hM⟩
set_option maxRecDepth 20000 in
theorem qz_X16_isShut_J196 {P : Nat → Nat} {S : zm_S} {M : qm} {i1 : Int32} {qi1 : Int} {i2 : Int32} {qi2 : Int} {i3 : Int32} {qi3 : Int} {i5 : Int32} {qi5 : Int} (hS : Sh L xs P S) (hM : qM P S = M) (ei1 : i1.toInt = qi1) (ei2 : i2.toInt = qi2) (ei3 : i3.toInt = qi3) (ei5 : i5.toInt = qi5) {k : Nat → Int32 → Int32 → Int32 → Int32 → Int32 → zm_S → Option ((Int32 × zm_S) ⊕ ((Int32) × zm_S))} : qs (zf_X16_isShut_J196 20000 k 2157 i1 i2 i3 i5 S) (qf_X16_isShut_J196 20000 qi1 qi2 qi3 qi5 M) (tk (vs (rp L xs P M vi) (rp L xs P M vi)) (qc_X16_isShut_L6 L xs P M k)) := by
  unfold zf_X16_isShut_J196 qf_X16_isShut_J196
  exact qs_tk ⟨_, _, _, _, _, _, rfl, ei1, ei2, ei3, k_1, (p_add ei5 k_1), hS, hM⟩
set_option maxRecDepth 20000 in
theorem qz_X16_isShut_J177 {P : Nat → Nat} {S : zm_S} {M : qm} {i1 : Int32} {qi1 : Int} {i2 : Int32} {qi2 : Int} {i3 : Int32} {qi3 : Int} {i4 : Int32} {qi4 : Int} {i5 : Int32} {qi5 : Int} {i6 : Int32} {qi6 : Int} {i7 : Int32} {qi7 : Int} {t0 : Int32} {qt0 : Int} (hS : Sh L xs P S) (hM : qM P S = M) (ei1 : i1.toInt = qi1) (ei2 : i2.toInt = qi2) (ei3 : i3.toInt = qi3) (ei4 : i4.toInt = qi4) (ei5 : i5.toInt = qi5) (ei6 : i6.toInt = qi6) (ei7 : i7.toInt = qi7) (et0 : t0.toInt = qt0) {k : Nat → Int32 → Int32 → Int32 → Int32 → Int32 → zm_S → Option ((Int32 × zm_S) ⊕ ((Int32) × zm_S))} : qs (zf_X16_isShut_J177 20000 k 2157 i1 i2 i3 i4 i5 i6 i7 t0 S) (qf_X16_isShut_J177 20000 qi1 qi2 qi3 qi4 qi5 qi6 qi7 qt0 M) (tk (vs (rp L xs P M vi) (rp L xs P M vi)) (qc_X16_isShut_L6 L xs P M k)) := by
  unfold zf_X16_isShut_J177 qf_X16_isShut_J177
  refine qs_ite (c_eq ei4 k_0) ?_ ?_
  · refine qs_ite (c_eq ei6 ei7) ?_ ?_
    · refine qs_ite (c_eq et0 k_0) ?_ ?_
      · exact (qz_X16_isShut_J200 hS hM ei1 ei2 ei3 ei5)
      · exact (qz_X16_isShut_J196 hS hM ei1 ei2 ei3 ei5)
    · exact (qz_X16_isShut_J200 hS hM ei1 ei2 ei3 ei5)
  · exact (qz_X16_isShut_J196 hS hM ei1 ei2 ei3 ei5)
set_option maxRecDepth 20000 in
theorem qz_X16_isShut_J176 {P : Nat → Nat} {S : zm_S} {M : qm} {i1 : Int32} {qi1 : Int} {i2 : Int32} {qi2 : Int} {i3 : Int32} {qi3 : Int} {i4 : Int32} {qi4 : Int} {i5 : Int32} {qi5 : Int} {i6 : Int32} {qi6 : Int} {i7 : Int32} {qi7 : Int} (hS : Sh L xs P S) (hM : qM P S = M) (ei1 : i1.toInt = qi1) (ei2 : i2.toInt = qi2) (ei3 : i3.toInt = qi3) (ei4 : i4.toInt = qi4) (ei5 : i5.toInt = qi5) (ei6 : i6.toInt = qi6) (ei7 : i7.toInt = qi7) {k : Nat → Int32 → Int32 → Int32 → Int32 → Int32 → zm_S → Option ((Int32 × zm_S) ⊕ ((Int32) × zm_S))} : qs (zf_X16_isShut_J176 20000 k 2157 i1 i2 i3 i4 i5 i6 i7 S) (qf_X16_isShut_J176 20000 qi1 qi2 qi3 qi4 qi5 qi6 qi7 M) (tk (vs (rp L xs P M vi) (rp L xs P M vi)) (qc_X16_isShut_L6 L xs P M k)) := by
  unfold zf_X16_isShut_J176 qf_X16_isShut_J176
  exact (qz_X16_isShut_J177 hS hM ei1 ei2 ei3 ei4 ei5 ei6 ei7 k_0)
set_option maxRecDepth 20000 in
theorem qz_X16_isShut_J123 {P : Nat → Nat} {S : zm_S} {M : qm} {i1 : Int32} {qi1 : Int} {i2 : Int32} {qi2 : Int} {i3 : Int32} {qi3 : Int} {i4 : Int32} {qi4 : Int} {i5 : Int32} {qi5 : Int} {i6 : Int32} {qi6 : Int} {i7 : Int32} {qi7 : Int} (hS : Sh L xs P S) (hM : qM P S = M) (ei1 : i1.toInt = qi1) (ei2 : i2.toInt = qi2) (ei3 : i3.toInt = qi3) (ei4 : i4.toInt = qi4) (ei5 : i5.toInt = qi5) (ei6 : i6.toInt = qi6) (ei7 : i7.toInt = qi7) {k : Nat → Int32 → Int32 → Int32 → Int32 → Int32 → zm_S → Option ((Int32 × zm_S) ⊕ ((Int32) × zm_S))} : qs (zf_X16_isShut_J123 20000 k 2157 i1 i2 i3 i4 i5 i6 i7 S) (qf_X16_isShut_J123 20000 qi1 qi2 qi3 qi4 qi5 qi6 qi7 M) (tk (vs (rp L xs P M vi) (rp L xs P M vi)) (qc_X16_isShut_L6 L xs P M k)) := by
  unfold zf_X16_isShut_J123 qf_X16_isShut_J123
  exact (qz_X16_isShut_J177 hS hM ei1 ei2 ei3 ei4 ei5 ei6 ei7 k_0)
set_option maxRecDepth 20000 in
theorem qz_X16_isShut_J68 {P : Nat → Nat} {S : zm_S} {M : qm} {i1 : Int32} {qi1 : Int} {i2 : Int32} {qi2 : Int} {i3 : Int32} {qi3 : Int} {i4 : Int32} {qi4 : Int} {i5 : Int32} {qi5 : Int} {i6 : Int32} {qi6 : Int} {t0 : Int32} {qt0 : Int} (hS : Sh L xs P S) (hM : qM P S = M) (ei1 : i1.toInt = qi1) (ei2 : i2.toInt = qi2) (ei3 : i3.toInt = qi3) (ei4 : i4.toInt = qi4) (ei5 : i5.toInt = qi5) (ei6 : i6.toInt = qi6) (et0 : t0.toInt = qt0) {k : Nat → Int32 → Int32 → Int32 → Int32 → Int32 → zm_S → Option ((Int32 × zm_S) ⊕ ((Int32) × zm_S))} : qs (zf_X16_isShut_J68 20000 k 2157 i1 i2 i3 i4 i5 i6 t0 S) (qf_X16_isShut_J68 20000 qi1 qi2 qi3 qi4 qi5 qi6 qt0 M) (tk (vs (rp L xs P M vi) (rp L xs P M vi)) (qc_X16_isShut_L6 L xs P M k)) := by
  unfold zf_X16_isShut_J68 qf_X16_isShut_J68
  refine qs_ite (c_eq ei3 k_0) ?_ ?_
  · refine qs_ite (c_le ei1 k_0) ?_ ?_
    · exact (qz_X16_isShut_J176 hS hM ei1 ei2 ei3 ei4 ei5 ei6 et0)
    · refine qs_gi hS hM pl_2157 ts_2157 (z := 12) rfl rfl (fun v822 h822 => ?_)
      refine qs_ite (c_le h822 ei1) ?_ ?_
      · exact (qz_X16_isShut_J176 hS hM ei1 ei2 ei3 ei4 ei5 ei6 et0)
      · refine qs_gr hS pl_2157 ts_2157 rfl ?_
        refine qs_gd (fun g825 => ?_)
        refine qs_xi hM (pa_p hS pl_2158 ts_2158) ei5 g825 (fun v824 h824 => ?_)
        refine qs_gr hS pl_2157 ts_2157 rfl ?_
        refine qs_gd (fun g828 => ?_)
        refine qs_xi hM (pa_s hS (d := 2166) rfl (by decide) (by decide) sf_2166) (p_sub ei1 k_1) g828 (fun v827 h827 => ?_)
        refine qs_ite (c_lt h827 h824) ?_ ?_
        · exact (qz_X16_isShut_J176 hS hM ei1 ei2 ei3 ei4 ei5 ei6 et0)
        · refine qs_zi hS pl_2157 ts_2157 ?_
          refine qs_bp (qz_X16_highX hS hM ei5) (fun v830 S830 w830 h830 hS830 hM830 => ?_)
          refine qs_gr hS830 pl_2157 ts_2157 rfl ?_
          refine qs_gd (fun g833 => ?_)
          refine qs_xi hM830 (pa_s hS830 (d := 2166) rfl (by decide) (by decide) sf_2166) ei1 g833 (fun v832 h832 => ?_)
          refine qs_ite (c_lt h830 h832) ?_ ?_
          · exact (qz_X16_isShut_J176 hS830 hM830 ei1 ei2 ei3 ei4 ei5 ei6 et0)
          · exact (qz_X16_isShut_J177 hS830 hM830 ei1 ei2 ei3 ei4 ei5 ei6 et0 k_1)
  · refine qs_ite (c_le ei2 k_0) ?_ ?_
    · exact (qz_X16_isShut_J123 hS hM ei1 ei2 ei3 ei4 ei5 ei6 et0)
    · refine qs_gi hS hM pl_2157 ts_2157 (z := 13) rfl rfl (fun v834 h834 => ?_)
      refine qs_ite (c_le h834 ei2) ?_ ?_
      · exact (qz_X16_isShut_J123 hS hM ei1 ei2 ei3 ei4 ei5 ei6 et0)
      · refine qs_gr hS pl_2157 ts_2157 rfl ?_
        refine qs_gd (fun g837 => ?_)
        refine qs_xi hM (pa_p hS pl_2159 ts_2159) ei5 g837 (fun v836 h836 => ?_)
        refine qs_gr hS pl_2157 ts_2157 rfl ?_
        refine qs_gd (fun g840 => ?_)
        refine qs_xi hM (pa_s hS (d := 2167) rfl (by decide) (by decide) sf_2167) (p_sub ei2 k_1) g840 (fun v839 h839 => ?_)
        refine qs_ite (c_lt h839 h836) ?_ ?_
        · exact (qz_X16_isShut_J123 hS hM ei1 ei2 ei3 ei4 ei5 ei6 et0)
        · refine qs_zi hS pl_2157 ts_2157 ?_
          refine qs_bp (qz_X16_highY hS hM ei5) (fun v842 S842 w842 h842 hS842 hM842 => ?_)
          refine qs_gr hS842 pl_2157 ts_2157 rfl ?_
          refine qs_gd (fun g845 => ?_)
          refine qs_xi hM842 (pa_s hS842 (d := 2167) rfl (by decide) (by decide) sf_2167) ei2 g845 (fun v844 h844 => ?_)
          refine qs_ite (c_lt h842 h844) ?_ ?_
          · exact (qz_X16_isShut_J123 hS842 hM842 ei1 ei2 ei3 ei4 ei5 ei6 et0)
          · exact (qz_X16_isShut_J177 hS842 hM842 ei1 ei2 ei3 ei4 ei5 ei6 et0 k_1)
set_option maxRecDepth 20000 in
theorem qz_X16_isShut_J47 {P : Nat → Nat} {S : zm_S} {M : qm} {i1 : Int32} {qi1 : Int} {i2 : Int32} {qi2 : Int} {i3 : Int32} {qi3 : Int} {i4 : Int32} {qi4 : Int} {i5 : Int32} {qi5 : Int} {t0 : Int32} {qt0 : Int} (hS : Sh L xs P S) (hM : qM P S = M) (ei1 : i1.toInt = qi1) (ei2 : i2.toInt = qi2) (ei3 : i3.toInt = qi3) (ei4 : i4.toInt = qi4) (ei5 : i5.toInt = qi5) (et0 : t0.toInt = qt0) {k : Nat → Int32 → Int32 → Int32 → Int32 → Int32 → zm_S → Option ((Int32 × zm_S) ⊕ ((Int32) × zm_S))} : qs (zf_X16_isShut_J47 20000 k 2157 i1 i2 i3 i4 i5 t0 S) (qf_X16_isShut_J47 20000 qi1 qi2 qi3 qi4 qi5 qt0 M) (tk (vs (rp L xs P M vi) (rp L xs P M vi)) (qc_X16_isShut_L6 L xs P M k)) := by
  unfold zf_X16_isShut_J47 qf_X16_isShut_J47
  refine qs_ite (c_eq ei3 k_0) ?_ ?_
  · refine qs_gr hS pl_2157 ts_2157 rfl ?_
    refine qs_gd (fun g848 => ?_)
    refine qs_xi hM (pa_s hS (d := 2167) rfl (by decide) (by decide) sf_2167) ei2 g848 (fun v847 h847 => ?_)
    exact (qz_X16_isShut_J68 hS hM ei1 ei2 ei3 ei4 ei5 et0 h847)
  · refine qs_gr hS pl_2157 ts_2157 rfl ?_
    refine qs_gd (fun g851 => ?_)
    refine qs_xi hM (pa_s hS (d := 2166) rfl (by decide) (by decide) sf_2166) ei1 g851 (fun v850 h850 => ?_)
    exact (qz_X16_isShut_J68 hS hM ei1 ei2 ei3 ei4 ei5 et0 h850)
set_option maxRecDepth 20000 in
theorem qz_X16_isShut_L6_b (n : Nat) {P : Nat → Nat} {S : zm_S} {M : qm} {i1 : Int32} {qi1 : Int} {i2 : Int32} {qi2 : Int} {i3 : Int32} {qi3 : Int} {i4 : Int32} {qi4 : Int} {i5 : Int32} {qi5 : Int} (hS : Sh L xs P S) (hM : qM P S = M) (ei1 : i1.toInt = qi1) (ei2 : i2.toInt = qi2) (ei3 : i3.toInt = qi3) (ei4 : i4.toInt = qi4) (ei5 : i5.toInt = qi5) : qs (zf_X16_isShut_L6 20000 (n + 1) 2157 i1 i2 i3 i4 i5 S) (qf_X16_isShut_L6_b 20000 qi1 qi2 qi3 qi4 qi5 M) (tk (vs (rp L xs P M vi) (rp L xs P M vi)) (qc_X16_isShut_L6 L xs P M (zf_X16_isShut_L6 20000 n))) := by
  refine qs_eq (zf_X16_isShut_L6.eq_2 ..) ?_
  unfold qf_X16_isShut_L6_b
  refine qs_gi hS hM pl_2157 ts_2157 (z := 0) rfl rfl (fun v852 h852 => ?_)
  refine qs_ite (c_le h852 ei5) ?_ ?_
  · exact qs_tp2 (show vi _ _ from ei4) hS hM
  · refine qs_gr hS pl_2157 ts_2157 rfl ?_
    refine qs_gd (fun g855 => ?_)
    refine qs_xi hM (pa_p hS pl_2160 ts_2160) ei5 g855 (fun v854 h854 => ?_)
    refine qs_ite (c_eq h854 ei3) ?_ ?_
    · exact qs_tk ⟨_, _, _, _, _, _, rfl, ei1, ei2, ei3, ei4, (p_add ei5 k_1), hS, hM⟩
    · refine qs_ite (c_eq ei3 k_0) ?_ ?_
      · refine qs_gr hS pl_2157 ts_2157 rfl ?_
        refine qs_gd (fun g858 => ?_)
        refine qs_xi hM (pa_p hS pl_2159 ts_2159) ei5 g858 (fun v857 h857 => ?_)
        exact (qz_X16_isShut_J47 hS hM ei1 ei2 ei3 ei4 ei5 h857)
      · refine qs_gr hS pl_2157 ts_2157 rfl ?_
        refine qs_gd (fun g861 => ?_)
        refine qs_xi hM (pa_p hS pl_2158 ts_2158) ei5 g861 (fun v860 h860 => ?_)
        exact (qz_X16_isShut_J47 hS hM ei1 ei2 ei3 ei4 ei5 h860)
theorem qz_X16_isShut_L6 (n : Nat) : ∀ {P : Nat → Nat} {S : zm_S} {M : qm} {i1 : Int32} {qi1 : Int} {i2 : Int32} {qi2 : Int} {i3 : Int32} {qi3 : Int} {i4 : Int32} {qi4 : Int} {i5 : Int32} {qi5 : Int} (hS : Sh L xs P S) (hM : qM P S = M) (ei1 : i1.toInt = qi1) (ei2 : i2.toInt = qi2) (ei3 : i3.toInt = qi3) (ei4 : i4.toInt = qi4) (ei5 : i5.toInt = qi5), qs (zf_X16_isShut_L6 20000 n 2157 i1 i2 i3 i4 i5 S) (qf_X16_isShut_L6 20000 n qi1 qi2 qi3 qi4 qi5 M) (tO (vs (rp L xs P M vi) (rp L xs P M vi))) := by
  induction n with
  | zero =>
    intros
    exact qs_none
  | succ n ih =>
    intro P S M i1 qi1 i2 qi2 i3 qi3 i4 qi4 i5 qi5 hS hM ei1 ei2 ei3 ei4 ei5
    unfold qf_X16_isShut_L6
    refine qs_loop (C := (qc_X16_isShut_L6 L xs P M (zf_X16_isShut_L6 20000 n))) (qz_X16_isShut_L6_b n hS hM ei1 ei2 ei3 ei4 ei5) ?_
    rintro x s ⟨_, _, _, _, _, _, rfl, u0, u1, u2, u3, u4, hS2, hM2⟩
    exact ih hS2 hM2 u0 u1 u2 u3 u4
set_option maxRecDepth 20000 in
theorem qz_X16_isShut {P : Nat → Nat} {S : zm_S} {M : qm} {i1 : Int32} {qi1 : Int} {i2 : Int32} {qi2 : Int} {i3 : Int32} {qi3 : Int} (hS : Sh L xs P S) (hM : qM P S = M) (ei1 : i1.toInt = qi1) (ei2 : i2.toInt = qi2) (ei3 : i3.toInt = qi3) : qs (zf_X16_isShut 20000 2157 i1 i2 i3 S) (qf_X16_isShut 20000 qi1 qi2 qi3 M) (tO (rp L xs P M vi)) := by
  unfold zf_X16_isShut qf_X16_isShut
  refine qs_lp (qz_X16_isShut_L6 20000 hS hM ei1 ei2 ei3 k_0 k_0) ?_ ?_
  · intro v863 S863 w863 h863 hS863 hM863
    dsimp only
    exact qs_tp h863 hS863 hM863
  · intro v863 S863 w863 h863 hS863 hM863
    dsimp only
    refine qs_ite (or_congr (c_eq h863 k_0) (c_eq h863 k_1)) ?_ ?_
    · exact qs_tp (show vi _ _ from h863) hS863 hM863
    · exact qs_none
set_option maxRecDepth 20000 in
theorem qz_X16_join_J51 {P : Nat → Nat} {S : zm_S} {M : qm} {i1 : Int32} {qi1 : Int} {i2 : Int32} {qi2 : Int} {i3 : Int32} {qi3 : Int} {t0 : Int32} {qt0 : Int} (hS : Sh L xs P S) (hM : qM P S = M) (ei1 : i1.toInt = qi1) (ei2 : i2.toInt = qi2) (ei3 : i3.toInt = qi3) (et0 : t0.toInt = qt0) : qs (zf_X16_join_J51 20000 2157 i1 i2 i3 t0 S) (qf_X16_join_J51 20000 qi1 qi2 qi3 qt0 M) (tO (rr L xs P vi)) := by
  unfold zf_X16_join_J51 qf_X16_join_J51
  refine qs_gr hS pl_2157 ts_2157 rfl ?_
  refine qs_gd (fun g866 => ?_)
  refine qs_si hS hM (pa_s hS (d := 2168) rfl (by decide) (by decide) sf_2168) ei1 g866 ei3 (fun S865 M865 hS865 hM865 => ?_)
  refine qs_gr hS865 pl_2157 ts_2157 rfl ?_
  refine qs_gd (fun g869 => ?_)
  refine qs_si hS865 hM865 (pa_s hS865 (d := 2168) rfl (by decide) (by decide) sf_2168) ei2 g869 ei3 (fun S868 M868 hS868 hM868 => ?_)
  refine qs_ite (or_congr (c_eq et0 k_0) (c_eq et0 k_1)) ?_ ?_
  · exact qs_tr (show vi _ _ from et0) hS868 hM868
  · exact qs_none
set_option maxRecDepth 20000 in
theorem qz_X16_join_J30 {P : Nat → Nat} {S : zm_S} {M : qm} {i1 : Int32} {qi1 : Int} {i2 : Int32} {qi2 : Int} {t0 : Int32} {qt0 : Int} (hS : Sh L xs P S) (hM : qM P S = M) (ei1 : i1.toInt = qi1) (ei2 : i2.toInt = qi2) (et0 : t0.toInt = qt0) : qs (zf_X16_join_J30 20000 2157 i1 i2 t0 S) (qf_X16_join_J30 20000 qi1 qi2 qt0 M) (tO (rr L xs P vi)) := by
  unfold zf_X16_join_J30 qf_X16_join_J30
  refine qs_gr hS pl_2157 ts_2157 rfl ?_
  refine qs_gd (fun g872 => ?_)
  refine qs_xi hM (pa_s hS (d := 2168) rfl (by decide) (by decide) sf_2168) ei1 g872 (fun v871 h871 => ?_)
  refine qs_gr hS pl_2157 ts_2157 rfl ?_
  refine qs_gd (fun g875 => ?_)
  refine qs_xi hM (pa_s hS (d := 2168) rfl (by decide) (by decide) sf_2168) ei2 g875 (fun v874 h874 => ?_)
  refine qs_ite (c_eq h871 h874) ?_ ?_
  · exact (qz_X16_join_J51 hS hM ei1 ei2 et0 k_0)
  · exact (qz_X16_join_J51 hS hM ei1 ei2 et0 k_1)
set_option maxRecDepth 20000 in
theorem qz_X16_join {P : Nat → Nat} {S : zm_S} {M : qm} {i1 : Int32} {qi1 : Int} {i2 : Int32} {qi2 : Int} (hS : Sh L xs P S) (hM : qM P S = M) (ei1 : i1.toInt = qi1) (ei2 : i2.toInt = qi2) : qs (zf_X16_join 20000 2157 i1 i2 S) (qf_X16_join 20000 qi1 qi2 M) (tO (rr L xs P vi)) := by
  unfold zf_X16_join qf_X16_join
  refine qs_gr hS pl_2157 ts_2157 rfl ?_
  refine qs_gd (fun g878 => ?_)
  refine qs_xi hM (pa_s hS (d := 2168) rfl (by decide) (by decide) sf_2168) ei1 g878 (fun v877 h877 => ?_)
  refine qs_gr hS pl_2157 ts_2157 rfl ?_
  refine qs_gd (fun g881 => ?_)
  refine qs_xi hM (pa_s hS (d := 2168) rfl (by decide) (by decide) sf_2168) ei2 g881 (fun v880 h880 => ?_)
  refine qs_ite (c_le h880 h877) ?_ ?_
  · refine qs_gr hS pl_2157 ts_2157 rfl ?_
    refine qs_gd (fun g884 => ?_)
    refine qs_xi hM (pa_s hS (d := 2168) rfl (by decide) (by decide) sf_2168) ei2 g884 (fun v883 h883 => ?_)
    exact (qz_X16_join_J30 hS hM ei1 ei2 h883)
  · refine qs_gr hS pl_2157 ts_2157 rfl ?_
    refine qs_gd (fun g887 => ?_)
    refine qs_xi hM (pa_s hS (d := 2168) rfl (by decide) (by decide) sf_2168) ei1 g887 (fun v886 h886 => ?_)
    exact (qz_X16_join_J30 hS hM ei1 ei2 h886)
set_option maxRecDepth 20000 in
theorem qz_X16_fill_J95 {P : Nat → Nat} {S : zm_S} {M : qm} {i2 : Int32} {qi2 : Int} {i3 : Int32} {qi3 : Int} {i4 : Int32} {qi4 : Int} {t0 : Int32} {qt0 : Int} {t1 : Int32} {qt1 : Int} (hS : Sh L xs P S) (hM : qM P S = M) (ei2 : i2.toInt = qi2) (ei3 : i3.toInt = qi3) (ei4 : i4.toInt = qi4) (et0 : t0.toInt = qt0) (et1 : t1.toInt = qt1) {k : Nat → Int32 → Int32 → Int32 → zm_S → Option ((Unit × zm_S) ⊕ ((Int32) × zm_S))} : qs (zf_X16_fill_J95 20000 k 2157 i2 i3 i4 t0 t1 S) (qf_X16_fill_J95 20000 qi2 qi3 qi4 qt0 qt1 M) (tk (vs (rr L xs P vu) (rr L xs P vi)) (qc_X16_fill_L42 L xs P k)) := by
  unfold zf_X16_fill_J95 qf_X16_fill_J95
  refine qs_gi hS hM pl_2157 ts_2157 (z := 13) rfl rfl (fun v888 h888 => ?_)
  refine qs_ite (c_le h888 ei2) ?_ ?_
  · exact (qz_X16_fill_J134 hS hM ei2 ei3 (p_or et0 et1))
  · refine qs_zi hS pl_2157 ts_2157 ?_
    refine qs_bp (qz_X16_isShut hS hM ei3 ei2 k_0) (fun v890 S890 w890 h890 hS890 hM890 => ?_)
    refine qs_ite (c_eq h890 k_0) ?_ ?_
    · refine qs_zi hS890 pl_2157 ts_2157 ?_
      refine qs_b (qz_X16_join hS890 hM890 ei4 (p_add ei4 k_42)) (fun v892 S892 w892 M892 h892 hS892 hM892 => ?_)
      refine qs_ite (c_eq h892 k_0) ?_ ?_
      · exact (qz_X16_fill_J134 hS892 hM892 ei2 ei3 (p_or et0 et1))
      · exact (qz_X16_fill_J135 hS892 hM892 ei2 ei3 (p_or et0 et1) k_1)
    · exact (qz_X16_fill_J134 hS890 hM890 ei2 ei3 (p_or et0 et1))
set_option maxRecDepth 20000 in
theorem qz_X16_fill_J94 {P : Nat → Nat} {S : zm_S} {M : qm} {i2 : Int32} {qi2 : Int} {i3 : Int32} {qi3 : Int} {i4 : Int32} {qi4 : Int} {t0 : Int32} {qt0 : Int} (hS : Sh L xs P S) (hM : qM P S = M) (ei2 : i2.toInt = qi2) (ei3 : i3.toInt = qi3) (ei4 : i4.toInt = qi4) (et0 : t0.toInt = qt0) {k : Nat → Int32 → Int32 → Int32 → zm_S → Option ((Unit × zm_S) ⊕ ((Int32) × zm_S))} : qs (zf_X16_fill_J94 20000 k 2157 i2 i3 i4 t0 S) (qf_X16_fill_J94 20000 qi2 qi3 qi4 qt0 M) (tk (vs (rr L xs P vu) (rr L xs P vi)) (qc_X16_fill_L42 L xs P k)) := by
  unfold zf_X16_fill_J94 qf_X16_fill_J94
  exact (qz_X16_fill_J95 hS hM ei2 ei3 ei4 et0 k_0)
set_option maxRecDepth 20000 in
theorem qz_X16_fill_L42_b (n : Nat) {P : Nat → Nat} {S : zm_S} {M : qm} {i1 : Int32} {qi1 : Int} {i2 : Int32} {qi2 : Int} {i3 : Int32} {qi3 : Int} (hS : Sh L xs P S) (hM : qM P S = M) (ei1 : i1.toInt = qi1) (ei2 : i2.toInt = qi2) (ei3 : i3.toInt = qi3) : qs (zf_X16_fill_L42 20000 (n + 1) 2157 i1 i2 i3 S) (qf_X16_fill_L42_b 20000 qi1 qi2 qi3 M) (tk (vs (rr L xs P vu) (rr L xs P vi)) (qc_X16_fill_L42 L xs P (zf_X16_fill_L42 20000 n))) := by
  refine qs_eq (zf_X16_fill_L42.eq_2 ..) ?_
  unfold qf_X16_fill_L42_b
  refine qs_gi hS hM pl_2157 ts_2157 (z := 12) rfl rfl (fun v893 h893 => ?_)
  refine qs_ite (c_lt h893 ei3) ?_ ?_
  · exact qs_tr2 (show vi _ _ from ei1) hS hM
  · refine qs_gi hS hM pl_2157 ts_2157 (z := 12) rfl rfl (fun v894 h894 => ?_)
    refine qs_ite (c_le h894 ei3) ?_ ?_
    · exact (qz_X16_fill_J94 hS hM ei2 ei3 (p_add (p_mul k_42 ei2) ei3) ei1)
    · refine qs_zi hS pl_2157 ts_2157 ?_
      refine qs_bp (qz_X16_isShut hS hM ei3 ei2 k_1) (fun v896 S896 w896 h896 hS896 hM896 => ?_)
      refine qs_ite (c_eq h896 k_0) ?_ ?_
      · refine qs_zi hS896 pl_2157 ts_2157 ?_
        refine qs_b (qz_X16_join hS896 hM896 (p_add (p_mul k_42 ei2) ei3) (p_add (p_add (p_mul k_42 ei2) ei3) k_1)) (fun v898 S898 w898 M898 h898 hS898 hM898 => ?_)
        refine qs_ite (c_eq h898 k_0) ?_ ?_
        · exact (qz_X16_fill_J94 hS898 hM898 ei2 ei3 (p_add (p_mul k_42 ei2) ei3) ei1)
        · exact (qz_X16_fill_J95 hS898 hM898 ei2 ei3 (p_add (p_mul k_42 ei2) ei3) ei1 k_1)
      · exact (qz_X16_fill_J94 hS896 hM896 ei2 ei3 (p_add (p_mul k_42 ei2) ei3) ei1)
theorem qz_X16_fill_L42 (n : Nat) : ∀ {P : Nat → Nat} {S : zm_S} {M : qm} {i1 : Int32} {qi1 : Int} {i2 : Int32} {qi2 : Int} {i3 : Int32} {qi3 : Int} (hS : Sh L xs P S) (hM : qM P S = M) (ei1 : i1.toInt = qi1) (ei2 : i2.toInt = qi2) (ei3 : i3.toInt = qi3), qs (zf_X16_fill_L42 20000 n 2157 i1 i2 i3 S) (qf_X16_fill_L42 20000 n qi1 qi2 qi3 M) (tO (vs (rr L xs P vu) (rr L xs P vi))) := by
  induction n with
  | zero =>
    intros
    exact qs_none
  | succ n ih =>
    intro P S M i1 qi1 i2 qi2 i3 qi3 hS hM ei1 ei2 ei3
    unfold qf_X16_fill_L42
    refine qs_loop (C := (qc_X16_fill_L42 L xs P (zf_X16_fill_L42 20000 n))) (qz_X16_fill_L42_b n hS hM ei1 ei2 ei3) ?_
    rintro x s ⟨_, _, _, _, rfl, u0, u1, u2, hS2, hM2⟩
    exact ih hS2 hM2 u0 u1 u2
set_option maxRecDepth 20000 in
theorem qz_X16_fill_L32_b (n : Nat) {P : Nat → Nat} {S : zm_S} {M : qm} {i1 : Int32} {qi1 : Int} {i2 : Int32} {qi2 : Int} (hS : Sh L xs P S) (hM : qM P S = M) (ei1 : i1.toInt = qi1) (ei2 : i2.toInt = qi2) : qs (zf_X16_fill_L32 20000 (n + 1) 2157 i1 i2 S) (qf_X16_fill_L32_b 20000 qi1 qi2 M) (tk (vs (rr L xs P vu) (rr L xs P vi)) (qc_X16_fill_L32 L xs P (zf_X16_fill_L32 20000 n))) := by
  refine qs_eq (zf_X16_fill_L32.eq_2 ..) ?_
  unfold qf_X16_fill_L32_b
  refine qs_gi hS hM pl_2157 ts_2157 (z := 13) rfl rfl (fun v899 h899 => ?_)
  refine qs_ite (c_lt h899 ei2) ?_ ?_
  · exact qs_tr2 (show vi _ _ from ei1) hS hM
  · refine qs_lr (qz_X16_fill_L42 20000 hS hM ei1 ei2 k_0) ?_ ?_
    · intro v901 S901 w901 M901 h901 hS901 hM901
      dsimp only
      exact qs_tr1 h901 hS901 hM901
    · intro v901 S901 w901 M901 h901 hS901 hM901
      dsimp only
      exact qs_tk ⟨_, _, _, rfl, h901, (p_add ei2 k_1), hS901, hM901⟩
theorem qz_X16_fill_L32 (n : Nat) : ∀ {P : Nat → Nat} {S : zm_S} {M : qm} {i1 : Int32} {qi1 : Int} {i2 : Int32} {qi2 : Int} (hS : Sh L xs P S) (hM : qM P S = M) (ei1 : i1.toInt = qi1) (ei2 : i2.toInt = qi2), qs (zf_X16_fill_L32 20000 n 2157 i1 i2 S) (qf_X16_fill_L32 20000 n qi1 qi2 M) (tO (vs (rr L xs P vu) (rr L xs P vi))) := by
  induction n with
  | zero =>
    intros
    exact qs_none
  | succ n ih =>
    intro P S M i1 qi1 i2 qi2 hS hM ei1 ei2
    unfold qf_X16_fill_L32
    refine qs_loop (C := (qc_X16_fill_L32 L xs P (zf_X16_fill_L32 20000 n))) (qz_X16_fill_L32_b n hS hM ei1 ei2) ?_
    rintro x s ⟨_, _, _, rfl, u0, u1, hS2, hM2⟩
    exact ih hS2 hM2 u0 u1
set_option maxRecDepth 20000 in
theorem qz_X16_fill_L24_b (n : Nat) {P : Nat → Nat} {S : zm_S} {M : qm} {i1 : Int32} {qi1 : Int} (hS : Sh L xs P S) (hM : qM P S = M) (ei1 : i1.toInt = qi1) : qs (zf_X16_fill_L24 20000 (n + 1) 2157 i1 S) (qf_X16_fill_L24_b 20000 qi1 M) (tk (vs (rr L xs P vu) (rr L xs P vu)) (qc_X16_fill_L24 L xs P (zf_X16_fill_L24 20000 n))) := by
  refine qs_eq (zf_X16_fill_L24.eq_2 ..) ?_
  unfold qf_X16_fill_L24_b
  refine qs_ite (c_eq ei1 k_0) ?_ ?_
  · exact qs_tr2 (show vu _ _ from trivial) hS hM
  · refine qs_lr (qz_X16_fill_L32 20000 hS hM k_0 k_0) ?_ ?_
    · intro v903 S903 w903 M903 h903 hS903 hM903
      dsimp only
      exact qs_tr1 h903 hS903 hM903
    · intro v903 S903 w903 M903 h903 hS903 hM903
      dsimp only
      exact qs_tk ⟨_, _, rfl, h903, hS903, hM903⟩
theorem qz_X16_fill_L24 (n : Nat) : ∀ {P : Nat → Nat} {S : zm_S} {M : qm} {i1 : Int32} {qi1 : Int} (hS : Sh L xs P S) (hM : qM P S = M) (ei1 : i1.toInt = qi1), qs (zf_X16_fill_L24 20000 n 2157 i1 S) (qf_X16_fill_L24 20000 n qi1 M) (tO (vs (rr L xs P vu) (rr L xs P vu))) := by
  induction n with
  | zero =>
    intros
    exact qs_none
  | succ n ih =>
    intro P S M i1 qi1 hS hM ei1
    unfold qf_X16_fill_L24
    refine qs_loop (C := (qc_X16_fill_L24 L xs P (zf_X16_fill_L24 20000 n))) (qz_X16_fill_L24_b n hS hM ei1) ?_
    rintro x s ⟨_, _, rfl, u0, hS2, hM2⟩
    exact ih hS2 hM2 u0
set_option maxRecDepth 20000 in
theorem qz_X16_fill {P : Nat → Nat} {S : zm_S} {M : qm}  (hS : Sh L xs P S) (hM : qM P S = M)  : qs (zf_X16_fill 20000 2157 S) (qf_X16_fill 20000 M) (tO (rr L xs P vu)) := by
  unfold zf_X16_fill qf_X16_fill
  refine qs_lr (qz_X16_fill_L2 20000 hS hM k_0) ?_ ?_
  · intro v905 S905 w905 M905 h905 hS905 hM905
    dsimp only
    exact qs_tr h905 hS905 hM905
  · intro v905 S905 w905 M905 h905 hS905 hM905
    dsimp only
    refine qs_lr (qz_X16_fill_L24 20000 hS905 hM905 k_1) ?_ ?_
    · intro v907 S907 w907 M907 h907 hS907 hM907
      dsimp only
      exact qs_tr h907 hS907 hM907
    · intro v907 S907 w907 M907 h907 hS907 hM907
      dsimp only
      exact qs_tr (show vu _ _ from trivial) hS907 hM907
set_option maxRecDepth 20000 in
theorem qz_X16_pointAt_L2_b (n : Nat) {P : Nat → Nat} {S : zm_S} {M : qm} {i1 : Int32} {qi1 : Int} {i2 : Int32} {qi2 : Int} {i3 : Int32} {qi3 : Int} (hS : Sh L xs P S) (hM : qM P S = M) (ei1 : i1.toInt = qi1) (ei2 : i2.toInt = qi2) (ei3 : i3.toInt = qi3) : qs (zf_X16_pointAt_L2 20000 (n + 1) 2157 i1 i2 i3 S) (qf_X16_pointAt_L2_b 20000 qi1 qi2 qi3 M) (tk (vs (rp L xs P M vi) (rp L xs P M vi)) (qc_X16_pointAt_L2 L xs P M (zf_X16_pointAt_L2 20000 n))) := by
  refine qs_eq (zf_X16_pointAt_L2.eq_2 ..) ?_
  unfold qf_X16_pointAt_L2_b
  refine qs_gi hS hM pl_2157 ts_2157 (z := 27) rfl rfl (fun v908 h908 => ?_)
  refine qs_ite (c_le h908 ei3) ?_ ?_
  · exact qs_tp2 (show vi _ _ from ei3) hS hM
  · refine qs_gr hS pl_2157 ts_2157 rfl ?_
    refine qs_gd (fun g911 => ?_)
    refine qs_xi hM (pa_p hS pl_2174 ts_2174) ei3 g911 (fun v910 h910 => ?_)
    refine qs_ite (c_eq h910 ei1) ?_ ?_
    · refine qs_gr hS pl_2157 ts_2157 rfl ?_
      refine qs_gd (fun g914 => ?_)
      refine qs_xi hM (pa_p hS pl_2175 ts_2175) ei3 g914 (fun v913 h913 => ?_)
      refine qs_ite (c_eq h913 ei2) ?_ ?_
      · exact qs_tp2 (show vi _ _ from ei3) hS hM
      · exact qs_tk ⟨_, _, _, _, rfl, ei1, ei2, (p_add ei3 k_1), hS, hM⟩
    · exact qs_tk ⟨_, _, _, _, rfl, ei1, ei2, (p_add ei3 k_1), hS, hM⟩
theorem qz_X16_pointAt_L2 (n : Nat) : ∀ {P : Nat → Nat} {S : zm_S} {M : qm} {i1 : Int32} {qi1 : Int} {i2 : Int32} {qi2 : Int} {i3 : Int32} {qi3 : Int} (hS : Sh L xs P S) (hM : qM P S = M) (ei1 : i1.toInt = qi1) (ei2 : i2.toInt = qi2) (ei3 : i3.toInt = qi3), qs (zf_X16_pointAt_L2 20000 n 2157 i1 i2 i3 S) (qf_X16_pointAt_L2 20000 n qi1 qi2 qi3 M) (tO (vs (rp L xs P M vi) (rp L xs P M vi))) := by
  induction n with
  | zero =>
    intros
    exact qs_none
  | succ n ih =>
    intro P S M i1 qi1 i2 qi2 i3 qi3 hS hM ei1 ei2 ei3
    unfold qf_X16_pointAt_L2
    refine qs_loop (C := (qc_X16_pointAt_L2 L xs P M (zf_X16_pointAt_L2 20000 n))) (qz_X16_pointAt_L2_b n hS hM ei1 ei2 ei3) ?_
    rintro x s ⟨_, _, _, _, rfl, u0, u1, u2, hS2, hM2⟩
    exact ih hS2 hM2 u0 u1 u2
set_option maxRecDepth 20000 in
theorem qz_X16_pointAt {P : Nat → Nat} {S : zm_S} {M : qm} {i1 : Int32} {qi1 : Int} {i2 : Int32} {qi2 : Int} (hS : Sh L xs P S) (hM : qM P S = M) (ei1 : i1.toInt = qi1) (ei2 : i2.toInt = qi2) : qs (zf_X16_pointAt 20000 2157 i1 i2 S) (qf_X16_pointAt 20000 qi1 qi2 M) (tO (rp L xs P M vi)) := by
  unfold zf_X16_pointAt qf_X16_pointAt
  refine qs_lp (qz_X16_pointAt_L2 20000 hS hM ei1 ei2 k_0) ?_ ?_
  · intro v916 S916 w916 h916 hS916 hM916
    dsimp only
    exact qs_tp h916 hS916 hM916
  · intro v916 S916 w916 h916 hS916 hM916
    dsimp only
    exact qs_tp (show vi _ _ from h916) hS916 hM916
set_option maxRecDepth 20000 in
theorem qz_X16_point_J59 {P : Nat → Nat} {S : zm_S} {M : qm} {i1 : Int32} {qi1 : Int} {i2 : Int32} {qi2 : Int} {i3 : Int32} {qi3 : Int} (hS : Sh L xs P S) (hM : qM P S = M) (ei1 : i1.toInt = qi1) (ei2 : i2.toInt = qi2) (ei3 : i3.toInt = qi3) {k : Nat → Int32 → Int32 → Int32 → zm_S → Option ((Unit × zm_S) ⊕ ((Int32) × zm_S))} : qs (zf_X16_point_J59 20000 k 2157 i1 i2 i3 S) (qf_X16_point_J59 20000 qi1 qi2 qi3 M) (tk (vs (rr L xs P vu) (rr L xs P vi)) (qc_X16_point_L19 L xs P k)) := by
  unfold zf_X16_point_J59 qf_X16_point_J59
  refine qs_gr hS pl_2157 ts_2157 rfl ?_
  refine qs_gr hS pl_2157 ts_2157 rfl ?_
  refine qs_gd (fun g920 => ?_)
  refine qs_xi hM (pa_p hS pl_2174 ts_2174) (p_sub ei3 k_1) g920 (fun v919 h919 => ?_)
  refine qs_gd (fun g922 => ?_)
  refine qs_si hS hM (pa_p hS pl_2174 ts_2174) ei3 g922 h919 (fun S921 M921 hS921 hM921 => ?_)
  refine qs_gr hS921 pl_2157 ts_2157 rfl ?_
  refine qs_gr hS921 pl_2157 ts_2157 rfl ?_
  refine qs_gd (fun g926 => ?_)
  refine qs_xi hM921 (pa_p hS921 pl_2175 ts_2175) (p_sub ei3 k_1) g926 (fun v925 h925 => ?_)
  refine qs_gd (fun g928 => ?_)
  refine qs_si hS921 hM921 (pa_p hS921 pl_2175 ts_2175) ei3 g928 h925 (fun S927 M927 hS927 hM927 => ?_)
  exact qs_tk ⟨_, _, _, _, rfl, ei1, ei2, (p_addm ei3 k_m1), hS927, hM927⟩
set_option maxRecDepth 20000 in
theorem qz_X16_point_L19_b (n : Nat) {P : Nat → Nat} {S : zm_S} {M : qm} {i1 : Int32} {qi1 : Int} {i2 : Int32} {qi2 : Int} {i3 : Int32} {qi3 : Int} (hS : Sh L xs P S) (hM : qM P S = M) (ei1 : i1.toInt = qi1) (ei2 : i2.toInt = qi2) (ei3 : i3.toInt = qi3) : qs (zf_X16_point_L19 20000 (n + 1) 2157 i1 i2 i3 S) (qf_X16_point_L19_b 20000 qi1 qi2 qi3 M) (tk (vs (rr L xs P vu) (rr L xs P vi)) (qc_X16_point_L19 L xs P (zf_X16_point_L19 20000 n))) := by
  refine qs_eq (zf_X16_point_L19.eq_2 ..) ?_
  unfold qf_X16_point_L19_b
  refine qs_ite (c_le ei3 k_0) ?_ ?_
  · exact qs_tr2 (show vi _ _ from ei3) hS hM
  · refine qs_gr hS pl_2157 ts_2157 rfl ?_
    refine qs_gd (fun g931 => ?_)
    refine qs_xi hM (pa_p hS pl_2174 ts_2174) (p_sub ei3 k_1) g931 (fun v930 h930 => ?_)
    refine qs_ite (c_lt ei1 h930) ?_ ?_
    · exact (qz_X16_point_J59 hS hM ei1 ei2 ei3)
    · refine qs_gr hS pl_2157 ts_2157 rfl ?_
      refine qs_gd (fun g934 => ?_)
      refine qs_xi hM (pa_p hS pl_2174 ts_2174) (p_sub ei3 k_1) g934 (fun v933 h933 => ?_)
      refine qs_ite (c_eq h933 ei1) ?_ ?_
      · refine qs_gr hS pl_2157 ts_2157 rfl ?_
        refine qs_gd (fun g937 => ?_)
        refine qs_xi hM (pa_p hS pl_2175 ts_2175) (p_sub ei3 k_1) g937 (fun v936 h936 => ?_)
        refine qs_ite (c_le h936 ei2) ?_ ?_
        · exact qs_tr2 (show vi _ _ from ei3) hS hM
        · exact (qz_X16_point_J59 hS hM ei1 ei2 ei3)
      · exact qs_tr2 (show vi _ _ from ei3) hS hM
theorem qz_X16_point_L19 (n : Nat) : ∀ {P : Nat → Nat} {S : zm_S} {M : qm} {i1 : Int32} {qi1 : Int} {i2 : Int32} {qi2 : Int} {i3 : Int32} {qi3 : Int} (hS : Sh L xs P S) (hM : qM P S = M) (ei1 : i1.toInt = qi1) (ei2 : i2.toInt = qi2) (ei3 : i3.toInt = qi3), qs (zf_X16_point_L19 20000 n 2157 i1 i2 i3 S) (qf_X16_point_L19 20000 n qi1 qi2 qi3 M) (tO (vs (rr L xs P vu) (rr L xs P vi))) := by
  induction n with
  | zero =>
    intros
    exact qs_none
  | succ n ih =>
    intro P S M i1 qi1 i2 qi2 i3 qi3 hS hM ei1 ei2 ei3
    unfold qf_X16_point_L19
    refine qs_loop (C := (qc_X16_point_L19 L xs P (zf_X16_point_L19 20000 n))) (qz_X16_point_L19_b n hS hM ei1 ei2 ei3) ?_
    rintro x s ⟨_, _, _, _, rfl, u0, u1, u2, hS2, hM2⟩
    exact ih hS2 hM2 u0 u1 u2
set_option maxRecDepth 20000 in
theorem qz_X16_point_J93 {P : Nat → Nat} {S : zm_S} {M : qm} {i1 : Int32} {qi1 : Int} {i2 : Int32} {qi2 : Int} {i3 : Int32} {qi3 : Int} (hS : Sh L xs P S) (hM : qM P S = M) (ei1 : i1.toInt = qi1) (ei2 : i2.toInt = qi2) (ei3 : i3.toInt = qi3) : qs (zf_X16_point_J93 20000 2157 i1 i2 i3 S) (qf_X16_point_J93 20000 qi1 qi2 qi3 M) (tO (rr L xs P vu)) := by
  unfold zf_X16_point_J93 qf_X16_point_J93
  refine qs_gr hS pl_2157 ts_2157 rfl ?_
  refine qs_gd (fun g940 => ?_)
  refine qs_si hS hM (pa_p hS pl_2174 ts_2174) ei3 g940 ei1 (fun S939 M939 hS939 hM939 => ?_)
  refine qs_gr hS939 pl_2157 ts_2157 rfl ?_
  refine qs_gd (fun g943 => ?_)
  refine qs_si hS939 hM939 (pa_p hS939 pl_2175 ts_2175) ei3 g943 ei2 (fun S942 M942 hS942 hM942 => ?_)
  refine qs_gi hS942 hM942 pl_2157 ts_2157 (z := 27) rfl rfl (fun v944 h944 => ?_)
  refine qs_pi hS942 hM942 pl_2157 ts_2157 (z := 27) rfl rfl (p_add h944 k_1) (fun S945 M945 hS945 hM945 => ?_)
  exact qs_tr (show vu _ _ from trivial) hS945 hM945
set_option maxRecDepth 20000 in
theorem qz_X16_point {P : Nat → Nat} {S : zm_S} {M : qm} {i1 : Int32} {qi1 : Int} {i2 : Int32} {qi2 : Int} (hS : Sh L xs P S) (hM : qM P S = M) (ei1 : i1.toInt = qi1) (ei2 : i2.toInt = qi2) : qs (zf_X16_point 20000 2157 i1 i2 S) (qf_X16_point 20000 qi1 qi2 M) (tO (rr L xs P vu)) := by
  unfold zf_X16_point qf_X16_point
  refine qs_zi hS pl_2157 ts_2157 ?_
  refine qs_bp (qz_X16_pointAt hS hM ei1 ei2) (fun v947 S947 w947 h947 hS947 hM947 => ?_)
  refine qs_gi hS947 hM947 pl_2157 ts_2157 (z := 27) rfl rfl (fun v948 h948 => ?_)
  refine qs_ite (c_le h948 h947) ?_ ?_
  · refine qs_gi hS947 hM947 pl_2157 ts_2157 (z := 27) rfl rfl (fun v949 h949 => ?_)
    refine qs_lr (qz_X16_point_L19 20000 hS947 hM947 ei1 ei2 h949) ?_ ?_
    · intro v951 S951 w951 M951 h951 hS951 hM951
      dsimp only
      exact qs_tr h951 hS951 hM951
    · intro v951 S951 w951 M951 h951 hS951 hM951
      dsimp only
      exact (qz_X16_point_J93 hS951 hM951 ei1 ei2 h951)
  · exact qs_tr (show vu _ _ from trivial) hS947 hM947
set_option maxRecDepth 20000 in
theorem qz_X16_isOn {P : Nat → Nat} {S : zm_S} {M : qm} {i1 : Int32} {qi1 : Int} {i2 : Int32} {qi2 : Int} {i3 : Int32} {qi3 : Int} (hS : Sh L xs P S) (hM : qM P S = M) (ei1 : i1.toInt = qi1) (ei2 : i2.toInt = qi2) (ei3 : i3.toInt = qi3) : qs (zf_X16_isOn 20000 2157 i1 i2 i3 S) (qf_X16_isOn 20000 qi1 qi2 qi3 M) (tO (rp L xs P M vi)) := by
  unfold zf_X16_isOn qf_X16_isOn
  refine qs_gr hS pl_2157 ts_2157 rfl ?_
  refine qs_gd (fun g954 => ?_)
  refine qs_xi hM (pa_p hS pl_2158 ts_2158) ei1 g954 (fun v953 h953 => ?_)
  refine qs_ite (c_lt ei2 h953) ?_ ?_
  · exact qs_tp (show vi _ _ from k_0) hS hM
  · refine qs_zi hS pl_2157 ts_2157 ?_
    refine qs_bp (qz_X16_highX hS hM ei1) (fun v956 S956 w956 h956 hS956 hM956 => ?_)
    refine qs_ite (c_lt h956 ei2) ?_ ?_
    · exact qs_tp (show vi _ _ from k_0) hS956 hM956
    · refine qs_gr hS956 pl_2157 ts_2157 rfl ?_
      refine qs_gd (fun g959 => ?_)
      refine qs_xi hM956 (pa_p hS956 pl_2159 ts_2159) ei1 g959 (fun v958 h958 => ?_)
      refine qs_ite (c_lt ei3 h958) ?_ ?_
      · exact qs_tp (show vi _ _ from k_0) hS956 hM956
      · refine qs_zi hS956 pl_2157 ts_2157 ?_
        refine qs_bp (qz_X16_highY hS956 hM956 ei1) (fun v961 S961 w961 h961 hS961 hM961 => ?_)
        refine qs_ite (c_lt h961 ei3) ?_ ?_
        · exact qs_tp (show vi _ _ from k_0) hS961 hM961
        · exact qs_tp (show vi _ _ from k_1) hS961 hM961
set_option maxRecDepth 20000 in
theorem qz_X16_findPoints_L47_b (n : Nat) {P : Nat → Nat} {S : zm_S} {M : qm} {i1 : Int32} {qi1 : Int} {i2 : Int32} {qi2 : Int} (hS : Sh L xs P S) (hM : qM P S = M) (ei1 : i1.toInt = qi1) (ei2 : i2.toInt = qi2) : qs (zf_X16_findPoints_L47 20000 (n + 1) 2157 i1 i2 S) (qf_X16_findPoints_L47_b 20000 qi1 qi2 M) (tk (vs (rr L xs P vu) (rr L xs P vu)) (qc_X16_findPoints_L47 L xs P (zf_X16_findPoints_L47 20000 n))) := by
  refine qs_eq (zf_X16_findPoints_L47.eq_2 ..) ?_
  unfold qf_X16_findPoints_L47_b
  refine qs_gi hS hM pl_2157 ts_2157 (z := 0) rfl rfl (fun v962 h962 => ?_)
  refine qs_ite (c_le h962 ei2) ?_ ?_
  · exact qs_tr2 (show vu _ _ from trivial) hS hM
  · refine qs_gr hS pl_2157 ts_2157 rfl ?_
    refine qs_gd (fun g965 => ?_)
    refine qs_xi hM (pa_p hS pl_2160 ts_2160) ei1 g965 (fun v964 h964 => ?_)
    refine qs_ite (c_eq h964 k_0) ?_ ?_
    · exact qs_tk ⟨_, _, _, rfl, ei1, (p_add ei2 k_1), hS, hM⟩
    · refine qs_gr hS pl_2157 ts_2157 rfl ?_
      refine qs_gd (fun g968 => ?_)
      refine qs_xi hM (pa_p hS pl_2160 ts_2160) ei2 g968 (fun v967 h967 => ?_)
      refine qs_ite (c_eq h967 k_0) ?_ ?_
      · refine qs_gr hS pl_2157 ts_2157 rfl ?_
        refine qs_gd (fun g971 => ?_)
        refine qs_xi hM (pa_p hS pl_2158 ts_2158) ei2 g971 (fun v970 h970 => ?_)
        refine qs_gr hS pl_2157 ts_2157 rfl ?_
        refine qs_gd (fun g974 => ?_)
        refine qs_xi hM (pa_p hS pl_2159 ts_2159) ei1 g974 (fun v973 h973 => ?_)
        refine qs_zi hS pl_2157 ts_2157 ?_
        refine qs_bp (qz_X16_isOn hS hM ei1 h970 h973) (fun v976 S976 w976 h976 hS976 hM976 => ?_)
        refine qs_ite (c_eq h976 k_0) ?_ ?_
        · exact qs_tk ⟨_, _, _, rfl, ei1, (p_add ei2 k_1), hS976, hM976⟩
        · refine qs_gr hS976 pl_2157 ts_2157 rfl ?_
          refine qs_gd (fun g979 => ?_)
          refine qs_xi hM976 (pa_p hS976 pl_2158 ts_2158) ei2 g979 (fun v978 h978 => ?_)
          refine qs_gr hS976 pl_2157 ts_2157 rfl ?_
          refine qs_gd (fun g982 => ?_)
          refine qs_xi hM976 (pa_p hS976 pl_2159 ts_2159) ei1 g982 (fun v981 h981 => ?_)
          refine qs_zi hS976 pl_2157 ts_2157 ?_
          refine qs_bp (qz_X16_isOn hS976 hM976 ei2 h978 h981) (fun v984 S984 w984 h984 hS984 hM984 => ?_)
          refine qs_ite (c_eq h984 k_0) ?_ ?_
          · exact qs_tk ⟨_, _, _, rfl, ei1, (p_add ei2 k_1), hS984, hM984⟩
          · refine qs_gr hS984 pl_2157 ts_2157 rfl ?_
            refine qs_gd (fun g987 => ?_)
            refine qs_xi hM984 (pa_p hS984 pl_2158 ts_2158) ei2 g987 (fun v986 h986 => ?_)
            refine qs_gr hS984 pl_2157 ts_2157 rfl ?_
            refine qs_gd (fun g990 => ?_)
            refine qs_xi hM984 (pa_p hS984 pl_2159 ts_2159) ei1 g990 (fun v989 h989 => ?_)
            refine qs_zi hS984 pl_2157 ts_2157 ?_
            refine qs_b (qz_X16_point hS984 hM984 h986 h989) (fun v992 S992 w992 M992 h992 hS992 hM992 => ?_)
            exact qs_tk ⟨_, _, _, rfl, ei1, (p_add ei2 k_1), hS992, hM992⟩
      · exact qs_tk ⟨_, _, _, rfl, ei1, (p_add ei2 k_1), hS, hM⟩
theorem qz_X16_findPoints_L47 (n : Nat) : ∀ {P : Nat → Nat} {S : zm_S} {M : qm} {i1 : Int32} {qi1 : Int} {i2 : Int32} {qi2 : Int} (hS : Sh L xs P S) (hM : qM P S = M) (ei1 : i1.toInt = qi1) (ei2 : i2.toInt = qi2), qs (zf_X16_findPoints_L47 20000 n 2157 i1 i2 S) (qf_X16_findPoints_L47 20000 n qi1 qi2 M) (tO (vs (rr L xs P vu) (rr L xs P vu))) := by
  induction n with
  | zero =>
    intros
    exact qs_none
  | succ n ih =>
    intro P S M i1 qi1 i2 qi2 hS hM ei1 ei2
    unfold qf_X16_findPoints_L47
    refine qs_loop (C := (qc_X16_findPoints_L47 L xs P (zf_X16_findPoints_L47 20000 n))) (qz_X16_findPoints_L47_b n hS hM ei1 ei2) ?_
    rintro x s ⟨_, _, _, rfl, u0, u1, hS2, hM2⟩
    exact ih hS2 hM2 u0 u1
set_option maxRecDepth 20000 in
theorem qz_X16_findPoints_L7_b (n : Nat) {P : Nat → Nat} {S : zm_S} {M : qm} {i1 : Int32} {qi1 : Int} (hS : Sh L xs P S) (hM : qM P S = M) (ei1 : i1.toInt = qi1) : qs (zf_X16_findPoints_L7 20000 (n + 1) 2157 i1 S) (qf_X16_findPoints_L7_b 20000 qi1 M) (tk (vs (rr L xs P vu) (rr L xs P vu)) (qc_X16_findPoints_L7 L xs P (zf_X16_findPoints_L7 20000 n))) := by
  refine qs_eq (zf_X16_findPoints_L7.eq_2 ..) ?_
  unfold qf_X16_findPoints_L7_b
  refine qs_gi hS hM pl_2157 ts_2157 (z := 0) rfl rfl (fun v993 h993 => ?_)
  refine qs_ite (c_le h993 ei1) ?_ ?_
  · exact qs_tr2 (show vu _ _ from trivial) hS hM
  · refine qs_gr hS pl_2157 ts_2157 rfl ?_
    refine qs_gd (fun g996 => ?_)
    refine qs_xi hM (pa_p hS pl_2158 ts_2158) ei1 g996 (fun v995 h995 => ?_)
    refine qs_gr hS pl_2157 ts_2157 rfl ?_
    refine qs_gd (fun g999 => ?_)
    refine qs_xi hM (pa_p hS pl_2159 ts_2159) ei1 g999 (fun v998 h998 => ?_)
    refine qs_zi hS pl_2157 ts_2157 ?_
    refine qs_b (qz_X16_point hS hM h995 h998) (fun v1001 S1001 w1001 M1001 h1001 hS1001 hM1001 => ?_)
    refine qs_zi hS1001 pl_2157 ts_2157 ?_
    refine qs_bp (qz_X16_highX hS1001 hM1001 ei1) (fun v1003 S1003 w1003 h1003 hS1003 hM1003 => ?_)
    refine qs_zi hS1003 pl_2157 ts_2157 ?_
    refine qs_bp (qz_X16_highY hS1003 hM1003 ei1) (fun v1005 S1005 w1005 h1005 hS1005 hM1005 => ?_)
    refine qs_zi hS1005 pl_2157 ts_2157 ?_
    refine qs_b (qz_X16_point hS1005 hM1005 h1003 h1005) (fun v1007 S1007 w1007 M1007 h1007 hS1007 hM1007 => ?_)
    refine qs_lr (qz_X16_findPoints_L47 20000 hS1007 hM1007 ei1 k_0) ?_ ?_
    · intro v1009 S1009 w1009 M1009 h1009 hS1009 hM1009
      dsimp only
      exact qs_tr1 h1009 hS1009 hM1009
    · intro v1009 S1009 w1009 M1009 h1009 hS1009 hM1009
      dsimp only
      exact qs_tk ⟨_, _, rfl, (p_add ei1 k_1), hS1009, hM1009⟩
theorem qz_X16_findPoints_L7 (n : Nat) : ∀ {P : Nat → Nat} {S : zm_S} {M : qm} {i1 : Int32} {qi1 : Int} (hS : Sh L xs P S) (hM : qM P S = M) (ei1 : i1.toInt = qi1), qs (zf_X16_findPoints_L7 20000 n 2157 i1 S) (qf_X16_findPoints_L7 20000 n qi1 M) (tO (vs (rr L xs P vu) (rr L xs P vu))) := by
  induction n with
  | zero =>
    intros
    exact qs_none
  | succ n ih =>
    intro P S M i1 qi1 hS hM ei1
    unfold qf_X16_findPoints_L7
    refine qs_loop (C := (qc_X16_findPoints_L7 L xs P (zf_X16_findPoints_L7 20000 n))) (qz_X16_findPoints_L7_b n hS hM ei1) ?_
    rintro x s ⟨_, _, rfl, u0, hS2, hM2⟩
    exact ih hS2 hM2 u0
set_option maxRecDepth 20000 in
theorem qz_X16_findPoints_J232 {P : Nat → Nat} {S : zm_S} {M : qm} {i1 : Int32} {qi1 : Int} {i3 : Int32} {qi3 : Int} (hS : Sh L xs P S) (hM : qM P S = M) (ei1 : i1.toInt = qi1) (ei3 : i3.toInt = qi3) {k : Nat → Int32 → Int32 → Int32 → zm_S → Option ((Unit × zm_S) ⊕ ((Unit) × zm_S))} : qs (zf_X16_findPoints_J232 20000 k 2157 i1 i3 S) (qf_X16_findPoints_J232 20000 qi1 qi3 M) (tk (vs (rr L xs P vu) (rr L xs P vu)) (qc_X16_findPoints_L160 L xs P k)) := by
  unfold zf_X16_findPoints_J232 qf_X16_findPoints_J232
  exact qs_tk ⟨_, _, _, _, rfl, ei1, ei3, (p_add ei3 k_1), hS, hM⟩
set_option maxRecDepth 20000 in
theorem qz_X16_findPoints_L160_b (n : Nat) {P : Nat → Nat} {S : zm_S} {M : qm} {i1 : Int32} {qi1 : Int} {i2 : Int32} {qi2 : Int} {i3 : Int32} {qi3 : Int} (hS : Sh L xs P S) (hM : qM P S = M) (ei1 : i1.toInt = qi1) (ei2 : i2.toInt = qi2) (ei3 : i3.toInt = qi3) : qs (zf_X16_findPoints_L160 20000 (n + 1) 2157 i1 i2 i3 S) (qf_X16_findPoints_L160_b 20000 qi1 qi2 qi3 M) (tk (vs (rr L xs P vu) (rr L xs P vu)) (qc_X16_findPoints_L160 L xs P (zf_X16_findPoints_L160 20000 n))) := by
  refine qs_eq (zf_X16_findPoints_L160.eq_2 ..) ?_
  unfold qf_X16_findPoints_L160_b
  refine qs_gi hS hM pl_2157 ts_2157 (z := 27) rfl rfl (fun v1010 h1010 => ?_)
  refine qs_ite (c_le h1010 ei3) ?_ ?_
  · exact qs_tr2 (show vu _ _ from trivial) hS hM
  · refine qs_gr hS pl_2157 ts_2157 rfl ?_
    refine qs_gd (fun g1013 => ?_)
    refine qs_xi hM (pa_p hS pl_2174 ts_2174) ei3 g1013 (fun v1012 h1012 => ?_)
    refine qs_gr hS pl_2157 ts_2157 rfl ?_
    refine qs_gd (fun g1016 => ?_)
    refine qs_xi hM (pa_p hS pl_2175 ts_2175) ei3 g1016 (fun v1015 h1015 => ?_)
    refine qs_zi hS pl_2157 ts_2157 ?_
    refine qs_bp (qz_X16_isOn hS hM ei1 h1012 h1015) (fun v1018 S1018 w1018 h1018 hS1018 hM1018 => ?_)
    refine qs_ite (c_eq h1018 k_0) ?_ ?_
    · exact qs_tk ⟨_, _, _, _, rfl, ei1, ei2, (p_add ei3 k_1), hS1018, hM1018⟩
    · refine qs_ite (c_lt ei2 k_0) ?_ ?_
      · exact (qz_X16_findPoints_J232 hS1018 hM1018 ei1 ei3)
      · refine qs_gr hS1018 pl_2157 ts_2157 rfl ?_
        refine qs_gi hS1018 hM1018 pl_2157 ts_2157 (z := 30) rfl rfl (fun v1020 h1020 => ?_)
        refine qs_gd (fun g1022 => ?_)
        refine qs_si hS1018 hM1018 (pa_p hS1018 pl_2176 ts_2176) h1020 g1022 ei1 (fun S1021 M1021 hS1021 hM1021 => ?_)
        refine qs_gr hS1021 pl_2157 ts_2157 rfl ?_
        refine qs_gi hS1021 hM1021 pl_2157 ts_2157 (z := 30) rfl rfl (fun v1024 h1024 => ?_)
        refine qs_gd (fun g1026 => ?_)
        refine qs_si hS1021 hM1021 (pa_p hS1021 pl_2177 ts_2177) h1024 g1026 ei2 (fun S1025 M1025 hS1025 hM1025 => ?_)
        refine qs_gr hS1025 pl_2157 ts_2157 rfl ?_
        refine qs_gi hS1025 hM1025 pl_2157 ts_2157 (z := 30) rfl rfl (fun v1028 h1028 => ?_)
        refine qs_gd (fun g1030 => ?_)
        refine qs_si hS1025 hM1025 (pa_p hS1025 pl_2178 ts_2178) h1028 g1030 ei3 (fun S1029 M1029 hS1029 hM1029 => ?_)
        refine qs_gi hS1029 hM1029 pl_2157 ts_2157 (z := 30) rfl rfl (fun v1031 h1031 => ?_)
        refine qs_pi hS1029 hM1029 pl_2157 ts_2157 (z := 30) rfl rfl (p_add h1031 k_1) (fun S1032 M1032 hS1032 hM1032 => ?_)
        exact (qz_X16_findPoints_J232 hS1032 hM1032 ei1 ei3)
theorem qz_X16_findPoints_L160 (n : Nat) : ∀ {P : Nat → Nat} {S : zm_S} {M : qm} {i1 : Int32} {qi1 : Int} {i2 : Int32} {qi2 : Int} {i3 : Int32} {qi3 : Int} (hS : Sh L xs P S) (hM : qM P S = M) (ei1 : i1.toInt = qi1) (ei2 : i2.toInt = qi2) (ei3 : i3.toInt = qi3), qs (zf_X16_findPoints_L160 20000 n 2157 i1 i2 i3 S) (qf_X16_findPoints_L160 20000 n qi1 qi2 qi3 M) (tO (vs (rr L xs P vu) (rr L xs P vu))) := by
  induction n with
  | zero =>
    intros
    exact qs_none
  | succ n ih =>
    intro P S M i1 qi1 i2 qi2 i3 qi3 hS hM ei1 ei2 ei3
    unfold qf_X16_findPoints_L160
    refine qs_loop (C := (qc_X16_findPoints_L160 L xs P (zf_X16_findPoints_L160 20000 n))) (qz_X16_findPoints_L160_b n hS hM ei1 ei2 ei3) ?_
    rintro x s ⟨_, _, _, _, rfl, u0, u1, u2, hS2, hM2⟩
    exact ih hS2 hM2 u0 u1 u2
set_option maxRecDepth 20000 in
theorem qz_X16_findPoints_L148_b (n : Nat) {P : Nat → Nat} {S : zm_S} {M : qm} {i1 : Int32} {qi1 : Int} (hS : Sh L xs P S) (hM : qM P S = M) (ei1 : i1.toInt = qi1) : qs (zf_X16_findPoints_L148 20000 (n + 1) 2157 i1 S) (qf_X16_findPoints_L148_b 20000 qi1 M) (tk (vs (rr L xs P vu) (rr L xs P vu)) (qc_X16_findPoints_L148 L xs P (zf_X16_findPoints_L148 20000 n))) := by
  refine qs_eq (zf_X16_findPoints_L148.eq_2 ..) ?_
  unfold qf_X16_findPoints_L148_b
  refine qs_gi hS hM pl_2157 ts_2157 (z := 0) rfl rfl (fun v1033 h1033 => ?_)
  refine qs_ite (c_le h1033 ei1) ?_ ?_
  · exact qs_tr2 (show vu _ _ from trivial) hS hM
  · refine qs_lr (qz_X16_findPoints_L160 20000 hS hM ei1 k_m1 k_0) ?_ ?_
    · intro v1035 S1035 w1035 M1035 h1035 hS1035 hM1035
      dsimp only
      exact qs_tr1 h1035 hS1035 hM1035
    · intro v1035 S1035 w1035 M1035 h1035 hS1035 hM1035
      dsimp only
      exact qs_tk ⟨_, _, rfl, (p_add ei1 k_1), hS1035, hM1035⟩
theorem qz_X16_findPoints_L148 (n : Nat) : ∀ {P : Nat → Nat} {S : zm_S} {M : qm} {i1 : Int32} {qi1 : Int} (hS : Sh L xs P S) (hM : qM P S = M) (ei1 : i1.toInt = qi1), qs (zf_X16_findPoints_L148 20000 n 2157 i1 S) (qf_X16_findPoints_L148 20000 n qi1 M) (tO (vs (rr L xs P vu) (rr L xs P vu))) := by
  induction n with
  | zero =>
    intros
    exact qs_none
  | succ n ih =>
    intro P S M i1 qi1 hS hM ei1
    unfold qf_X16_findPoints_L148
    refine qs_loop (C := (qc_X16_findPoints_L148 L xs P (zf_X16_findPoints_L148 20000 n))) (qz_X16_findPoints_L148_b n hS hM ei1) ?_
    rintro x s ⟨_, _, rfl, u0, hS2, hM2⟩
    exact ih hS2 hM2 u0
set_option maxRecDepth 20000 in
theorem qz_X16_findPoints {P : Nat → Nat} {S : zm_S} {M : qm}  (hS : Sh L xs P S) (hM : qM P S = M)  : qs (zf_X16_findPoints 20000 2157 S) (qf_X16_findPoints 20000 M) (tO (rr L xs P vu)) := by
  unfold zf_X16_findPoints qf_X16_findPoints
  refine qs_pi hS hM pl_2157 ts_2157 (z := 27) rfl rfl k_0 (fun S1036 M1036 hS1036 hM1036 => ?_)
  refine qs_lr (qz_X16_findPoints_L7 20000 hS1036 hM1036 k_0) ?_ ?_
  · intro v1038 S1038 w1038 M1038 h1038 hS1038 hM1038
    dsimp only
    exact qs_tr h1038 hS1038 hM1038
  · intro v1038 S1038 w1038 M1038 h1038 hS1038 hM1038
    dsimp only
    refine qs_pi hS1038 hM1038 pl_2157 ts_2157 (z := 30) rfl rfl k_0 (fun S1039 M1039 hS1039 hM1039 => ?_)
    refine qs_lr (qz_X16_findPoints_L148 20000 hS1039 hM1039 k_0) ?_ ?_
    · intro v1041 S1041 w1041 M1041 h1041 hS1041 hM1041
      dsimp only
      exact qs_tr h1041 hS1041 hM1041
    · intro v1041 S1041 w1041 M1041 h1041 hS1041 hM1041
      dsimp only
      exact qs_tr (show vu _ _ from trivial) hS1041 hM1041
set_option maxRecDepth 20000 in
theorem qz_X16_findRings_L7_b (n : Nat) {P : Nat → Nat} {S : zm_S} {M : qm} {i1 : Int32} {qi1 : Int} (hS : Sh L xs P S) (hM : qM P S = M) (ei1 : i1.toInt = qi1) : qs (zf_X16_findRings_L7 20000 (n + 1) 2157 i1 S) (qf_X16_findRings_L7_b 20000 qi1 M) (tk (vs (rr L xs P vu) (rr L xs P vu)) (qc_X16_findRings_L7 L xs P (zf_X16_findRings_L7 20000 n))) := by
  refine qs_eq (zf_X16_findRings_L7.eq_2 ..) ?_
  unfold qf_X16_findRings_L7_b
  refine qs_gi hS hM pl_2157 ts_2157 (z := 30) rfl rfl (fun v1042 h1042 => ?_)
  refine qs_ite (c_le (p_mul k_2 h1042) ei1) ?_ ?_
  · exact qs_tr2 (show vu _ _ from trivial) hS hM
  · refine qs_gr hS pl_2157 ts_2157 rfl ?_
    refine qs_gd (fun g1045 => ?_)
    refine qs_sz hS hM (pa_p hS pl_2179 ts_2179) ei1 g1045 k_0 (by decide) (fun S1044 M1044 hS1044 hM1044 => ?_)
    exact qs_tk ⟨_, _, rfl, (p_add ei1 k_1), hS1044, hM1044⟩
theorem qz_X16_findRings_L7 (n : Nat) : ∀ {P : Nat → Nat} {S : zm_S} {M : qm} {i1 : Int32} {qi1 : Int} (hS : Sh L xs P S) (hM : qM P S = M) (ei1 : i1.toInt = qi1), qs (zf_X16_findRings_L7 20000 n 2157 i1 S) (qf_X16_findRings_L7 20000 n qi1 M) (tO (vs (rr L xs P vu) (rr L xs P vu))) := by
  induction n with
  | zero =>
    intros
    exact qs_none
  | succ n ih =>
    intro P S M i1 qi1 hS hM ei1
    unfold qf_X16_findRings_L7
    refine qs_loop (C := (qc_X16_findRings_L7 L xs P (zf_X16_findRings_L7 20000 n))) (qz_X16_findRings_L7_b n hS hM ei1) ?_
    rintro x s ⟨_, _, rfl, u0, hS2, hM2⟩
    exact ih hS2 hM2 u0
set_option maxRecDepth 20000 in
theorem qz_X16_sideFrom {P : Nat → Nat} {S : zm_S} {M : qm} {i1 : Int32} {qi1 : Int} (hS : Sh L xs P S) (hM : qM P S = M) (ei1 : i1.toInt = qi1) : qs (zf_X16_sideFrom 20000 2157 i1 S) (qf_X16_sideFrom 20000 qi1 M) (tO (rp L xs P M vi)) := by
  unfold zf_X16_sideFrom qf_X16_sideFrom
  refine qs_ite (c_eq (p_mod ei1 k_2) k_0) ?_ ?_
  · refine qs_gr hS pl_2157 ts_2157 rfl ?_
    refine qs_gd (fun g1048 => ?_)
    refine qs_xi hM (pa_p hS pl_2177 ts_2177) (p_div ei1 k_2 (by decide)) g1048 (fun v1047 h1047 => ?_)
    exact qs_tp (show vi _ _ from h1047) hS hM
  · refine qs_gr hS pl_2157 ts_2157 rfl ?_
    refine qs_gd (fun g1051 => ?_)
    refine qs_xi hM (pa_p hS pl_2178 ts_2178) (p_div ei1 k_2 (by decide)) g1051 (fun v1050 h1050 => ?_)
    exact qs_tp (show vi _ _ from h1050) hS hM
set_option maxRecDepth 20000 in
theorem qz_X16_sideWay_J21 {P : Nat → Nat} {S : zm_S} {M : qm} {i1 : Int32} {qi1 : Int} {t0 : Int32} {qt0 : Int} (hS : Sh L xs P S) (hM : qM P S = M) (ei1 : i1.toInt = qi1) (et0 : t0.toInt = qt0) : qs (zf_X16_sideWay_J21 20000 i1 t0 S) (qf_X16_sideWay_J21 20000 qi1 qt0 M) (tO (rp L xs P M vi)) := by
  unfold zf_X16_sideWay_J21 qf_X16_sideWay_J21
  exact qs_tp (show vi _ _ from (p_add et0 (p_mul k_2 (p_mod ei1 k_2)))) hS hM
set_option maxRecDepth 20000 in
theorem qz_X16_sideWay {P : Nat → Nat} {S : zm_S} {M : qm} {i1 : Int32} {qi1 : Int} (hS : Sh L xs P S) (hM : qM P S = M) (ei1 : i1.toInt = qi1) : qs (zf_X16_sideWay 20000 2157 i1 S) (qf_X16_sideWay 20000 qi1 M) (tO (rp L xs P M vi)) := by
  unfold zf_X16_sideWay qf_X16_sideWay
  refine qs_gr hS pl_2157 ts_2157 rfl ?_
  refine qs_gr hS pl_2157 ts_2157 rfl ?_
  refine qs_gd (fun g1055 => ?_)
  refine qs_xi hM (pa_p hS pl_2176 ts_2176) (p_div ei1 k_2 (by decide)) g1055 (fun v1054 h1054 => ?_)
  refine qs_gd (fun g1057 => ?_)
  refine qs_xi hM (pa_p hS pl_2160 ts_2160) h1054 g1057 (fun v1056 h1056 => ?_)
  refine qs_ite (c_eq h1056 k_0) ?_ ?_
  · exact (qz_X16_sideWay_J21 hS hM ei1 k_1)
  · exact (qz_X16_sideWay_J21 hS hM ei1 k_0)
set_option maxRecDepth 20000 in
theorem qz_X16_leaving_J41 {P : Nat → Nat} {S : zm_S} {M : qm} {i1 : Int32} {qi1 : Int} {i2 : Int32} {qi2 : Int} {i3 : Int32} {qi3 : Int} {i4 : Int32} {qi4 : Int} (hS : Sh L xs P S) (hM : qM P S = M) (ei1 : i1.toInt = qi1) (ei2 : i2.toInt = qi2) (ei3 : i3.toInt = qi3) (ei4 : i4.toInt = qi4) {k : Nat → Int32 → Int32 → Int32 → Int32 → zm_S → Option ((Int32 × zm_S) ⊕ ((Int32) × zm_S))} : qs (zf_X16_leaving_J41 20000 k 2157 i1 i2 i3 i4 S) (qf_X16_leaving_J41 20000 qi1 qi2 qi3 qi4 M) (tk (vs (rp L xs P M vi) (rp L xs P M vi)) (qc_X16_leaving_L5 L xs P M k)) := by
  unfold zf_X16_leaving_J41 qf_X16_leaving_J41
  exact qs_tk ⟨_, _, _, _, _, rfl, ei1, ei2, ei3, (p_add ei4 k_1), hS, hM⟩
set_option maxRecDepth 20000 in
theorem qz_X16_leaving_L5_b (n : Nat) {P : Nat → Nat} {S : zm_S} {M : qm} {i1 : Int32} {qi1 : Int} {i2 : Int32} {qi2 : Int} {i3 : Int32} {qi3 : Int} {i4 : Int32} {qi4 : Int} (hS : Sh L xs P S) (hM : qM P S = M) (ei1 : i1.toInt = qi1) (ei2 : i2.toInt = qi2) (ei3 : i3.toInt = qi3) (ei4 : i4.toInt = qi4) : qs (zf_X16_leaving_L5 20000 (n + 1) 2157 i1 i2 i3 i4 S) (qf_X16_leaving_L5_b 20000 qi1 qi2 qi3 qi4 M) (tk (vs (rp L xs P M vi) (rp L xs P M vi)) (qc_X16_leaving_L5 L xs P M (zf_X16_leaving_L5 20000 n))) := by
  refine qs_eq (zf_X16_leaving_L5.eq_2 ..) ?_
  unfold qf_X16_leaving_L5_b
  refine qs_gi hS hM pl_2157 ts_2157 (z := 30) rfl rfl (fun v1058 h1058 => ?_)
  refine qs_ite (c_le (p_mul k_2 h1058) ei4) ?_ ?_
  · exact qs_tp2 (show vi _ _ from ei3) hS hM
  · refine qs_zi hS pl_2157 ts_2157 ?_
    refine qs_bp (qz_X16_sideFrom hS hM ei4) (fun v1060 S1060 w1060 h1060 hS1060 hM1060 => ?_)
    refine qs_ite (c_eq h1060 ei1) ?_ ?_
    · refine qs_zi hS1060 pl_2157 ts_2157 ?_
      refine qs_bp (qz_X16_sideWay hS1060 hM1060 ei4) (fun v1062 S1062 w1062 h1062 hS1062 hM1062 => ?_)
      refine qs_ite (c_eq h1062 ei2) ?_ ?_
      · exact qs_tk ⟨_, _, _, _, _, rfl, ei1, ei2, ei4, (p_add ei4 k_1), hS1062, hM1062⟩
      · exact (qz_X16_leaving_J41 hS1062 hM1062 ei1 ei2 ei3 ei4)
    · exact (qz_X16_leaving_J41 hS1060 hM1060 ei1 ei2 ei3 ei4)
theorem qz_X16_leaving_L5 (n : Nat) : ∀ {P : Nat → Nat} {S : zm_S} {M : qm} {i1 : Int32} {qi1 : Int} {i2 : Int32} {qi2 : Int} {i3 : Int32} {qi3 : Int} {i4 : Int32} {qi4 : Int} (hS : Sh L xs P S) (hM : qM P S = M) (ei1 : i1.toInt = qi1) (ei2 : i2.toInt = qi2) (ei3 : i3.toInt = qi3) (ei4 : i4.toInt = qi4), qs (zf_X16_leaving_L5 20000 n 2157 i1 i2 i3 i4 S) (qf_X16_leaving_L5 20000 n qi1 qi2 qi3 qi4 M) (tO (vs (rp L xs P M vi) (rp L xs P M vi))) := by
  induction n with
  | zero =>
    intros
    exact qs_none
  | succ n ih =>
    intro P S M i1 qi1 i2 qi2 i3 qi3 i4 qi4 hS hM ei1 ei2 ei3 ei4
    unfold qf_X16_leaving_L5
    refine qs_loop (C := (qc_X16_leaving_L5 L xs P M (zf_X16_leaving_L5 20000 n))) (qz_X16_leaving_L5_b n hS hM ei1 ei2 ei3 ei4) ?_
    rintro x s ⟨_, _, _, _, _, rfl, u0, u1, u2, u3, hS2, hM2⟩
    exact ih hS2 hM2 u0 u1 u2 u3
set_option maxRecDepth 20000 in
theorem qz_X16_leaving {P : Nat → Nat} {S : zm_S} {M : qm} {i1 : Int32} {qi1 : Int} {i2 : Int32} {qi2 : Int} (hS : Sh L xs P S) (hM : qM P S = M) (ei1 : i1.toInt = qi1) (ei2 : i2.toInt = qi2) : qs (zf_X16_leaving 20000 2157 i1 i2 S) (qf_X16_leaving 20000 qi1 qi2 M) (tO (rp L xs P M vi)) := by
  unfold zf_X16_leaving qf_X16_leaving
  refine qs_lp (qz_X16_leaving_L5 20000 hS hM ei1 ei2 k_m1 k_0) ?_ ?_
  · intro v1064 S1064 w1064 h1064 hS1064 hM1064
    dsimp only
    exact qs_tp h1064 hS1064 hM1064
  · intro v1064 S1064 w1064 h1064 hS1064 hM1064
    dsimp only
    exact qs_tp (show vi _ _ from h1064) hS1064 hM1064
set_option maxRecDepth 20000 in
theorem qz_X16_sideTo {P : Nat → Nat} {S : zm_S} {M : qm} {i1 : Int32} {qi1 : Int} (hS : Sh L xs P S) (hM : qM P S = M) (ei1 : i1.toInt = qi1) : qs (zf_X16_sideTo 20000 2157 i1 S) (qf_X16_sideTo 20000 qi1 M) (tO (rp L xs P M vi)) := by
  unfold zf_X16_sideTo qf_X16_sideTo
  refine qs_ite (c_eq (p_mod ei1 k_2) k_0) ?_ ?_
  · refine qs_gr hS pl_2157 ts_2157 rfl ?_
    refine qs_gd (fun g1067 => ?_)
    refine qs_xi hM (pa_p hS pl_2178 ts_2178) (p_div ei1 k_2 (by decide)) g1067 (fun v1066 h1066 => ?_)
    exact qs_tp (show vi _ _ from h1066) hS hM
  · refine qs_gr hS pl_2157 ts_2157 rfl ?_
    refine qs_gd (fun g1070 => ?_)
    refine qs_xi hM (pa_p hS pl_2177 ts_2177) (p_div ei1 k_2 (by decide)) g1070 (fun v1069 h1069 => ?_)
    exact qs_tp (show vi _ _ from h1069) hS hM
set_option maxRecDepth 20000 in
theorem qz_X16_next_L4_b (n : Nat) {P : Nat → Nat} {S : zm_S} {M : qm} {i1 : Int32} {qi1 : Int} {i2 : Int32} {qi2 : Int} {i3 : Int32} {qi3 : Int} (hS : Sh L xs P S) (hM : qM P S = M) (ei1 : i1.toInt = qi1) (ei2 : i2.toInt = qi2) (ei3 : i3.toInt = qi3) : qs (zf_X16_next_L4 20000 (n + 1) 2157 i1 i2 i3 S) (qf_X16_next_L4_b 20000 qi1 qi2 qi3 M) (tk (vs (rp L xs P M vi) (rp L xs P M vi)) (qc_X16_next_L4 L xs P M (zf_X16_next_L4 20000 n))) := by
  refine qs_eq (zf_X16_next_L4.eq_2 ..) ?_
  unfold qf_X16_next_L4_b
  refine qs_ite (c_le ei3 k_m3) ?_ ?_
  · exact qs_tp2 (show vi _ _ from ei2) hS hM
  · refine qs_ite (c_le k_0 ei2) ?_ ?_
    · exact qs_tp2 (show vi _ _ from ei2) hS hM
    · refine qs_zi hS pl_2157 ts_2157 ?_
      refine qs_bp (qz_X16_sideTo hS hM ei1) (fun v1072 S1072 w1072 h1072 hS1072 hM1072 => ?_)
      refine qs_zi hS1072 pl_2157 ts_2157 ?_
      refine qs_bp (qz_X16_sideWay hS1072 hM1072 ei1) (fun v1074 S1074 w1074 h1074 hS1074 hM1074 => ?_)
      refine qs_zi hS1074 pl_2157 ts_2157 ?_
      refine qs_bp (qz_X16_leaving hS1074 hM1074 h1072 (p_mod (p_add (p_add h1074 ei3) k_4) k_4)) (fun v1076 S1076 w1076 h1076 hS1076 hM1076 => ?_)
      exact qs_tk ⟨_, _, _, _, rfl, ei1, h1076, (p_addm ei3 k_m1), hS1076, hM1076⟩
theorem qz_X16_next_L4 (n : Nat) : ∀ {P : Nat → Nat} {S : zm_S} {M : qm} {i1 : Int32} {qi1 : Int} {i2 : Int32} {qi2 : Int} {i3 : Int32} {qi3 : Int} (hS : Sh L xs P S) (hM : qM P S = M) (ei1 : i1.toInt = qi1) (ei2 : i2.toInt = qi2) (ei3 : i3.toInt = qi3), qs (zf_X16_next_L4 20000 n 2157 i1 i2 i3 S) (qf_X16_next_L4 20000 n qi1 qi2 qi3 M) (tO (vs (rp L xs P M vi) (rp L xs P M vi))) := by
  induction n with
  | zero =>
    intros
    exact qs_none
  | succ n ih =>
    intro P S M i1 qi1 i2 qi2 i3 qi3 hS hM ei1 ei2 ei3
    unfold qf_X16_next_L4
    refine qs_loop (C := (qc_X16_next_L4 L xs P M (zf_X16_next_L4 20000 n))) (qz_X16_next_L4_b n hS hM ei1 ei2 ei3) ?_
    rintro x s ⟨_, _, _, _, rfl, u0, u1, u2, hS2, hM2⟩
    exact ih hS2 hM2 u0 u1 u2
set_option maxRecDepth 20000 in
theorem qz_X16_next {P : Nat → Nat} {S : zm_S} {M : qm} {i1 : Int32} {qi1 : Int} (hS : Sh L xs P S) (hM : qM P S = M) (ei1 : i1.toInt = qi1) : qs (zf_X16_next 20000 2157 i1 S) (qf_X16_next 20000 qi1 M) (tO (rp L xs P M vi)) := by
  unfold zf_X16_next qf_X16_next
  refine qs_lp (qz_X16_next_L4 20000 hS hM ei1 k_m1 k_1) ?_ ?_
  · intro v1078 S1078 w1078 h1078 hS1078 hM1078
    dsimp only
    exact qs_tp h1078 hS1078 hM1078
  · intro v1078 S1078 w1078 h1078 hS1078 hM1078
    dsimp only
    exact qs_tp (show vi _ _ from h1078) hS1078 hM1078
set_option maxRecDepth 20000 in
theorem qz_X16_findRings_L87_b (n : Nat) {P : Nat → Nat} {S : zm_S} {M : qm} {i1 : Int32} {qi1 : Int} {i2 : Int32} {qi2 : Int} {i3 : Int32} {qi3 : Int} (hS : Sh L xs P S) (hM : qM P S = M) (ei1 : i1.toInt = qi1) (ei2 : i2.toInt = qi2) (ei3 : i3.toInt = qi3) : qs (zf_X16_findRings_L87 20000 (n + 1) 2157 i1 i2 i3 S) (qf_X16_findRings_L87_b 20000 qi1 qi2 qi3 M) (tk (vs (rr L xs P vu) (rr L xs P vu)) (qc_X16_findRings_L87 L xs P (zf_X16_findRings_L87 20000 n))) := by
  refine qs_eq (zf_X16_findRings_L87.eq_2 ..) ?_
  unfold qf_X16_findRings_L87_b
  refine qs_gr hS pl_2157 ts_2157 rfl ?_
  refine qs_gd (fun g1081 => ?_)
  refine qs_xi hM (pa_p hS pl_2179 ts_2179) ei3 g1081 (fun v1080 h1080 => ?_)
  refine qs_ite (c_eq h1080 k_0) ?_ ?_
  · refine qs_gr hS pl_2157 ts_2157 rfl ?_
    refine qs_gd (fun g1084 => ?_)
    refine qs_sz hS hM (pa_p hS pl_2179 ts_2179) ei3 g1084 k_1 (by decide) (fun S1083 M1083 hS1083 hM1083 => ?_)
    refine qs_gr hS1083 pl_2157 ts_2157 rfl ?_
    refine qs_gi hS1083 hM1083 pl_2157 ts_2157 (z := 35) rfl rfl (fun v1086 h1086 => ?_)
    refine qs_gd (fun g1088 => ?_)
    refine qs_xi hM1083 (pa_p hS1083 pl_2181 ts_2181) h1086 g1088 (fun v1087 h1087 => ?_)
    refine qs_gd (fun g1090 => ?_)
    refine qs_si hS1083 hM1083 (pa_p hS1083 pl_2181 ts_2181) h1086 g1090 (p_add h1087 k_1) (fun S1089 M1089 hS1089 hM1089 => ?_)
    refine qs_zi hS1089 pl_2157 ts_2157 ?_
    refine qs_bp (qz_X16_next hS1089 hM1089 ei3) (fun v1092 S1092 w1092 h1092 hS1092 hM1092 => ?_)
    exact qs_tk ⟨_, _, _, _, rfl, ei1, ei2, h1092, hS1092, hM1092⟩
  · exact qs_tr2 (show vu _ _ from trivial) hS hM
theorem qz_X16_findRings_L87 (n : Nat) : ∀ {P : Nat → Nat} {S : zm_S} {M : qm} {i1 : Int32} {qi1 : Int} {i2 : Int32} {qi2 : Int} {i3 : Int32} {qi3 : Int} (hS : Sh L xs P S) (hM : qM P S = M) (ei1 : i1.toInt = qi1) (ei2 : i2.toInt = qi2) (ei3 : i3.toInt = qi3), qs (zf_X16_findRings_L87 20000 n 2157 i1 i2 i3 S) (qf_X16_findRings_L87 20000 n qi1 qi2 qi3 M) (tO (vs (rr L xs P vu) (rr L xs P vu))) := by
  induction n with
  | zero =>
    intros
    exact qs_none
  | succ n ih =>
    intro P S M i1 qi1 i2 qi2 i3 qi3 hS hM ei1 ei2 ei3
    unfold qf_X16_findRings_L87
    refine qs_loop (C := (qc_X16_findRings_L87 L xs P (zf_X16_findRings_L87 20000 n))) (qz_X16_findRings_L87_b n hS hM ei1 ei2 ei3) ?_
    rintro x s ⟨_, _, _, _, rfl, u0, u1, u2, hS2, hM2⟩
    exact ih hS2 hM2 u0 u1 u2
set_option maxRecDepth 20000 in
theorem qz_X16_findRings_L42_b (n : Nat) {P : Nat → Nat} {S : zm_S} {M : qm} {i1 : Int32} {qi1 : Int} {i2 : Int32} {qi2 : Int} (hS : Sh L xs P S) (hM : qM P S = M) (ei1 : i1.toInt = qi1) (ei2 : i2.toInt = qi2) : qs (zf_X16_findRings_L42 20000 (n + 1) 2157 i1 i2 S) (qf_X16_findRings_L42_b 20000 qi1 qi2 M) (tk (vs (rr L xs P vu) (rr L xs P vu)) (qc_X16_findRings_L42 L xs P (zf_X16_findRings_L42 20000 n))) := by
  refine qs_eq (zf_X16_findRings_L42.eq_2 ..) ?_
  unfold qf_X16_findRings_L42_b
  refine qs_ite (c_le k_4 ei2) ?_ ?_
  · exact qs_tr2 (show vu _ _ from trivial) hS hM
  · refine qs_zi hS pl_2157 ts_2157 ?_
    refine qs_bp (qz_X16_leaving hS hM ei1 ei2) (fun v1094 S1094 w1094 h1094 hS1094 hM1094 => ?_)
    refine qs_ite (c_lt h1094 k_0) ?_ ?_
    · exact qs_tk ⟨_, _, _, rfl, ei1, (p_add ei2 k_1), hS1094, hM1094⟩
    · refine qs_gr hS1094 pl_2157 ts_2157 rfl ?_
      refine qs_gd (fun g1097 => ?_)
      refine qs_xi hM1094 (pa_p hS1094 pl_2179 ts_2179) h1094 g1097 (fun v1096 h1096 => ?_)
      refine qs_ite (c_eq h1096 k_0) ?_ ?_
      · refine qs_gr hS1094 pl_2157 ts_2157 rfl ?_
        refine qs_gi hS1094 hM1094 pl_2157 ts_2157 (z := 35) rfl rfl (fun v1099 h1099 => ?_)
        refine qs_gd (fun g1101 => ?_)
        refine qs_si hS1094 hM1094 (pa_p hS1094 pl_2180 ts_2180) h1099 g1101 h1094 (fun S1100 M1100 hS1100 hM1100 => ?_)
        refine qs_gr hS1100 pl_2157 ts_2157 rfl ?_
        refine qs_gi hS1100 hM1100 pl_2157 ts_2157 (z := 35) rfl rfl (fun v1103 h1103 => ?_)
        refine qs_gd (fun g1105 => ?_)
        refine qs_si hS1100 hM1100 (pa_p hS1100 pl_2181 ts_2181) h1103 g1105 k_0 (fun S1104 M1104 hS1104 hM1104 => ?_)
        refine qs_lr (qz_X16_findRings_L87 20000 hS1104 hM1104 ei1 ei2 h1094) ?_ ?_
        · intro v1107 S1107 w1107 M1107 h1107 hS1107 hM1107
          dsimp only
          exact qs_tr1 h1107 hS1107 hM1107
        · intro v1107 S1107 w1107 M1107 h1107 hS1107 hM1107
          dsimp only
          refine qs_gi hS1107 hM1107 pl_2157 ts_2157 (z := 35) rfl rfl (fun v1108 h1108 => ?_)
          refine qs_pi hS1107 hM1107 pl_2157 ts_2157 (z := 35) rfl rfl (p_add h1108 k_1) (fun S1109 M1109 hS1109 hM1109 => ?_)
          exact qs_tk ⟨_, _, _, rfl, ei1, (p_add ei2 k_1), hS1109, hM1109⟩
      · exact qs_tk ⟨_, _, _, rfl, ei1, (p_add ei2 k_1), hS1094, hM1094⟩
theorem qz_X16_findRings_L42 (n : Nat) : ∀ {P : Nat → Nat} {S : zm_S} {M : qm} {i1 : Int32} {qi1 : Int} {i2 : Int32} {qi2 : Int} (hS : Sh L xs P S) (hM : qM P S = M) (ei1 : i1.toInt = qi1) (ei2 : i2.toInt = qi2), qs (zf_X16_findRings_L42 20000 n 2157 i1 i2 S) (qf_X16_findRings_L42 20000 n qi1 qi2 M) (tO (vs (rr L xs P vu) (rr L xs P vu))) := by
  induction n with
  | zero =>
    intros
    exact qs_none
  | succ n ih =>
    intro P S M i1 qi1 i2 qi2 hS hM ei1 ei2
    unfold qf_X16_findRings_L42
    refine qs_loop (C := (qc_X16_findRings_L42 L xs P (zf_X16_findRings_L42 20000 n))) (qz_X16_findRings_L42_b n hS hM ei1 ei2) ?_
    rintro x s ⟨_, _, _, rfl, u0, u1, hS2, hM2⟩
    exact ih hS2 hM2 u0 u1
set_option maxRecDepth 20000 in
theorem qz_X16_findRings_L32_b (n : Nat) {P : Nat → Nat} {S : zm_S} {M : qm} {i1 : Int32} {qi1 : Int} (hS : Sh L xs P S) (hM : qM P S = M) (ei1 : i1.toInt = qi1) : qs (zf_X16_findRings_L32 20000 (n + 1) 2157 i1 S) (qf_X16_findRings_L32_b 20000 qi1 M) (tk (vs (rr L xs P vu) (rr L xs P vu)) (qc_X16_findRings_L32 L xs P (zf_X16_findRings_L32 20000 n))) := by
  refine qs_eq (zf_X16_findRings_L32.eq_2 ..) ?_
  unfold qf_X16_findRings_L32_b
  refine qs_gi hS hM pl_2157 ts_2157 (z := 27) rfl rfl (fun v1110 h1110 => ?_)
  refine qs_ite (c_le h1110 ei1) ?_ ?_
  · exact qs_tr2 (show vu _ _ from trivial) hS hM
  · refine qs_lr (qz_X16_findRings_L42 20000 hS hM ei1 k_0) ?_ ?_
    · intro v1112 S1112 w1112 M1112 h1112 hS1112 hM1112
      dsimp only
      exact qs_tr1 h1112 hS1112 hM1112
    · intro v1112 S1112 w1112 M1112 h1112 hS1112 hM1112
      dsimp only
      exact qs_tk ⟨_, _, rfl, (p_add ei1 k_1), hS1112, hM1112⟩
theorem qz_X16_findRings_L32 (n : Nat) : ∀ {P : Nat → Nat} {S : zm_S} {M : qm} {i1 : Int32} {qi1 : Int} (hS : Sh L xs P S) (hM : qM P S = M) (ei1 : i1.toInt = qi1), qs (zf_X16_findRings_L32 20000 n 2157 i1 S) (qf_X16_findRings_L32 20000 n qi1 M) (tO (vs (rr L xs P vu) (rr L xs P vu))) := by
  induction n with
  | zero =>
    intros
    exact qs_none
  | succ n ih =>
    intro P S M i1 qi1 hS hM ei1
    unfold qf_X16_findRings_L32
    refine qs_loop (C := (qc_X16_findRings_L32 L xs P (zf_X16_findRings_L32 20000 n))) (qz_X16_findRings_L32_b n hS hM ei1) ?_
    rintro x s ⟨_, _, rfl, u0, hS2, hM2⟩
    exact ih hS2 hM2 u0
end QZ
