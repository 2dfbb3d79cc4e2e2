/-! ===== each function over memories is the one over plain states, by program (wip/tools/q) ===== -/
section QZ
variable {L : Nat} {xs : Nat → Int32}
set_option maxRecDepth 20000 in
theorem qz_X5_readSentences {P : Nat → Nat} {S : zm_S} {M : qm} {i1 : Int32} {qi1 : Int} (hS : Sh L xs P S) (hM : qM P S = M) (ei1 : i1.toInt = qi1) : qs (zf_X5_readSentences 20000 908 i1 S) (qf_X5_readSentences 20000 qi1 M) (tO (rr L xs P vi)) := by
  unfold zf_X5_readSentences qf_X5_readSentences
  refine qs_pi hS hM pl_908 ts_908 (z := 3) rfl rfl ei1 (fun S5661 M5661 hS5661 hM5661 => ?_)
  refine qs_zi hS5661 pl_908 ts_908 ?_
  refine qs_b (qz_X5_forgetTables hS5661 hM5661 ) (fun v5663 S5663 w5663 M5663 h5663 hS5663 hM5663 => ?_)
  refine qs_pi hS5663 hM5663 pl_908 ts_908 (z := 4) rfl rfl k_m1 (fun S5664 M5664 hS5664 hM5664 => ?_)
  refine qs_pi hS5664 hM5664 pl_908 ts_908 (z := 7) rfl rfl k_0 (fun S5665 M5665 hS5665 hM5665 => ?_)
  refine qs_zi hS5665 pl_908 ts_908 ?_
  refine qs_b (qz_X5_nextWord hS5665 hM5665 ) (fun v5667 S5667 w5667 M5667 h5667 hS5667 hM5667 => ?_)
  refine qs_lr (qz_X5_readSentences_L25 20000 hS5667 hM5667 k_0) ?_ ?_
  · intro v5669 S5669 w5669 M5669 h5669 hS5669 hM5669
    dsimp only
    exact qs_tr h5669 hS5669 hM5669
  · intro v5669 S5669 w5669 M5669 h5669 hS5669 hM5669
    dsimp only
    exact qs_tr (show vi _ _ from k_1) hS5669 hM5669
set_option maxRecDepth 20000 in
theorem qz_X4_takeTables_L2_b (n : Nat) {P : Nat → Nat} {S : zm_S} {M : qm} {i2 : Int32} {qi2 : Int} (hS : Sh L xs P S) (hM : qM P S = M) (ei2 : i2.toInt = qi2) : qs (zf_X4_takeTables_L2 20000 (n + 1) 1172 908 i2 S) (qf_X4_takeTables_L2_b 20000 qi2 M) (tk (vs (rr L xs P vu) (rr L xs P vu)) (qc_X4_takeTables_L2 L xs P (zf_X4_takeTables_L2 20000 n))) := by
  refine qs_eq (zf_X4_takeTables_L2.eq_2 ..) ?_
  unfold qf_X4_takeTables_L2_b
  refine qs_ite (c_le k_20 ei2) ?_ ?_
  · exact qs_tr2 (show vu _ _ from trivial) hS hM
  · refine qs_gr hS pl_908 ts_908 rfl ?_
    refine qs_gd (fun g5672 => ?_)
    refine qs_xt hS pl_910 ts_910 (Or.inl rfl) ei2 g5672 (fun b5671 r5671 => ?_)
    refine qs_gr hS pl_1172 ts_1172 rfl ?_
    refine qs_gd (fun g5675 => ?_)
    refine qs_xt hS pl_1176 ts_1176 (Or.inl rfl) ei2 g5675 (fun b5674 r5674 => ?_)
    refine qs_gr hS pl_1172 ts_1172 rfl ?_
    refine qs_gd (fun g5678 => ?_)
    refine qs_xt hS pl_1176 ts_1176 (Or.inl rfl) ei2 g5678 (fun b5677 r5677 => ?_)
    refine qs_yn hS qt_1176 tq_1176 (by decide) r5677 (x := 14) (by decide) (fun v5679 h5679 => ?_)
    refine qs_cqi hS hM qt_910 tq_910 r5671 qt_1176 tq_1176 r5674 k_0 k_0 h5679 (by decide) (fun S5680 M5680 hS5680 hM5680 => ?_)
    exact qs_tk ⟨_, _, rfl, (p_add ei2 k_1), hS5680, hM5680⟩
theorem qz_X4_takeTables_L2 (n : Nat) : ∀ {P : Nat → Nat} {S : zm_S} {M : qm} {i2 : Int32} {qi2 : Int} (hS : Sh L xs P S) (hM : qM P S = M) (ei2 : i2.toInt = qi2), qs (zf_X4_takeTables_L2 20000 n 1172 908 i2 S) (qf_X4_takeTables_L2 20000 n qi2 M) (tO (vs (rr L xs P vu) (rr L xs P vu))) := by
  induction n with
  | zero =>
    intros
    exact qs_none
  | succ n ih =>
    intro P S M i2 qi2 hS hM ei2
    unfold qf_X4_takeTables_L2
    refine qs_loop (C := (qc_X4_takeTables_L2 L xs P (zf_X4_takeTables_L2 20000 n))) (qz_X4_takeTables_L2_b n hS hM ei2) ?_
    rintro x s ⟨_, _, rfl, u0, hS2, hM2⟩
    exact ih hS2 hM2 u0
set_option maxRecDepth 20000 in
theorem qz_X4_takeTables_L40_b (n : Nat) {P : Nat → Nat} {S : zm_S} {M : qm} {i2 : Int32} {qi2 : Int} (hS : Sh L xs P S) (hM : qM P S = M) (ei2 : i2.toInt = qi2) : qs (zf_X4_takeTables_L40 20000 (n + 1) 1172 908 i2 S) (qf_X4_takeTables_L40_b 20000 qi2 M) (tk (vs (rr L xs P vu) (rr L xs P vu)) (qc_X4_takeTables_L40 L xs P (zf_X4_takeTables_L40 20000 n))) := by
  refine qs_eq (zf_X4_takeTables_L40.eq_2 ..) ?_
  unfold qf_X4_takeTables_L40_b
  refine qs_ite (c_le k_20 ei2) ?_ ?_
  · exact qs_tr2 (show vu _ _ from trivial) hS hM
  · refine qs_gr hS pl_908 ts_908 rfl ?_
    refine qs_gd (fun g5683 => ?_)
    refine qs_xt hS pl_931 ts_931 (Or.inl rfl) ei2 g5683 (fun b5682 r5682 => ?_)
    refine qs_gr hS pl_1172 ts_1172 rfl ?_
    refine qs_gd (fun g5686 => ?_)
    refine qs_xt hS pl_1197 ts_1197 (Or.inl rfl) ei2 g5686 (fun b5685 r5685 => ?_)
    refine qs_gr hS pl_1172 ts_1172 rfl ?_
    refine qs_gd (fun g5689 => ?_)
    refine qs_xt hS pl_1197 ts_1197 (Or.inl rfl) ei2 g5689 (fun b5688 r5688 => ?_)
    refine qs_yn hS qt_1197 tq_1197 (by decide) r5688 (x := 5) (by decide) (fun v5690 h5690 => ?_)
    refine qs_cqi hS hM qt_931 tq_931 r5682 qt_1197 tq_1197 r5685 k_0 k_0 h5690 (by decide) (fun S5691 M5691 hS5691 hM5691 => ?_)
    refine qs_gr hS5691 pl_1172 ts_1172 rfl ?_
    refine qs_gd (fun g5694 => ?_)
    refine qs_si hS5691 hM5691 (pa_p hS5691 pl_1270 ts_1270) ei2 g5694 k_0 (fun S5693 M5693 hS5693 hM5693 => ?_)
    exact qs_tk ⟨_, _, rfl, (p_add ei2 k_1), hS5693, hM5693⟩
theorem qz_X4_takeTables_L40 (n : Nat) : ∀ {P : Nat → Nat} {S : zm_S} {M : qm} {i2 : Int32} {qi2 : Int} (hS : Sh L xs P S) (hM : qM P S = M) (ei2 : i2.toInt = qi2), qs (zf_X4_takeTables_L40 20000 n 1172 908 i2 S) (qf_X4_takeTables_L40 20000 n qi2 M) (tO (vs (rr L xs P vu) (rr L xs P vu))) := by
  induction n with
  | zero =>
    intros
    exact qs_none
  | succ n ih =>
    intro P S M i2 qi2 hS hM ei2
    unfold qf_X4_takeTables_L40
    refine qs_loop (C := (qc_X4_takeTables_L40 L xs P (zf_X4_takeTables_L40 20000 n))) (qz_X4_takeTables_L40_b n hS hM ei2) ?_
    rintro x s ⟨_, _, rfl, u0, hS2, hM2⟩
    exact ih hS2 hM2 u0
set_option maxRecDepth 20000 in
theorem qz_X4_takeTables_L85_b (n : Nat) {P : Nat → Nat} {S : zm_S} {M : qm} {i2 : Int32} {qi2 : Int} (hS : Sh L xs P S) (hM : qM P S = M) (ei2 : i2.toInt = qi2) : qs (zf_X4_takeTables_L85 20000 (n + 1) 1172 908 i2 S) (qf_X4_takeTables_L85_b 20000 qi2 M) (tk (vs (rr L xs P vu) (rr L xs P vu)) (qc_X4_takeTables_L85 L xs P (zf_X4_takeTables_L85 20000 n))) := by
  refine qs_eq (zf_X4_takeTables_L85.eq_2 ..) ?_
  unfold qf_X4_takeTables_L85_b
  refine qs_gi hS hM pl_908 ts_908 (z := 12) rfl rfl (fun v5695 h5695 => ?_)
  refine qs_ite (c_le h5695 ei2) ?_ ?_
  · exact qs_tr2 (show vu _ _ from trivial) hS hM
  · refine qs_gr hS pl_908 ts_908 rfl ?_
    refine qs_gd (fun g5698 => ?_)
    refine qs_xt hS pl_952 ts_952 (Or.inl rfl) ei2 g5698 (fun b5697 r5697 => ?_)
    refine qs_gr hS pl_1172 ts_1172 rfl ?_
    refine qs_gd (fun g5701 => ?_)
    refine qs_xt hS pl_1218 ts_1218 (Or.inl rfl) ei2 g5701 (fun b5700 r5700 => ?_)
    refine qs_gr hS pl_1172 ts_1172 rfl ?_
    refine qs_gd (fun g5704 => ?_)
    refine qs_xt hS pl_1218 ts_1218 (Or.inl rfl) ei2 g5704 (fun b5703 r5703 => ?_)
    refine qs_yn hS qt_1218 tq_1218 (by decide) r5703 (x := 3) (by decide) (fun v5705 h5705 => ?_)
    refine qs_cqi hS hM qt_952 tq_952 r5697 qt_1218 tq_1218 r5700 k_0 k_0 h5705 (by decide) (fun S5706 M5706 hS5706 hM5706 => ?_)
    exact qs_tk ⟨_, _, rfl, (p_add ei2 k_1), hS5706, hM5706⟩
theorem qz_X4_takeTables_L85 (n : Nat) : ∀ {P : Nat → Nat} {S : zm_S} {M : qm} {i2 : Int32} {qi2 : Int} (hS : Sh L xs P S) (hM : qM P S = M) (ei2 : i2.toInt = qi2), qs (zf_X4_takeTables_L85 20000 n 1172 908 i2 S) (qf_X4_takeTables_L85 20000 n qi2 M) (tO (vs (rr L xs P vu) (rr L xs P vu))) := by
  induction n with
  | zero =>
    intros
    exact qs_none
  | succ n ih =>
    intro P S M i2 qi2 hS hM ei2
    unfold qf_X4_takeTables_L85
    refine qs_loop (C := (qc_X4_takeTables_L85 L xs P (zf_X4_takeTables_L85 20000 n))) (qz_X4_takeTables_L85_b n hS hM ei2) ?_
    rintro x s ⟨_, _, rfl, u0, hS2, hM2⟩
    exact ih hS2 hM2 u0
set_option maxRecDepth 20000 in
theorem qz_X4_sortActs_L13_b (n : Nat) {P : Nat → Nat} {S : zm_S} {M : qm} {i1 : Int32} {qi1 : Int} {i2 : Int32} {qi2 : Int} (hS : Sh L xs P S) (hM : qM P S = M) (ei1 : i1.toInt = qi1) (ei2 : i2.toInt = qi2) : qs (zf_X4_sortActs_L13 20000 (n + 1) 1172 i1 i2 S) (qf_X4_sortActs_L13_b 20000 qi1 qi2 M) (tk (vs (rr L xs P vu) (rr L xs P vi)) (qc_X4_sortActs_L13 L xs P (zf_X4_sortActs_L13 20000 n))) := by
  refine qs_eq (zf_X4_sortActs_L13.eq_2 ..) ?_
  unfold qf_X4_sortActs_L13_b
  refine qs_ite (c_le ei2 k_0) ?_ ?_
  · exact qs_tr2 (show vi _ _ from ei2) hS hM
  · refine qs_gr hS pl_1172 ts_1172 rfl ?_
    refine qs_gr hS pl_1172 ts_1172 rfl ?_
    refine qs_gd (fun g5710 => ?_)
    refine qs_xi hM (pa_p hS pl_1269 ts_1269) (p_sub ei2 k_1) g5710 (fun v5709 h5709 => ?_)
    refine qs_gd (fun g5712 => ?_)
    refine qs_xt hS pl_1197 ts_1197 (Or.inl rfl) h5709 g5712 (fun b5711 r5711 => ?_)
    refine qs_yi (j := 2) hS hM qt_1197 tq_1197 r5711 k_2 (by decide) (fun v5713 h5713 => ?_)
    refine qs_gr hS pl_1172 ts_1172 rfl ?_
    refine qs_gd (fun g5716 => ?_)
    refine qs_xt hS pl_1197 ts_1197 (Or.inl rfl) ei1 g5716 (fun b5715 r5715 => ?_)
    refine qs_yi (j := 2) hS hM qt_1197 tq_1197 r5715 k_2 (by decide) (fun v5717 h5717 => ?_)
    refine qs_ite (c_le h5717 h5713) ?_ ?_
    · exact qs_tr2 (show vi _ _ from ei2) hS hM
    · refine qs_gr hS pl_1172 ts_1172 rfl ?_
      refine qs_gr hS pl_1172 ts_1172 rfl ?_
      refine qs_gd (fun g5721 => ?_)
      refine qs_xi hM (pa_p hS pl_1269 ts_1269) (p_sub ei2 k_1) g5721 (fun v5720 h5720 => ?_)
      refine qs_gd (fun g5723 => ?_)
      refine qs_si hS hM (pa_p hS pl_1269 ts_1269) ei2 g5723 h5720 (fun S5722 M5722 hS5722 hM5722 => ?_)
      exact qs_tk ⟨_, _, _, rfl, ei1, (p_addm ei2 k_m1), hS5722, hM5722⟩
theorem qz_X4_sortActs_L13 (n : Nat) : ∀ {P : Nat → Nat} {S : zm_S} {M : qm} {i1 : Int32} {qi1 : Int} {i2 : Int32} {qi2 : Int} (hS : Sh L xs P S) (hM : qM P S = M) (ei1 : i1.toInt = qi1) (ei2 : i2.toInt = qi2), qs (zf_X4_sortActs_L13 20000 n 1172 i1 i2 S) (qf_X4_sortActs_L13 20000 n qi1 qi2 M) (tO (vs (rr L xs P vu) (rr L xs P vi))) := by
  induction n with
  | zero =>
    intros
    exact qs_none
  | succ n ih =>
    intro P S M i1 qi1 i2 qi2 hS hM ei1 ei2
    unfold qf_X4_sortActs_L13
    refine qs_loop (C := (qc_X4_sortActs_L13 L xs P (zf_X4_sortActs_L13 20000 n))) (qz_X4_sortActs_L13_b n hS hM ei1 ei2) ?_
    rintro x s ⟨_, _, _, rfl, u0, u1, hS2, hM2⟩
    exact ih hS2 hM2 u0 u1
set_option maxRecDepth 20000 in
theorem qz_X4_sortActs_J63 {P : Nat → Nat} {S : zm_S} {M : qm} {i1 : Int32} {qi1 : Int} {i2 : Int32} {qi2 : Int} (hS : Sh L xs P S) (hM : qM P S = M) (ei1 : i1.toInt = qi1) (ei2 : i2.toInt = qi2) {k : Nat → Int32 → zm_S → Option ((Unit × zm_S) ⊕ ((Unit) × zm_S))} : qs (zf_X4_sortActs_J63 20000 k 1172 i1 i2 S) (qf_X4_sortActs_J63 20000 qi1 qi2 M) (tk (vs (rr L xs P vu) (rr L xs P vu)) (qc_X4_sortActs_L2 L xs P k)) := by
  unfold zf_X4_sortActs_J63 qf_X4_sortActs_J63
  refine qs_gr hS pl_1172 ts_1172 rfl ?_
  refine qs_gd (fun g5726 => ?_)
  refine qs_si hS hM (pa_p hS pl_1269 ts_1269) ei2 g5726 ei1 (fun S5725 M5725 hS5725 hM5725 => ?_)
  exact qs_tk ⟨_, _, rfl, (p_add ei1 k_1), hS5725, hM5725⟩
set_option maxRecDepth 20000 in
theorem qz_X4_sortActs_L2_b (n : Nat) {P : Nat → Nat} {S : zm_S} {M : qm} {i1 : Int32} {qi1 : Int} (hS : Sh L xs P S) (hM : qM P S = M) (ei1 : i1.toInt = qi1) : qs (zf_X4_sortActs_L2 20000 (n + 1) 1172 i1 S) (qf_X4_sortActs_L2_b 20000 qi1 M) (tk (vs (rr L xs P vu) (rr L xs P vu)) (qc_X4_sortActs_L2 L xs P (zf_X4_sortActs_L2 20000 n))) := by
  refine qs_eq (zf_X4_sortActs_L2.eq_2 ..) ?_
  unfold qf_X4_sortActs_L2_b
  refine qs_gr hS pl_1172 ts_1172 rfl ?_
  refine qs_n (pa_p hS pl_1269 ts_1269) (by decide) (x := 20) (by decide) (fun v5728 h5728 => ?_)
  refine qs_ite (c_le h5728 ei1) ?_ ?_
  · exact qs_tr2 (show vu _ _ from trivial) hS hM
  · refine qs_lr (qz_X4_sortActs_L13 20000 hS hM ei1 ei1) ?_ ?_
    · intro v5730 S5730 w5730 M5730 h5730 hS5730 hM5730
      dsimp only
      exact qs_tr1 h5730 hS5730 hM5730
    · intro v5730 S5730 w5730 M5730 h5730 hS5730 hM5730
      dsimp only
      exact (qz_X4_sortActs_J63 hS5730 hM5730 ei1 h5730)
theorem qz_X4_sortActs_L2 (n : Nat) : ∀ {P : Nat → Nat} {S : zm_S} {M : qm} {i1 : Int32} {qi1 : Int} (hS : Sh L xs P S) (hM : qM P S = M) (ei1 : i1.toInt = qi1), qs (zf_X4_sortActs_L2 20000 n 1172 i1 S) (qf_X4_sortActs_L2 20000 n qi1 M) (tO (vs (rr L xs P vu) (rr L xs P vu))) := by
  induction n with
  | zero =>
    intros
    exact qs_none
  | succ n ih =>
    intro P S M i1 qi1 hS hM ei1
    unfold qf_X4_sortActs_L2
    refine qs_loop (C := (qc_X4_sortActs_L2 L xs P (zf_X4_sortActs_L2 20000 n))) (qz_X4_sortActs_L2_b n hS hM ei1) ?_
    rintro x s ⟨_, _, rfl, u0, hS2, hM2⟩
    exact ih hS2 hM2 u0
set_option maxRecDepth 20000 in
theorem qz_X4_sortActs {P : Nat → Nat} {S : zm_S} {M : qm}  (hS : Sh L xs P S) (hM : qM P S = M)  : qs (zf_X4_sortActs 20000 1172 S) (qf_X4_sortActs 20000 M) (tO (rr L xs P vu)) := by
  unfold zf_X4_sortActs qf_X4_sortActs
  refine qs_lr (qz_X4_sortActs_L2 20000 hS hM k_0) ?_ ?_
  · intro v5732 S5732 w5732 M5732 h5732 hS5732 hM5732
    dsimp only
    exact qs_tr h5732 hS5732 hM5732
  · intro v5732 S5732 w5732 M5732 h5732 hS5732 hM5732
    dsimp only
    exact qs_tr (show vu _ _ from trivial) hS5732 hM5732
set_option maxRecDepth 20000 in
theorem qz_X4_takeTables {P : Nat → Nat} {S : zm_S} {M : qm}  (hS : Sh L xs P S) (hM : qM P S = M)  : qs (zf_X4_takeTables 20000 1172 908 S) (qf_X4_takeTables 20000 M) (tO (rr L xs P vu)) := by
  unfold zf_X4_takeTables qf_X4_takeTables
  refine qs_lr (qz_X4_takeTables_L2 20000 hS hM k_0) ?_ ?_
  · intro v5734 S5734 w5734 M5734 h5734 hS5734 hM5734
    dsimp only
    exact qs_tr h5734 hS5734 hM5734
  · intro v5734 S5734 w5734 M5734 h5734 hS5734 hM5734
    dsimp only
    refine qs_lr (qz_X4_takeTables_L40 20000 hS5734 hM5734 k_0) ?_ ?_
    · intro v5736 S5736 w5736 M5736 h5736 hS5736 hM5736
      dsimp only
      exact qs_tr h5736 hS5736 hM5736
    · intro v5736 S5736 w5736 M5736 h5736 hS5736 hM5736
      dsimp only
      refine qs_lr (qz_X4_takeTables_L85 20000 hS5736 hM5736 k_0) ?_ ?_
      · intro v5738 S5738 w5738 M5738 h5738 hS5738 hM5738
        dsimp only
        exact qs_tr h5738 hS5738 hM5738
      · intro v5738 S5738 w5738 M5738 h5738 hS5738 hM5738
        dsimp only
        refine qs_gi hS5738 hM5738 pl_908 ts_908 (z := 12) rfl rfl (fun v5739 h5739 => ?_)
        refine qs_pi hS5738 hM5738 pl_1172 ts_1172 (z := 9) rfl rfl h5739 (fun S5740 M5740 hS5740 hM5740 => ?_)
        refine qs_zi hS5740 pl_1172 ts_1172 ?_
        refine qs_b (qz_X4_sortActs hS5740 hM5740 ) (fun v5742 S5742 w5742 M5742 h5742 hS5742 hM5742 => ?_)
        exact qs_tr (show vu _ _ from trivial) hS5742 hM5742
set_option maxRecDepth 20000 in
theorem qz_X11_matrix {P : Nat → Nat} {S : zm_S} {M : qm}  (hS : Sh L xs P S) (hM : qM P S = M)  : qs (zf_X11_matrix 20000 6 S) (qf_X11_matrix 20000 M) (tO (rr L xs P (vs vi ve))) := by
  unfold zf_X11_matrix qf_X11_matrix
  refine qs_gi hS hM pl_6 ts_6 (z := 11) rfl rfl (fun v5743 h5743 => ?_)
  refine qs_xp (qz_X11_needState hS hM h5743) ?_ ?_
  · intro v5745 S5745 w5745 h5745 hS5745 hM5745
    dsimp only
    refine qs_gr hS5745 pl_6 ts_6 rfl ?_
    refine qs_gr hS5745 pl_6 ts_6 rfl ?_
    refine qs_gi hS5745 hM5745 pl_1172 ts_1172 (z := 2) rfl rfl (fun v5748 h5748 => ?_)
    refine qs_zi hS5745 pl_908 ts_908 ?_
    refine qs_b (qz_X5_readSentences hS5745 hM5745 h5748) (fun v5750 S5750 w5750 M5750 h5750 hS5750 hM5750 => ?_)
    refine qs_ite (c_eq h5750 k_0) ?_ ?_
    · refine qs_gr hS5750 pl_6 ts_6 rfl ?_
      refine qs_gi hS5750 hM5750 pl_908 ts_908 (z := 4) rfl rfl (fun v5752 h5752 => ?_)
      exact qs_tr (show (vs vi ve) _ _ from (p_sub k_m1 h5752)) hS5750 hM5750
    · refine qs_gr hS5750 pl_6 ts_6 rfl ?_
      refine qs_gr hS5750 pl_6 ts_6 rfl ?_
      refine qs_zi hS5750 pl_1172 ts_1172 ?_
      refine qs_b (qz_X4_takeTables hS5750 hM5750 ) (fun v5756 S5756 w5756 M5756 h5756 hS5756 hM5756 => ?_)
      refine qs_gr hS5756 pl_6 ts_6 rfl ?_
      refine qs_gi hS5756 hM5756 pl_1172 ts_1172 (z := 9) rfl rfl (fun v5758 h5758 => ?_)
      exact qs_tr (show (vs vi ve) _ _ from h5758) hS5756 hM5756
  · intro v5745 S5745 hS5745 hM5745
    dsimp only
    exact qs_tr (show (vs vi ve) _ _ from rfl) hS5745 hM5745
set_option maxRecDepth 20000 in
theorem qz_L_matrix {P : Nat → Nat} {S : zm_S} {M : qm}  (hS : Sh L xs P S) (hM : qM P S = M)  : qs (zf_L_matrix 20000 6 2332 S) (qf_L_matrix 20000 M) (tO (rr L xs P vi)) := by
  unfold zf_L_matrix qf_L_matrix
  refine qs_zi hS pl_6 ts_6 ?_
  refine qs_xr (qz_X11_matrix hS hM ) ?_ ?_
  · intro v5761 S5761 w5761 M5761 h5761 hS5761 hM5761
    dsimp only
    refine qs_sl hS5761 hM5761 (pa_p hS5761 pl_2332 ts_2332) k_0 (by decide) (p_64 h5761) (fun S5762 M5762 hS5762 hM5762 => ?_)
    exact qs_tr (show vi _ _ from k_0) hS5762 hM5762
  · intro v5761 S5761 M5761 hS5761 hM5761
    dsimp only
    refine qs_ite Iff.rfl ?_ ?_
    · exact qs_tr (show vi _ _ from k_1) hS5761 hM5761
    · exact qs_none
set_option maxRecDepth 20000 in
theorem qz_X14_sort_J32 {P : Nat → Nat} {S : zm_S} {M : qm} {i0 : Int32} {qi0 : Int} (hS : Sh L xs P S) (hM : qM P S = M) (ei0 : i0.toInt = qi0) : qs (zf_X14_sort_J32 20000 i0 S) (qf_X14_sort_J32 20000 qi0 M) (tO (rp L xs P M vi)) := by
  unfold zf_X14_sort_J32 qf_X14_sort_J32
  refine qs_ite (c_le ei0 k_47) ?_ ?_
  · exact qs_tp (show vi _ _ from k_3) hS hM
  · refine qs_ite (c_le k_58 ei0) ?_ ?_
    · exact qs_tp (show vi _ _ from k_3) hS hM
    · exact qs_tp (show vi _ _ from k_2) hS hM
set_option maxRecDepth 20000 in
theorem qz_X14_sort {P : Nat → Nat} {S : zm_S} {M : qm} {i0 : Int32} {qi0 : Int} (hS : Sh L xs P S) (hM : qM P S = M) (ei0 : i0.toInt = qi0) : qs (zf_X14_sort 20000 i0 S) (qf_X14_sort 20000 qi0 M) (tO (rp L xs P M vi)) := by
  unfold zf_X14_sort qf_X14_sort
  refine qs_ite (c_eq ei0 k_32) ?_ ?_
  · exact qs_tp (show vi _ _ from k_0) hS hM
  · refine qs_ite (c_eq ei0 k_10) ?_ ?_
    · exact qs_tp (show vi _ _ from k_0) hS hM
    · refine qs_ite (c_le ei0 k_96) ?_ ?_
      · exact (qz_X14_sort_J32 hS hM ei0)
      · refine qs_ite (c_le k_123 ei0) ?_ ?_
        · exact (qz_X14_sort_J32 hS hM ei0)
        · exact qs_tp (show vi _ _ from k_1) hS hM
set_option maxRecDepth 20000 in
theorem qz_X14_list_J79 {P : Nat → Nat} {S : zm_S} {M : qm} {i2 : Int32} {qi2 : Int} {i3 : Int32} {qi3 : Int} (hS : Sh L xs P S) (hM : qM P S = M) (ei2 : i2.toInt = qi2) (ei3 : i3.toInt = qi3) {k : Nat → Int32 → Int32 → zm_S → Option ((Unit × zm_S) ⊕ ((Unit) × zm_S))} : qs (zf_X14_list_J79 20000 k 2208 i2 i3 S) (qf_X14_list_J79 20000 qi2 qi3 M) (tk (vs (rr L xs P vu) (rr L xs P vu)) (qc_X14_list_L9 L xs P k)) := by
  unfold zf_X14_list_J79 qf_X14_list_J79
  exact qs_tk ⟨_, _, _, rfl, ei3, (p_add ei2 k_1), hS, hM⟩
set_option maxRecDepth 20000 in
theorem qz_X14_list_J61 {P : Nat → Nat} {S : zm_S} {M : qm} {i2 : Int32} {qi2 : Int} {i3 : Int32} {qi3 : Int} (hS : Sh L xs P S) (hM : qM P S = M) (ei2 : i2.toInt = qi2) (ei3 : i3.toInt = qi3) {k : Nat → Int32 → Int32 → zm_S → Option ((Unit × zm_S) ⊕ ((Unit) × zm_S))} : qs (zf_X14_list_J61 20000 k 2208 i2 i3 S) (qf_X14_list_J61 20000 qi2 qi3 M) (tk (vs (rr L xs P vu) (rr L xs P vu)) (qc_X14_list_L9 L xs P k)) := by
  unfold zf_X14_list_J61 qf_X14_list_J61
  refine qs_ite (c_le ei3 k_0) ?_ ?_
  · exact (qz_X14_list_J79 hS hM ei2 ei3)
  · refine qs_gr hS pl_2208 ts_2208 rfl ?_
    refine qs_gi hS hM pl_2208 ts_2208 (z := 7) rfl rfl (fun v5764 h5764 => ?_)
    refine qs_gd (fun g5766 => ?_)
    refine qs_si hS hM (pa_p hS pl_2214 ts_2214) (p_sub h5764 k_1) g5766 (p_add ei2 k_1) (fun S5765 M5765 hS5765 hM5765 => ?_)
    exact (qz_X14_list_J79 hS5765 hM5765 ei2 ei3)
set_option maxRecDepth 20000 in
theorem qz_X14_list_J41 {P : Nat → Nat} {S : zm_S} {M : qm} {i2 : Int32} {qi2 : Int} {i3 : Int32} {qi3 : Int} (hS : Sh L xs P S) (hM : qM P S = M) (ei2 : i2.toInt = qi2) (ei3 : i3.toInt = qi3) {k : Nat → Int32 → Int32 → zm_S → Option ((Unit × zm_S) ⊕ ((Unit) × zm_S))} : qs (zf_X14_list_J41 20000 k 2208 i2 i3 S) (qf_X14_list_J41 20000 qi2 qi3 M) (tk (vs (rr L xs P vu) (rr L xs P vu)) (qc_X14_list_L9 L xs P k)) := by
  unfold zf_X14_list_J41 qf_X14_list_J41
  refine qs_gr hS pl_2208 ts_2208 rfl ?_
  refine qs_gi hS hM pl_2208 ts_2208 (z := 7) rfl rfl (fun v5768 h5768 => ?_)
  refine qs_gd (fun g5770 => ?_)
  refine qs_si hS hM (pa_p hS pl_2213 ts_2213) h5768 g5770 ei2 (fun S5769 M5769 hS5769 hM5769 => ?_)
  refine qs_gi hS5769 hM5769 pl_2208 ts_2208 (z := 7) rfl rfl (fun v5771 h5771 => ?_)
  refine qs_pi hS5769 hM5769 pl_2208 ts_2208 (z := 7) rfl rfl (p_add h5771 k_1) (fun S5772 M5772 hS5772 hM5772 => ?_)
  exact (qz_X14_list_J61 hS5772 hM5772 ei2 ei3)
set_option maxRecDepth 20000 in
theorem qz_X14_list_L9_b (n : Nat) {P : Nat → Nat} {S : zm_S} {M : qm} {i1 : Int32} {qi1 : Int} {i2 : Int32} {qi2 : Int} (hS : Sh L xs P S) (hM : qM P S = M) (ei1 : i1.toInt = qi1) (ei2 : i2.toInt = qi2) : qs (zf_X14_list_L9 20000 (n + 1) 2208 i1 i2 S) (qf_X14_list_L9_b 20000 qi1 qi2 M) (tk (vs (rr L xs P vu) (rr L xs P vu)) (qc_X14_list_L9 L xs P (zf_X14_list_L9 20000 n))) := by
  refine qs_eq (zf_X14_list_L9.eq_2 ..) ?_
  unfold qf_X14_list_L9_b
  refine qs_gi hS hM pl_2208 ts_2208 (z := 6) rfl rfl (fun v5773 h5773 => ?_)
  refine qs_ite (c_le h5773 ei2) ?_ ?_
  · exact qs_tr2 (show vu _ _ from trivial) hS hM
  · refine qs_gr hS pl_2208 ts_2208 rfl ?_
    refine qs_gd (fun g5776 => ?_)
    refine qs_xi hM (pa_p hS pl_2212 ts_2212) ei2 g5776 (fun v5775 h5775 => ?_)
    refine qs_bp (qz_X14_sort hS hM h5775) (fun v5777 S5777 w5777 h5777 hS5777 hM5777 => ?_)
    refine qs_ite (c_le h5777 k_0) ?_ ?_
    · exact (qz_X14_list_J61 hS5777 hM5777 ei2 h5777)
    · refine qs_ite (c_eq h5777 k_3) ?_ ?_
      · exact (qz_X14_list_J41 hS5777 hM5777 ei2 h5777)
      · refine qs_ite (c_eq h5777 ei1) ?_ ?_
        · exact (qz_X14_list_J61 hS5777 hM5777 ei2 h5777)
        · exact (qz_X14_list_J41 hS5777 hM5777 ei2 h5777)
theorem qz_X14_list_L9 (n : Nat) : ∀ {P : Nat → Nat} {S : zm_S} {M : qm} {i1 : Int32} {qi1 : Int} {i2 : Int32} {qi2 : Int} (hS : Sh L xs P S) (hM : qM P S = M) (ei1 : i1.toInt = qi1) (ei2 : i2.toInt = qi2), qs (zf_X14_list_L9 20000 n 2208 i1 i2 S) (qf_X14_list_L9 20000 n qi1 qi2 M) (tO (vs (rr L xs P vu) (rr L xs P vu))) := by
  induction n with
  | zero =>
    intros
    exact qs_none
  | succ n ih =>
    intro P S M i1 qi1 i2 qi2 hS hM ei1 ei2
    unfold qf_X14_list_L9
    refine qs_loop (C := (qc_X14_list_L9 L xs P (zf_X14_list_L9 20000 n))) (qz_X14_list_L9_b n hS hM ei1 ei2) ?_
    rintro x s ⟨_, _, _, rfl, u0, u1, hS2, hM2⟩
    exact ih hS2 hM2 u0 u1
set_option maxRecDepth 20000 in
theorem qz_X14_list {P : Nat → Nat} {S : zm_S} {M : qm}  (hS : Sh L xs P S) (hM : qM P S = M)  : qs (zf_X14_list 20000 2208 S) (qf_X14_list 20000 M) (tO (rr L xs P vu)) := by
  unfold zf_X14_list qf_X14_list
  refine qs_pi hS hM pl_2208 ts_2208 (z := 7) rfl rfl k_0 (fun S5778 M5778 hS5778 hM5778 => ?_)
  refine qs_lr (qz_X14_list_L9 20000 hS5778 hM5778 k_0 k_0) ?_ ?_
  · intro v5780 S5780 w5780 M5780 h5780 hS5780 hM5780
    dsimp only
    exact qs_tr h5780 hS5780 hM5780
  · intro v5780 S5780 w5780 M5780 h5780 hS5780 hM5780
    dsimp only
    exact qs_tr (show vu _ _ from trivial) hS5780 hM5780
set_option maxRecDepth 20000 in
theorem qz_X14_read_L22_b (n : Nat) {P : Nat → Nat} {S : zm_S} {M : qm} {i1 : Int32} {qi1 : Int} (hS : Sh L xs P S) (hM : qM P S = M) (ei1 : i1.toInt = qi1) : qs (zf_X14_read_L22 20000 (n + 1) 2208 i1 S) (qf_X14_read_L22_b 20000 qi1 M) (tk (vs (rr L xs P vi) (rr L xs P vu)) (qc_X14_read_L22 L xs P (zf_X14_read_L22 20000 n))) := by
  refine qs_eq (zf_X14_read_L22.eq_2 ..) ?_
  unfold qf_X14_read_L22_b
  refine qs_ite (c_le k_40 ei1) ?_ ?_
  · exact qs_tr2 (show vu _ _ from trivial) hS hM
  · refine qs_gr hS pl_2208 ts_2208 rfl ?_
    refine qs_gd (fun g5783 => ?_)
    refine qs_sz hS hM (pa_p hS pl_2215 ts_2215) ei1 g5783 k_0 (by decide) (fun S5782 M5782 hS5782 hM5782 => ?_)
    refine qs_gr hS5782 pl_2208 ts_2208 rfl ?_
    refine qs_gd (fun g5786 => ?_)
    refine qs_sz hS5782 hM5782 (pa_p hS5782 pl_2219 ts_2219) ei1 g5786 k_0 (by decide) (fun S5785 M5785 hS5785 hM5785 => ?_)
    exact qs_tk ⟨_, _, rfl, (p_add ei1 k_1), hS5785, hM5785⟩
theorem qz_X14_read_L22 (n : Nat) : ∀ {P : Nat → Nat} {S : zm_S} {M : qm} {i1 : Int32} {qi1 : Int} (hS : Sh L xs P S) (hM : qM P S = M) (ei1 : i1.toInt = qi1), qs (zf_X14_read_L22 20000 n 2208 i1 S) (qf_X14_read_L22 20000 n qi1 M) (tO (vs (rr L xs P vi) (rr L xs P vu))) := by
  induction n with
  | zero =>
    intros
    exact qs_none
  | succ n ih =>
    intro P S M i1 qi1 hS hM ei1
    unfold qf_X14_read_L22
    refine qs_loop (C := (qc_X14_read_L22 L xs P (zf_X14_read_L22 20000 n))) (qz_X14_read_L22_b n hS hM ei1) ?_
    rintro x s ⟨_, _, rfl, u0, hS2, hM2⟩
    exact ih hS2 hM2 u0
set_option maxRecDepth 20000 in
theorem qz_X14_letters_L71_b (n : Nat) {P : Nat → Nat} {S : zm_S} {M : qm} {i1 : Int32} {qi1 : Int} {i2 : Int32} {qi2 : Int} (hS : Sh L xs P S) (hM : qM P S = M) (ei1 : i1.toInt = qi1) (ei2 : i2.toInt = qi2) : qs (zf_X14_letters_L71 20000 (n + 1) 2208 i1 i2 S) (qf_X14_letters_L71_b 20000 qi1 qi2 M) (tk (vs (rp L xs P M vi) (rp L xs P M vi)) (qc_X14_letters_L71 L xs P M (zf_X14_letters_L71 20000 n))) := by
  refine qs_eq (zf_X14_letters_L71.eq_2 ..) ?_
  unfold qf_X14_letters_L71_b
  refine qs_gr hS pl_2208 ts_2208 rfl ?_
  refine qs_gi hS hM pl_2208 ts_2208 (z := 10) rfl rfl (fun v5788 h5788 => ?_)
  refine qs_gd (fun g5790 => ?_)
  refine qs_xi hM (pa_p hS pl_2213 ts_2213) h5788 g5790 (fun v5789 h5789 => ?_)
  refine qs_ite (c_lt ei2 h5789) ?_ ?_
  · exact qs_tp2 (show vi _ _ from ei1) hS hM
  · refine qs_gr hS pl_2208 ts_2208 rfl ?_
    refine qs_gd (fun g5793 => ?_)
    refine qs_xi hM (pa_p hS pl_2212 ts_2212) ei2 g5793 (fun v5792 h5792 => ?_)
    exact qs_tk ⟨_, _, _, rfl, (p_sub (p_add (p_mul k_32 ei1) h5792) k_96), (p_addm ei2 k_m1), hS, hM⟩
theorem qz_X14_letters_L71 (n : Nat) : ∀ {P : Nat → Nat} {S : zm_S} {M : qm} {i1 : Int32} {qi1 : Int} {i2 : Int32} {qi2 : Int} (hS : Sh L xs P S) (hM : qM P S = M) (ei1 : i1.toInt = qi1) (ei2 : i2.toInt = qi2), qs (zf_X14_letters_L71 20000 n 2208 i1 i2 S) (qf_X14_letters_L71 20000 n qi1 qi2 M) (tO (vs (rp L xs P M vi) (rp L xs P M vi))) := by
  induction n with
  | zero =>
    intros
    exact qs_none
  | succ n ih =>
    intro P S M i1 qi1 i2 qi2 hS hM ei1 ei2
    unfold qf_X14_letters_L71
    refine qs_loop (C := (qc_X14_letters_L71 L xs P M (zf_X14_letters_L71 20000 n))) (qz_X14_letters_L71_b n hS hM ei1 ei2) ?_
    rintro x s ⟨_, _, _, rfl, u0, u1, hS2, hM2⟩
    exact ih hS2 hM2 u0 u1
set_option maxRecDepth 20000 in
theorem qz_X14_letters {P : Nat → Nat} {S : zm_S} {M : qm}  (hS : Sh L xs P S) (hM : qM P S = M)  : qs (zf_X14_letters 20000 2208 S) (qf_X14_letters 20000 M) (tO (rp L xs P M vi)) := by
  unfold zf_X14_letters qf_X14_letters
  refine qs_gi hS hM pl_2208 ts_2208 (z := 10) rfl rfl (fun v5794 h5794 => ?_)
  refine qs_gi hS hM pl_2208 ts_2208 (z := 7) rfl rfl (fun v5795 h5795 => ?_)
  refine qs_ite (c_le h5795 h5794) ?_ ?_
  · exact qs_tp (show vi _ _ from k_m1) hS hM
  · refine qs_gr hS pl_2208 ts_2208 rfl ?_
    refine qs_gr hS pl_2208 ts_2208 rfl ?_
    refine qs_gi hS hM pl_2208 ts_2208 (z := 10) rfl rfl (fun v5798 h5798 => ?_)
    refine qs_gd (fun g5800 => ?_)
    refine qs_xi hM (pa_p hS pl_2213 ts_2213) h5798 g5800 (fun v5799 h5799 => ?_)
    refine qs_gd (fun g5802 => ?_)
    refine qs_xi hM (pa_p hS pl_2212 ts_2212) h5799 g5802 (fun v5801 h5801 => ?_)
    refine qs_bp (qz_X14_sort hS hM h5801) (fun v5803 S5803 w5803 h5803 hS5803 hM5803 => ?_)
    refine qs_ite (c_eq h5803 k_1) ?_ ?_
    · refine qs_gr hS5803 pl_2208 ts_2208 rfl ?_
      refine qs_gi hS5803 hM5803 pl_2208 ts_2208 (z := 10) rfl rfl (fun v5805 h5805 => ?_)
      refine qs_gd (fun g5807 => ?_)
      refine qs_xi hM5803 (pa_p hS5803 pl_2214 ts_2214) h5805 g5807 (fun v5806 h5806 => ?_)
      refine qs_gr hS5803 pl_2208 ts_2208 rfl ?_
      refine qs_gi hS5803 hM5803 pl_2208 ts_2208 (z := 10) rfl rfl (fun v5809 h5809 => ?_)
      refine qs_gd (fun g5811 => ?_)
      refine qs_xi hM5803 (pa_p hS5803 pl_2213 ts_2213) h5809 g5811 (fun v5810 h5810 => ?_)
      refine qs_ite (c_le (p_sub h5806 h5810) k_5) ?_ ?_
      · refine qs_gr hS5803 pl_2208 ts_2208 rfl ?_
        refine qs_gi hS5803 hM5803 pl_2208 ts_2208 (z := 10) rfl rfl (fun v5813 h5813 => ?_)
        refine qs_gd (fun g5815 => ?_)
        refine qs_xi hM5803 (pa_p hS5803 pl_2214 ts_2214) h5813 g5815 (fun v5814 h5814 => ?_)
        refine qs_lp (qz_X14_letters_L71 20000 hS5803 hM5803 k_0 (p_sub h5814 k_1)) ?_ ?_
        · intro v5817 S5817 w5817 h5817 hS5817 hM5817
          dsimp only
          exact qs_tp h5817 hS5817 hM5817
        · intro v5817 S5817 w5817 h5817 hS5817 hM5817
          dsimp only
          exact qs_tp (show vi _ _ from h5817) hS5817 hM5817
      · exact qs_tp (show vi _ _ from k_m1) hS5803 hM5803
    · exact qs_tp (show vi _ _ from k_m1) hS5803 hM5803
set_option maxRecDepth 20000 in
theorem qz_X14_look_L84_b (n : Nat) {P : Nat → Nat} {S : zm_S} {M : qm} {i1 : Int32} {qi1 : Int} {i2 : Int32} {qi2 : Int} {i3 : Int32} {qi3 : Int} {i4 : Int32} {qi4 : Int} {i5 : Int32} {qi5 : Int} (hS : Sh L xs P S) (hM : qM P S = M) (ei1 : i1.toInt = qi1) (ei2 : i2.toInt = qi2) (ei3 : i3.toInt = qi3) (ei4 : i4.toInt = qi4) (ei5 : i5.toInt = qi5) : qs (zf_X14_look_L84 20000 (n + 1) 2208 i1 i2 i3 i4 i5 S) (qf_X14_look_L84_b 20000 qi1 qi2 qi3 qi4 qi5 M) (tk (vs (rp L xs P M vi) (rp L xs P M vi)) (qc_X14_look_L84 L xs P M (zf_X14_look_L84 20000 n))) := by
  refine qs_eq (zf_X14_look_L84.eq_2 ..) ?_
  unfold qf_X14_look_L84_b
  refine qs_ite (c_eq ei3 k_0) ?_ ?_
  · exact qs_tp2 (show vi _ _ from ei4) hS hM
  · refine qs_gr hS pl_2208 ts_2208 rfl ?_
    refine qs_gi hS hM pl_2208 ts_2208 (z := 10) rfl rfl (fun v5819 h5819 => ?_)
    refine qs_gd (fun g5821 => ?_)
    refine qs_xi hM (pa_p hS pl_2214 ts_2214) h5819 g5821 (fun v5820 h5820 => ?_)
    refine qs_ite (c_le h5820 ei5) ?_ ?_
    · exact qs_tp2 (show vi _ _ from ei4) hS hM
    · refine qs_gr hS pl_2208 ts_2208 rfl ?_
      refine qs_gd (fun g5824 => ?_)
      refine qs_xi hM (pa_p hS pl_2212 ts_2212) ei5 g5824 (fun v5823 h5823 => ?_)
      exact qs_tk ⟨_, _, _, _, _, _, rfl, ei1, ei2, ei3, (p_sub (p_add (p_mul k_10 ei4) h5823) k_48), (p_add ei5 k_1), hS, hM⟩
theorem qz_X14_look_L84 (n : Nat) : ∀ {P : Nat → Nat} {S : zm_S} {M : qm} {i1 : Int32} {qi1 : Int} {i2 : Int32} {qi2 : Int} {i3 : Int32} {qi3 : Int} {i4 : Int32} {qi4 : Int} {i5 : Int32} {qi5 : Int} (hS : Sh L xs P S) (hM : qM P S = M) (ei1 : i1.toInt = qi1) (ei2 : i2.toInt = qi2) (ei3 : i3.toInt = qi3) (ei4 : i4.toInt = qi4) (ei5 : i5.toInt = qi5), qs (zf_X14_look_L84 20000 n 2208 i1 i2 i3 i4 i5 S) (qf_X14_look_L84 20000 n qi1 qi2 qi3 qi4 qi5 M) (tO (vs (rp L xs P M vi) (rp L xs P M vi))) := by
  induction n with
  | zero =>
    intros
    exact qs_none
  | succ n ih =>
    intro P S M i1 qi1 i2 qi2 i3 qi3 i4 qi4 i5 qi5 hS hM ei1 ei2 ei3 ei4 ei5
    unfold qf_X14_look_L84
    refine qs_loop (C := (qc_X14_look_L84 L xs P M (zf_X14_look_L84 20000 n))) (qz_X14_look_L84_b n hS hM ei1 ei2 ei3 ei4 ei5) ?_
    rintro x s ⟨_, _, _, _, _, _, rfl, u0, u1, u2, u3, u4, hS2, hM2⟩
    exact ih hS2 hM2 u0 u1 u2 u3 u4
set_option maxRecDepth 20000 in
theorem qz_X14_want_J19 {P : Nat → Nat} {S : zm_S} {M : qm}  (hS : Sh L xs P S) (hM : qM P S = M)  : qs (zf_X14_want_J19 20000 2208 S) (qf_X14_want_J19 20000 M) (tO (rr L xs P vi)) := by
  unfold zf_X14_want_J19 qf_X14_want_J19
  refine qs_gi hS hM pl_2208 ts_2208 (z := 11) rfl rfl (fun v5825 h5825 => ?_)
  refine qs_ite (c_le k_0 h5825) ?_ ?_
  · exact qs_tr (show vi _ _ from k_0) hS hM
  · exact qs_tr (show vi _ _ from k_1) hS hM
set_option maxRecDepth 20000 in
theorem qz_X14_want {P : Nat → Nat} {S : zm_S} {M : qm} {i1 : Int32} {qi1 : Int} (hS : Sh L xs P S) (hM : qM P S = M) (ei1 : i1.toInt = qi1) : qs (zf_X14_want 20000 2208 i1 S) (qf_X14_want 20000 qi1 M) (tO (rr L xs P vi)) := by
  unfold zf_X14_want qf_X14_want
  refine qs_ite (c_eq ei1 k_0) ?_ ?_
  · refine qs_gi hS hM pl_2208 ts_2208 (z := 11) rfl rfl (fun v5826 h5826 => ?_)
    refine qs_ite (c_le k_0 h5826) ?_ ?_
    · exact (qz_X14_want_J19 hS hM )
    · refine qs_gi hS hM pl_2208 ts_2208 (z := 10) rfl rfl (fun v5827 h5827 => ?_)
      refine qs_pi hS hM pl_2208 ts_2208 (z := 11) rfl rfl h5827 (fun S5828 M5828 hS5828 hM5828 => ?_)
      exact (qz_X14_want_J19 hS5828 hM5828 )
  · exact (qz_X14_want_J19 hS hM )
set_option maxRecDepth 20000 in
theorem qz_X14_look_J148 {P : Nat → Nat} {S : zm_S} {M : qm} {i4 : Int32} {qi4 : Int} {t1 : Int32} {qt1 : Int} (hS : Sh L xs P S) (hM : qM P S = M) (ei4 : i4.toInt = qi4) (et1 : t1.toInt = qt1) : qs (zf_X14_look_J148 20000 i4 2208 t1 S) (qf_X14_look_J148 20000 qi4 qt1 M) (tO (rr L xs P vi)) := by
  unfold zf_X14_look_J148 qf_X14_look_J148
  refine qs_zi hS pl_2208 ts_2208 ?_
  refine qs_b (qz_X14_want hS hM et1) (fun v5830 S5830 w5830 M5830 h5830 hS5830 hM5830 => ?_)
  refine qs_ite (c_eq h5830 k_0) ?_ ?_
  · exact qs_tr (show vi _ _ from k_m1) hS5830 hM5830
  · exact qs_tr (show vi _ _ from ei4) hS5830 hM5830
set_option maxRecDepth 20000 in
theorem qz_X14_look_J147 {P : Nat → Nat} {S : zm_S} {M : qm} {i4 : Int32} {qi4 : Int} (hS : Sh L xs P S) (hM : qM P S = M) (ei4 : i4.toInt = qi4) : qs (zf_X14_look_J147 20000 i4 2208 S) (qf_X14_look_J147 20000 qi4 M) (tO (rr L xs P vi)) := by
  unfold zf_X14_look_J147 qf_X14_look_J147
  exact (qz_X14_look_J148 hS hM ei4 k_0)
set_option maxRecDepth 20000 in
theorem qz_X14_look_J126 {P : Nat → Nat} {S : zm_S} {M : qm} {i1 : Int32} {qi1 : Int} {i2 : Int32} {qi2 : Int} {i3 : Int32} {qi3 : Int} {i4 : Int32} {qi4 : Int} (hS : Sh L xs P S) (hM : qM P S = M) (ei1 : i1.toInt = qi1) (ei2 : i2.toInt = qi2) (ei3 : i3.toInt = qi3) (ei4 : i4.toInt = qi4) : qs (zf_X14_look_J126 20000 2208 i1 i2 i3 i4 S) (qf_X14_look_J126 20000 qi1 qi2 qi3 qi4 M) (tO (rr L xs P vi)) := by
  unfold zf_X14_look_J126 qf_X14_look_J126
  refine qs_ite (c_eq ei3 k_0) ?_ ?_
  · exact (qz_X14_look_J147 hS hM ei4)
  · refine qs_ite (c_lt ei4 ei1) ?_ ?_
    · exact (qz_X14_look_J147 hS hM ei4)
    · refine qs_ite (c_lt ei2 ei4) ?_ ?_
      · exact (qz_X14_look_J147 hS hM ei4)
      · exact (qz_X14_look_J148 hS hM ei4 k_1)
set_option maxRecDepth 20000 in
theorem qz_X14_look_J82 {P : Nat → Nat} {S : zm_S} {M : qm} {i1 : Int32} {qi1 : Int} {i2 : Int32} {qi2 : Int} {i3 : Int32} {qi3 : Int} {i4 : Int32} {qi4 : Int} {t0 : Int32} {qt0 : Int} (hS : Sh L xs P S) (hM : qM P S = M) (ei1 : i1.toInt = qi1) (ei2 : i2.toInt = qi2) (ei3 : i3.toInt = qi3) (ei4 : i4.toInt = qi4) (et0 : t0.toInt = qt0) : qs (zf_X14_look_J82 20000 2208 i1 i2 i3 i4 t0 S) (qf_X14_look_J82 20000 qi1 qi2 qi3 qi4 qt0 M) (tO (rr L xs P vi)) := by
  unfold zf_X14_look_J82 qf_X14_look_J82
  refine qs_lp (qz_X14_look_L84 20000 hS hM ei1 ei2 ei3 ei4 et0) ?_ ?_
  · intro v5832 S5832 w5832 h5832 hS5832 hM5832
    dsimp only
    exact qs_tr h5832 hS5832 hM5832
  · intro v5832 S5832 w5832 h5832 hS5832 hM5832
    dsimp only
    exact (qz_X14_look_J126 hS5832 hM5832 ei1 ei2 ei3 h5832)
set_option maxRecDepth 20000 in
theorem qz_X14_look_J61 {P : Nat → Nat} {S : zm_S} {M : qm} {i1 : Int32} {qi1 : Int} {i2 : Int32} {qi2 : Int} {t0 : Int32} {qt0 : Int} (hS : Sh L xs P S) (hM : qM P S = M) (ei1 : i1.toInt = qi1) (ei2 : i2.toInt = qi2) (et0 : t0.toInt = qt0) : qs (zf_X14_look_J61 20000 2208 i1 i2 t0 S) (qf_X14_look_J61 20000 qi1 qi2 qt0 M) (tO (rr L xs P vi)) := by
  unfold zf_X14_look_J61 qf_X14_look_J61
  refine qs_ite (c_eq et0 k_0) ?_ ?_
  · exact (qz_X14_look_J82 hS hM ei1 ei2 et0 k_0 k_0)
  · refine qs_gr hS pl_2208 ts_2208 rfl ?_
    refine qs_gi hS hM pl_2208 ts_2208 (z := 10) rfl rfl (fun v5834 h5834 => ?_)
    refine qs_gd (fun g5836 => ?_)
    refine qs_xi hM (pa_p hS pl_2213 ts_2213) h5834 g5836 (fun v5835 h5835 => ?_)
    exact (qz_X14_look_J82 hS hM ei1 ei2 et0 k_0 h5835)
set_option maxRecDepth 20000 in
theorem qz_X14_look_J60 {P : Nat → Nat} {S : zm_S} {M : qm} {i1 : Int32} {qi1 : Int} {i2 : Int32} {qi2 : Int} (hS : Sh L xs P S) (hM : qM P S = M) (ei1 : i1.toInt = qi1) (ei2 : i2.toInt = qi2) : qs (zf_X14_look_J60 20000 2208 i1 i2 S) (qf_X14_look_J60 20000 qi1 qi2 M) (tO (rr L xs P vi)) := by
  unfold zf_X14_look_J60 qf_X14_look_J60
  exact (qz_X14_look_J61 hS hM ei1 ei2 k_0)
set_option maxRecDepth 20000 in
theorem qz_X14_look {P : Nat → Nat} {S : zm_S} {M : qm} {i1 : Int32} {qi1 : Int} {i2 : Int32} {qi2 : Int} (hS : Sh L xs P S) (hM : qM P S = M) (ei1 : i1.toInt = qi1) (ei2 : i2.toInt = qi2) : qs (zf_X14_look 20000 2208 i1 i2 S) (qf_X14_look 20000 qi1 qi2 M) (tO (rr L xs P vi)) := by
  unfold zf_X14_look qf_X14_look
  refine qs_gi hS hM pl_2208 ts_2208 (z := 10) rfl rfl (fun v5837 h5837 => ?_)
  refine qs_gi hS hM pl_2208 ts_2208 (z := 7) rfl rfl (fun v5838 h5838 => ?_)
  refine qs_ite (c_le h5838 h5837) ?_ ?_
  · exact (qz_X14_look_J60 hS hM ei1 ei2)
  · refine qs_gr hS pl_2208 ts_2208 rfl ?_
    refine qs_gr hS pl_2208 ts_2208 rfl ?_
    refine qs_gi hS hM pl_2208 ts_2208 (z := 10) rfl rfl (fun v5841 h5841 => ?_)
    refine qs_gd (fun g5843 => ?_)
    refine qs_xi hM (pa_p hS pl_2213 ts_2213) h5841 g5843 (fun v5842 h5842 => ?_)
    refine qs_gd (fun g5845 => ?_)
    refine qs_xi hM (pa_p hS pl_2212 ts_2212) h5842 g5845 (fun v5844 h5844 => ?_)
    refine qs_bp (qz_X14_sort hS hM h5844) (fun v5846 S5846 w5846 h5846 hS5846 hM5846 => ?_)
    refine qs_ite (c_eq h5846 k_2) ?_ ?_
    · refine qs_gr hS5846 pl_2208 ts_2208 rfl ?_
      refine qs_gi hS5846 hM5846 pl_2208 ts_2208 (z := 10) rfl rfl (fun v5848 h5848 => ?_)
      refine qs_gd (fun g5850 => ?_)
      refine qs_xi hM5846 (pa_p hS5846 pl_2214 ts_2214) h5848 g5850 (fun v5849 h5849 => ?_)
      refine qs_gr hS5846 pl_2208 ts_2208 rfl ?_
      refine qs_gi hS5846 hM5846 pl_2208 ts_2208 (z := 10) rfl rfl (fun v5852 h5852 => ?_)
      refine qs_gd (fun g5854 => ?_)
      refine qs_xi hM5846 (pa_p hS5846 pl_2213 ts_2213) h5852 g5854 (fun v5853 h5853 => ?_)
      refine qs_ite (c_lt k_6 (p_sub h5849 h5853)) ?_ ?_
      · exact (qz_X14_look_J60 hS5846 hM5846 ei1 ei2)
      · exact (qz_X14_look_J61 hS5846 hM5846 ei1 ei2 k_1)
    · exact (qz_X14_look_J60 hS5846 hM5846 ei1 ei2)
set_option maxRecDepth 20000 in
theorem qz_X14_take_J14 {P : Nat → Nat} {S : zm_S} {M : qm} {t1 : Int32} {qt1 : Int} (hS : Sh L xs P S) (hM : qM P S = M) (et1 : t1.toInt = qt1) : qs (zf_X14_take_J14 20000 2208 2208 t1 S) (qf_X14_take_J14 20000 qt1 M) (tO (rr L xs P vu)) := by
  unfold zf_X14_take_J14 qf_X14_take_J14
  refine qs_zi hS pl_2208 ts_2208 ?_
  refine qs_b (qz_X14_want hS hM et1) (fun v5856 S5856 w5856 M5856 h5856 hS5856 hM5856 => ?_)
  refine qs_ite (c_eq h5856 k_0) ?_ ?_
  · exact qs_tr (show vu _ _ from trivial) hS5856 hM5856
  · refine qs_gi hS5856 hM5856 pl_2208 ts_2208 (z := 10) rfl rfl (fun v5857 h5857 => ?_)
    refine qs_pi hS5856 hM5856 pl_2208 ts_2208 (z := 10) rfl rfl (p_add h5857 k_1) (fun S5858 M5858 hS5858 hM5858 => ?_)
    exact qs_tr (show vu _ _ from trivial) hS5858 hM5858
set_option maxRecDepth 20000 in
theorem qz_X14_take {P : Nat → Nat} {S : zm_S} {M : qm} {i1 : Int32} {qi1 : Int} (hS : Sh L xs P S) (hM : qM P S = M) (ei1 : i1.toInt = qi1) : qs (zf_X14_take 20000 2208 i1 S) (qf_X14_take 20000 qi1 M) (tO (rr L xs P vu)) := by
  unfold zf_X14_take qf_X14_take
  refine qs_zi hS pl_2208 ts_2208 ?_
  refine qs_bp (qz_X14_letters hS hM ) (fun v5860 S5860 w5860 h5860 hS5860 hM5860 => ?_)
  refine qs_ite (c_eq h5860 ei1) ?_ ?_
  · exact (qz_X14_take_J14 hS5860 hM5860 k_1)
  · exact (qz_X14_take_J14 hS5860 hM5860 k_0)
set_option maxRecDepth 20000 in
theorem qz_X14_takeNumber_J24 {P : Nat → Nat} {S : zm_S} {M : qm} {i3 : Int32} {qi3 : Int} {t1 : Int32} {qt1 : Int} {t2 : Int32} {qt2 : Int} (hS : Sh L xs P S) (hM : qM P S = M) (ei3 : i3.toInt = qi3) (et1 : t1.toInt = qt1) (et2 : t2.toInt = qt2) : qs (zf_X14_takeNumber_J24 20000 i3 2208 t1 t2 S) (qf_X14_takeNumber_J24 20000 qi3 qt1 qt2 M) (tO (rr L xs P vi)) := by
  unfold zf_X14_takeNumber_J24 qf_X14_takeNumber_J24
  refine qs_pi hS hM pl_2208 ts_2208 (z := 10) rfl rfl (p_add et1 et2) (fun S5861 M5861 hS5861 hM5861 => ?_)
  exact qs_tr (show vi _ _ from ei3) hS5861 hM5861
set_option maxRecDepth 20000 in
theorem qz_X14_takeNumber {P : Nat → Nat} {S : zm_S} {M : qm} {i1 : Int32} {qi1 : Int} {i2 : Int32} {qi2 : Int} (hS : Sh L xs P S) (hM : qM P S = M) (ei1 : i1.toInt = qi1) (ei2 : i2.toInt = qi2) : qs (zf_X14_takeNumber 20000 2208 i1 i2 S) (qf_X14_takeNumber 20000 qi1 qi2 M) (tO (rr L xs P vi)) := by
  unfold zf_X14_takeNumber qf_X14_takeNumber
  refine qs_zi hS pl_2208 ts_2208 ?_
  refine qs_b (qz_X14_look hS hM ei1 ei2) (fun v5863 S5863 w5863 M5863 h5863 hS5863 hM5863 => ?_)
  refine qs_gi hS5863 hM5863 pl_2208 ts_2208 (z := 10) rfl rfl (fun v5864 h5864 => ?_)
  refine qs_gi hS5863 hM5863 pl_2208 ts_2208 (z := 11) rfl rfl (fun v5865 h5865 => ?_)
  refine qs_ite (c_le k_0 h5865) ?_ ?_
  · exact (qz_X14_takeNumber_J24 hS5863 hM5863 h5863 h5864 k_0)
  · exact (qz_X14_takeNumber_J24 hS5863 hM5863 h5863 h5864 k_1)
set_option maxRecDepth 20000 in
theorem qz_X14_isSign {P : Nat → Nat} {S : zm_S} {M : qm} {i1 : Int32} {qi1 : Int} (hS : Sh L xs P S) (hM : qM P S = M) (ei1 : i1.toInt = qi1) : qs (zf_X14_isSign 20000 2208 i1 S) (qf_X14_isSign 20000 qi1 M) (tO (rp L xs P M vi)) := by
  unfold zf_X14_isSign qf_X14_isSign
  refine qs_gi hS hM pl_2208 ts_2208 (z := 10) rfl rfl (fun v5866 h5866 => ?_)
  refine qs_gi hS hM pl_2208 ts_2208 (z := 7) rfl rfl (fun v5867 h5867 => ?_)
  refine qs_ite (c_le h5867 h5866) ?_ ?_
  · exact qs_tp (show vi _ _ from k_0) hS hM
  · refine qs_gr hS pl_2208 ts_2208 rfl ?_
    refine qs_gi hS hM pl_2208 ts_2208 (z := 10) rfl rfl (fun v5869 h5869 => ?_)
    refine qs_gd (fun g5871 => ?_)
    refine qs_xi hM (pa_p hS pl_2214 ts_2214) h5869 g5871 (fun v5870 h5870 => ?_)
    refine qs_gr hS pl_2208 ts_2208 rfl ?_
    refine qs_gi hS hM pl_2208 ts_2208 (z := 10) rfl rfl (fun v5873 h5873 => ?_)
    refine qs_gd (fun g5875 => ?_)
    refine qs_xi hM (pa_p hS pl_2213 ts_2213) h5873 g5875 (fun v5874 h5874 => ?_)
    refine qs_ite (c_eq (p_sub h5870 h5874) k_1) ?_ ?_
    · refine qs_gr hS pl_2208 ts_2208 rfl ?_
      refine qs_gr hS pl_2208 ts_2208 rfl ?_
      refine qs_gi hS hM pl_2208 ts_2208 (z := 10) rfl rfl (fun v5878 h5878 => ?_)
      refine qs_gd (fun g5880 => ?_)
      refine qs_xi hM (pa_p hS pl_2213 ts_2213) h5878 g5880 (fun v5879 h5879 => ?_)
      refine qs_gd (fun g5882 => ?_)
      refine qs_xi hM (pa_p hS pl_2212 ts_2212) h5879 g5882 (fun v5881 h5881 => ?_)
      refine qs_ite (c_eq h5881 ei1) ?_ ?_
      · exact qs_tp (show vi _ _ from k_1) hS hM
      · exact qs_tp (show vi _ _ from k_0) hS hM
    · exact qs_tp (show vi _ _ from k_0) hS hM
set_option maxRecDepth 20000 in
theorem qz_X14_readZone_J189 {P : Nat → Nat} {S : zm_S} {M : qm} {i1 : Int32} {qi1 : Int} {i2 : Int32} {qi2 : Int} {i3 : Int32} {qi3 : Int} (hS : Sh L xs P S) (hM : qM P S = M) (ei1 : i1.toInt = qi1) (ei2 : i2.toInt = qi2) (ei3 : i3.toInt = qi3) {k : Nat → Int32 → Int32 → Int32 → Int32 → zm_S → Option ((Unit × zm_S) ⊕ ((Unit) × zm_S))} : qs (zf_X14_readZone_J189 20000 k 2208 i1 i2 i3 S) (qf_X14_readZone_J189 20000 qi1 qi2 qi3 M) (tk (vs (rr L xs P vu) (rr L xs P vu)) (qc_X14_readZone_L86 L xs P k)) := by
  unfold zf_X14_readZone_J189 qf_X14_readZone_J189
  refine qs_zi hS pl_2208 ts_2208 ?_
  refine qs_bp (qz_X14_isSign hS hM k_59) (fun v5884 S5884 w5884 h5884 hS5884 hM5884 => ?_)
  refine qs_ite (c_eq h5884 k_0) ?_ ?_
  · exact qs_tk ⟨_, _, _, _, _, rfl, ei1, ei2, ei3, k_1, hS5884, hM5884⟩
  · exact qs_tk ⟨_, _, _, _, _, rfl, ei1, ei2, ei3, k_0, hS5884, hM5884⟩
set_option maxRecDepth 20000 in
theorem qz_X14_readZone_J145 {P : Nat → Nat} {S : zm_S} {M : qm} {i1 : Int32} {qi1 : Int} {i2 : Int32} {qi2 : Int} {i3 : Int32} {qi3 : Int} {i5 : Int32} {qi5 : Int} {t1 : Int32} {qt1 : Int} (hS : Sh L xs P S) (hM : qM P S = M) (ei1 : i1.toInt = qi1) (ei2 : i2.toInt = qi2) (ei3 : i3.toInt = qi3) (ei5 : i5.toInt = qi5) (et1 : t1.toInt = qt1) {k : Nat → Int32 → Int32 → Int32 → Int32 → zm_S → Option ((Unit × zm_S) ⊕ ((Unit) × zm_S))} : qs (zf_X14_readZone_J145 20000 k 2208 i1 i2 i3 i5 2208 t1 S) (qf_X14_readZone_J145 20000 qi1 qi2 qi3 qi5 qt1 M) (tk (vs (rr L xs P vu) (rr L xs P vu)) (qc_X14_readZone_L86 L xs P k)) := by
  unfold zf_X14_readZone_J145 qf_X14_readZone_J145
  refine qs_zi hS pl_2208 ts_2208 ?_
  refine qs_b (qz_X14_want hS hM et1) (fun v5886 S5886 w5886 M5886 h5886 hS5886 hM5886 => ?_)
  refine qs_ite (c_eq h5886 k_0) ?_ ?_
  · exact (qz_X14_readZone_J189 hS5886 hM5886 ei1 ei2 ei3)
  · refine qs_gr hS5886 pl_2208 ts_2208 rfl ?_
    refine qs_gr hS5886 pl_2208 ts_2208 rfl ?_
    refine qs_gd (fun g5890 => ?_)
    refine qs_xi hM5886 (pa_p hS5886 pl_2217 ts_2217) ei1 g5890 (fun v5889 h5889 => ?_)
    refine qs_gd (fun g5892 => ?_)
    refine qs_si hS5886 hM5886 (pa_p hS5886 pl_2218 ts_2218) (p_add (p_mul k_12 ei1) h5889) g5892 ei5 (fun S5891 M5891 hS5891 hM5891 => ?_)
    refine qs_gr hS5891 pl_2208 ts_2208 rfl ?_
    refine qs_gd (fun g5895 => ?_)
    refine qs_xi hM5891 (pa_p hS5891 pl_2217 ts_2217) ei1 g5895 (fun v5894 h5894 => ?_)
    refine qs_gd (fun g5897 => ?_)
    refine qs_si hS5891 hM5891 (pa_p hS5891 pl_2217 ts_2217) ei1 g5897 (p_add h5894 k_1) (fun S5896 M5896 hS5896 hM5896 => ?_)
    refine qs_gi hS5896 hM5896 pl_2208 ts_2208 (z := 10) rfl rfl (fun v5898 h5898 => ?_)
    refine qs_pi hS5896 hM5896 pl_2208 ts_2208 (z := 10) rfl rfl (p_add h5898 k_1) (fun S5899 M5899 hS5899 hM5899 => ?_)
    exact (qz_X14_readZone_J189 hS5899 hM5899 ei1 ei2 ei3)
set_option maxRecDepth 20000 in
theorem qz_X14_readZone_J144 {P : Nat → Nat} {S : zm_S} {M : qm} {i1 : Int32} {qi1 : Int} {i2 : Int32} {qi2 : Int} {i3 : Int32} {qi3 : Int} {i5 : Int32} {qi5 : Int} (hS : Sh L xs P S) (hM : qM P S = M) (ei1 : i1.toInt = qi1) (ei2 : i2.toInt = qi2) (ei3 : i3.toInt = qi3) (ei5 : i5.toInt = qi5) {k : Nat → Int32 → Int32 → Int32 → Int32 → zm_S → Option ((Unit × zm_S) ⊕ ((Unit) × zm_S))} : qs (zf_X14_readZone_J144 20000 k 2208 i1 i2 i3 i5 2208 S) (qf_X14_readZone_J144 20000 qi1 qi2 qi3 qi5 M) (tk (vs (rr L xs P vu) (rr L xs P vu)) (qc_X14_readZone_L86 L xs P k)) := by
  unfold zf_X14_readZone_J144 qf_X14_readZone_J144
  exact (qz_X14_readZone_J145 hS hM ei1 ei2 ei3 ei5 k_0)
set_option maxRecDepth 20000 in
theorem qz_X14_has_J36 {P : Nat → Nat} {S : zm_S} {M : qm} {i1 : Int32} {qi1 : Int} {i2 : Int32} {qi2 : Int} {i4 : Int32} {qi4 : Int} (hS : Sh L xs P S) (hM : qM P S = M) (ei1 : i1.toInt = qi1) (ei2 : i2.toInt = qi2) (ei4 : i4.toInt = qi4) {k : Nat → Int32 → Int32 → Int32 → Int32 → zm_S → Option ((Int32 × zm_S) ⊕ ((Int32) × zm_S))} : qs (zf_X14_has_J36 20000 k 2208 i1 i2 i4 S) (qf_X14_has_J36 20000 qi1 qi2 qi4 M) (tk (vs (rp L xs P M vi) (rp L xs P M vi)) (qc_X14_has_L5 L xs P M k)) := by
  unfold zf_X14_has_J36 qf_X14_has_J36
  exact qs_tk ⟨_, _, _, _, _, rfl, ei1, ei2, k_1, (p_add ei4 k_1), hS, hM⟩
set_option maxRecDepth 20000 in
theorem qz_X14_has_L5_b (n : Nat) {P : Nat → Nat} {S : zm_S} {M : qm} {i1 : Int32} {qi1 : Int} {i2 : Int32} {qi2 : Int} {i3 : Int32} {qi3 : Int} {i4 : Int32} {qi4 : Int} (hS : Sh L xs P S) (hM : qM P S = M) (ei1 : i1.toInt = qi1) (ei2 : i2.toInt = qi2) (ei3 : i3.toInt = qi3) (ei4 : i4.toInt = qi4) : qs (zf_X14_has_L5 20000 (n + 1) 2208 i1 i2 i3 i4 S) (qf_X14_has_L5_b 20000 qi1 qi2 qi3 qi4 M) (tk (vs (rp L xs P M vi) (rp L xs P M vi)) (qc_X14_has_L5 L xs P M (zf_X14_has_L5 20000 n))) := by
  refine qs_eq (zf_X14_has_L5.eq_2 ..) ?_
  unfold qf_X14_has_L5_b
  refine qs_gr hS pl_2208 ts_2208 rfl ?_
  refine qs_gd (fun g5902 => ?_)
  refine qs_xi hM (pa_p hS pl_2217 ts_2217) ei1 g5902 (fun v5901 h5901 => ?_)
  refine qs_ite (c_le h5901 ei4) ?_ ?_
  · exact qs_tp2 (show vi _ _ from ei3) hS hM
  · refine qs_ite (c_eq ei3 k_0) ?_ ?_
    · refine qs_gr hS pl_2208 ts_2208 rfl ?_
      refine qs_gd (fun g5905 => ?_)
      refine qs_xi hM (pa_p hS pl_2218 ts_2218) (p_add (p_mul k_12 ei1) ei4) g5905 (fun v5904 h5904 => ?_)
      refine qs_ite (c_eq h5904 ei2) ?_ ?_
      · exact (qz_X14_has_J36 hS hM ei1 ei2 ei4)
      · exact qs_tk ⟨_, _, _, _, _, rfl, ei1, ei2, k_0, (p_add ei4 k_1), hS, hM⟩
    · exact (qz_X14_has_J36 hS hM ei1 ei2 ei4)
theorem qz_X14_has_L5 (n : Nat) : ∀ {P : Nat → Nat} {S : zm_S} {M : qm} {i1 : Int32} {qi1 : Int} {i2 : Int32} {qi2 : Int} {i3 : Int32} {qi3 : Int} {i4 : Int32} {qi4 : Int} (hS : Sh L xs P S) (hM : qM P S = M) (ei1 : i1.toInt = qi1) (ei2 : i2.toInt = qi2) (ei3 : i3.toInt = qi3) (ei4 : i4.toInt = qi4), qs (zf_X14_has_L5 20000 n 2208 i1 i2 i3 i4 S) (qf_X14_has_L5 20000 n qi1 qi2 qi3 qi4 M) (tO (vs (rp L xs P M vi) (rp L xs P M vi))) := by
  induction n with
  | zero =>
    intros
    exact qs_none
  | succ n ih =>
    intro P S M i1 qi1 i2 qi2 i3 qi3 i4 qi4 hS hM ei1 ei2 ei3 ei4
    unfold qf_X14_has_L5
    refine qs_loop (C := (qc_X14_has_L5 L xs P M (zf_X14_has_L5 20000 n))) (qz_X14_has_L5_b n hS hM ei1 ei2 ei3 ei4) ?_
    rintro x s ⟨_, _, _, _, _, rfl, u0, u1, u2, u3, hS2, hM2⟩
    exact ih hS2 hM2 u0 u1 u2 u3
set_option maxRecDepth 20000 in
theorem qz_X14_has {P : Nat → Nat} {S : zm_S} {M : qm} {i1 : Int32} {qi1 : Int} {i2 : Int32} {qi2 : Int} (hS : Sh L xs P S) (hM : qM P S = M) (ei1 : i1.toInt = qi1) (ei2 : i2.toInt = qi2) : qs (zf_X14_has 20000 2208 i1 i2 S) (qf_X14_has 20000 qi1 qi2 M) (tO (rp L xs P M vi)) := by
  unfold zf_X14_has qf_X14_has
  refine qs_lp (qz_X14_has_L5 20000 hS hM ei1 ei2 k_0 k_0) ?_ ?_
  · intro v5907 S5907 w5907 h5907 hS5907 hM5907
    dsimp only
    exact qs_tp h5907 hS5907 hM5907
  · intro v5907 S5907 w5907 h5907 hS5907 hM5907
    dsimp only
    refine qs_ite (or_congr (c_eq h5907 k_0) (c_eq h5907 k_1)) ?_ ?_
    · exact qs_tp (show vi _ _ from h5907) hS5907 hM5907
    · exact qs_none
set_option maxRecDepth 20000 in
theorem qz_X14_readZone_L86_b (n : Nat) {P : Nat → Nat} {S : zm_S} {M : qm} {i1 : Int32} {qi1 : Int} {i2 : Int32} {qi2 : Int} {i3 : Int32} {qi3 : Int} {i4 : Int32} {qi4 : Int} (hS : Sh L xs P S) (hM : qM P S = M) (ei1 : i1.toInt = qi1) (ei2 : i2.toInt = qi2) (ei3 : i3.toInt = qi3) (ei4 : i4.toInt = qi4) : qs (zf_X14_readZone_L86 20000 (n + 1) 2208 i1 i2 i3 i4 S) (qf_X14_readZone_L86_b 20000 qi1 qi2 qi3 qi4 M) (tk (vs (rr L xs P vu) (rr L xs P vu)) (qc_X14_readZone_L86 L xs P (zf_X14_readZone_L86 20000 n))) := by
  refine qs_eq (zf_X14_readZone_L86.eq_2 ..) ?_
  unfold qf_X14_readZone_L86_b
  refine qs_ite (c_eq ei4 k_0) ?_ ?_
  · exact qs_tr2 (show vu _ _ from trivial) hS hM
  · refine qs_gi hS hM pl_2208 ts_2208 (z := 11) rfl rfl (fun v5908 h5908 => ?_)
    refine qs_ite (c_le k_0 h5908) ?_ ?_
    · exact qs_tr2 (show vu _ _ from trivial) hS hM
    · refine qs_gi hS hM pl_2208 ts_2208 (z := 0) rfl rfl (fun v5909 h5909 => ?_)
      refine qs_zi hS pl_2208 ts_2208 ?_
      refine qs_b (qz_X14_look hS hM k_0 (p_sub h5909 k_1)) (fun v5911 S5911 w5911 M5911 h5911 hS5911 hM5911 => ?_)
      refine qs_gi hS5911 hM5911 pl_2208 ts_2208 (z := 11) rfl rfl (fun v5912 h5912 => ?_)
      refine qs_ite (c_le k_0 h5912) ?_ ?_
      · exact (qz_X14_readZone_J189 hS5911 hM5911 ei1 ei2 ei3)
      · refine qs_gr hS5911 pl_2208 ts_2208 rfl ?_
        refine qs_gd (fun g5915 => ?_)
        refine qs_xi hM5911 (pa_p hS5911 pl_2217 ts_2217) ei1 g5915 (fun v5914 h5914 => ?_)
        refine qs_ite (c_le k_12 h5914) ?_ ?_
        · exact (qz_X14_readZone_J144 hS5911 hM5911 ei1 ei2 ei3 h5911)
        · refine qs_zi hS5911 pl_2208 ts_2208 ?_
          refine qs_bp (qz_X14_has hS5911 hM5911 ei1 h5911) (fun v5917 S5917 w5917 h5917 hS5917 hM5917 => ?_)
          refine qs_ite (c_eq h5917 k_0) ?_ ?_
          · exact (qz_X14_readZone_J145 hS5917 hM5917 ei1 ei2 ei3 h5911 k_1)
          · exact (qz_X14_readZone_J144 hS5917 hM5917 ei1 ei2 ei3 h5911)
theorem qz_X14_readZone_L86 (n : Nat) : ∀ {P : Nat → Nat} {S : zm_S} {M : qm} {i1 : Int32} {qi1 : Int} {i2 : Int32} {qi2 : Int} {i3 : Int32} {qi3 : Int} {i4 : Int32} {qi4 : Int} (hS : Sh L xs P S) (hM : qM P S = M) (ei1 : i1.toInt = qi1) (ei2 : i2.toInt = qi2) (ei3 : i3.toInt = qi3) (ei4 : i4.toInt = qi4), qs (zf_X14_readZone_L86 20000 n 2208 i1 i2 i3 i4 S) (qf_X14_readZone_L86 20000 n qi1 qi2 qi3 qi4 M) (tO (vs (rr L xs P vu) (rr L xs P vu))) := by
  induction n with
  | zero =>
    intros
    exact qs_none
  | succ n ih =>
    intro P S M i1 qi1 i2 qi2 i3 qi3 i4 qi4 hS hM ei1 ei2 ei3 ei4
    unfold qf_X14_readZone_L86
    refine qs_loop (C := (qc_X14_readZone_L86 L xs P (zf_X14_readZone_L86 20000 n))) (qz_X14_readZone_L86_b n hS hM ei1 ei2 ei3 ei4) ?_
    rintro x s ⟨_, _, _, _, _, rfl, u0, u1, u2, u3, hS2, hM2⟩
    exact ih hS2 hM2 u0 u1 u2 u3
set_option maxRecDepth 20000 in
theorem qz_X14_readZone_J241 {P : Nat → Nat} {S : zm_S} {M : qm} {i1 : Int32} {qi1 : Int} {i3 : Int32} {qi3 : Int} {t1 : Int32} {qt1 : Int} (hS : Sh L xs P S) (hM : qM P S = M) (ei1 : i1.toInt = qi1) (ei3 : i3.toInt = qi3) (et1 : t1.toInt = qt1) : qs (zf_X14_readZone_J241 20000 2208 i1 i3 2208 t1 S) (qf_X14_readZone_J241 20000 qi1 qi3 qt1 M) (tO (rr L xs P vu)) := by
  unfold zf_X14_readZone_J241 qf_X14_readZone_J241
  refine qs_pi hS hM pl_2208 ts_2208 (z := 11) rfl rfl et1 (fun S5918 M5918 hS5918 hM5918 => ?_)
  refine qs_gr hS5918 pl_2208 ts_2208 rfl ?_
  refine qs_gd (fun g5921 => ?_)
  refine qs_si hS5918 hM5918 (pa_p hS5918 pl_2216 ts_2216) ei1 g5921 ei3 (fun S5920 M5920 hS5920 hM5920 => ?_)
  refine qs_gr hS5920 pl_2208 ts_2208 rfl ?_
  refine qs_gd (fun g5924 => ?_)
  refine qs_sz hS5920 hM5920 (pa_p hS5920 pl_2215 ts_2215) ei1 g5924 k_1 (by decide) (fun S5923 M5923 hS5923 hM5923 => ?_)
  exact qs_tr (show vu _ _ from trivial) hS5923 hM5923
set_option maxRecDepth 20000 in
theorem qz_X14_readZone_J208 {P : Nat → Nat} {S : zm_S} {M : qm} {i1 : Int32} {qi1 : Int} {i2 : Int32} {qi2 : Int} {i3 : Int32} {qi3 : Int} (hS : Sh L xs P S) (hM : qM P S = M) (ei1 : i1.toInt = qi1) (ei2 : i2.toInt = qi2) (ei3 : i3.toInt = qi3) : qs (zf_X14_readZone_J208 20000 2208 i1 i2 i3 S) (qf_X14_readZone_J208 20000 qi1 qi2 qi3 M) (tO (rr L xs P vu)) := by
  unfold zf_X14_readZone_J208 qf_X14_readZone_J208
  refine qs_gi hS hM pl_2208 ts_2208 (z := 11) rfl rfl (fun v5925 h5925 => ?_)
  refine qs_ite (c_le k_0 h5925) ?_ ?_
  · exact qs_tr (show vu _ _ from trivial) hS hM
  · refine qs_gi hS hM pl_2208 ts_2208 (z := 10) rfl rfl (fun v5926 h5926 => ?_)
    refine qs_pi hS hM pl_2208 ts_2208 (z := 10) rfl rfl (p_add h5926 k_1) (fun S5927 M5927 hS5927 hM5927 => ?_)
    refine qs_gr hS5927 pl_2208 ts_2208 rfl ?_
    refine qs_gd (fun g5930 => ?_)
    refine qs_xi hM5927 (pa_p hS5927 pl_2217 ts_2217) ei1 g5930 (fun v5929 h5929 => ?_)
    refine qs_ite (c_le ei3 h5929) ?_ ?_
    · exact (qz_X14_readZone_J241 hS5927 hM5927 ei1 ei3 k_m1)
    · exact (qz_X14_readZone_J241 hS5927 hM5927 ei1 ei3 ei2)
set_option maxRecDepth 20000 in
theorem qz_X14_readZone_J33 {P : Nat → Nat} {S : zm_S} {M : qm} {i1 : Int32} {qi1 : Int} {t1 : Int32} {qt1 : Int} (hS : Sh L xs P S) (hM : qM P S = M) (ei1 : i1.toInt = qi1) (et1 : t1.toInt = qt1) : qs (zf_X14_readZone_J33 20000 2208 i1 2208 t1 S) (qf_X14_readZone_J33 20000 qi1 qt1 M) (tO (rr L xs P vu)) := by
  unfold zf_X14_readZone_J33 qf_X14_readZone_J33
  refine qs_zi hS pl_2208 ts_2208 ?_
  refine qs_b (qz_X14_want hS hM et1) (fun v5932 S5932 w5932 M5932 h5932 hS5932 hM5932 => ?_)
  refine qs_ite (c_eq h5932 k_0) ?_ ?_
  · exact qs_tr (show vu _ _ from trivial) hS5932 hM5932
  · refine qs_gi hS5932 hM5932 pl_2208 ts_2208 (z := 10) rfl rfl (fun v5933 h5933 => ?_)
    refine qs_pi hS5932 hM5932 pl_2208 ts_2208 (z := 10) rfl rfl (p_add h5933 k_1) (fun S5934 M5934 hS5934 hM5934 => ?_)
    refine qs_zi hS5934 pl_2208 ts_2208 ?_
    refine qs_b (qz_X14_take hS5934 hM5934 k_20059310) (fun v5936 S5936 w5936 M5936 h5936 hS5936 hM5936 => ?_)
    refine qs_gi hS5936 hM5936 pl_2208 ts_2208 (z := 10) rfl rfl (fun v5937 h5937 => ?_)
    refine qs_zi hS5936 pl_2208 ts_2208 ?_
    refine qs_b (qz_X14_takeNumber hS5936 hM5936 k_1 k_12) (fun v5939 S5939 w5939 M5939 h5939 hS5939 hM5939 => ?_)
    refine qs_zi hS5939 pl_2208 ts_2208 ?_
    refine qs_b (qz_X14_take hS5939 hM5939 k_207) (fun v5941 S5941 w5941 M5941 h5941 hS5941 hM5941 => ?_)
    refine qs_gr hS5941 pl_2208 ts_2208 rfl ?_
    refine qs_gd (fun g5944 => ?_)
    refine qs_si hS5941 hM5941 (pa_p hS5941 pl_2217 ts_2217) ei1 g5944 k_0 (fun S5943 M5943 hS5943 hM5943 => ?_)
    refine qs_lr (qz_X14_readZone_L86 20000 hS5943 hM5943 ei1 h5937 h5939 k_1) ?_ ?_
    · intro v5946 S5946 w5946 M5946 h5946 hS5946 hM5946
      dsimp only
      exact qs_tr h5946 hS5946 hM5946
    · intro v5946 S5946 w5946 M5946 h5946 hS5946 hM5946
      dsimp only
      exact (qz_X14_readZone_J208 hS5946 hM5946 ei1 h5937 h5939)
set_option maxRecDepth 20000 in
theorem qz_X14_readZone {P : Nat → Nat} {S : zm_S} {M : qm}  (hS : Sh L xs P S) (hM : qM P S = M)  : qs (zf_X14_readZone 20000 2208 S) (qf_X14_readZone 20000 M) (tO (rr L xs P vu)) := by
  unfold zf_X14_readZone qf_X14_readZone
  refine qs_zi hS pl_2208 ts_2208 ?_
  refine qs_b (qz_X14_look hS hM k_0 k_19) (fun v5948 S5948 w5948 M5948 h5948 hS5948 hM5948 => ?_)
  refine qs_gi hS5948 hM5948 pl_2208 ts_2208 (z := 11) rfl rfl (fun v5949 h5949 => ?_)
  refine qs_ite (c_le k_0 h5949) ?_ ?_
  · exact qs_tr (show vu _ _ from trivial) hS5948 hM5948
  · refine qs_gr hS5948 pl_2208 ts_2208 rfl ?_
    refine qs_gd (fun g5952 => ?_)
    refine qs_xi hM5948 (pa_p hS5948 pl_2215 ts_2215) (p_add h5948 k_20) g5952 (fun v5951 h5951 => ?_)
    refine qs_ite (c_eq h5951 k_0) ?_ ?_
    · exact (qz_X14_readZone_J33 hS5948 hM5948 (p_add h5948 k_20) k_1)
    · exact (qz_X14_readZone_J33 hS5948 hM5948 (p_add h5948 k_20) k_0)
set_option maxRecDepth 20000 in
theorem qz_X14_takeStop {P : Nat → Nat} {S : zm_S} {M : qm}  (hS : Sh L xs P S) (hM : qM P S = M)  : qs (zf_X14_takeStop 20000 2208 S) (qf_X14_takeStop 20000 M) (tO (rr L xs P vu)) := by
  unfold zf_X14_takeStop qf_X14_takeStop
  refine qs_zi hS pl_2208 ts_2208 ?_
  refine qs_bp (qz_X14_isSign hS hM k_59) (fun v5954 S5954 w5954 h5954 hS5954 hM5954 => ?_)
  refine qs_zi hS5954 pl_2208 ts_2208 ?_
  refine qs_b (qz_X14_want hS5954 hM5954 h5954) (fun v5956 S5956 w5956 M5956 h5956 hS5956 hM5956 => ?_)
  refine qs_ite (c_eq h5956 k_0) ?_ ?_
  · exact qs_tr (show vu _ _ from trivial) hS5956 hM5956
  · refine qs_gi hS5956 hM5956 pl_2208 ts_2208 (z := 10) rfl rfl (fun v5957 h5957 => ?_)
    refine qs_pi hS5956 hM5956 pl_2208 ts_2208 (z := 10) rfl rfl (p_add h5957 k_1) (fun S5958 M5958 hS5958 hM5958 => ?_)
    exact qs_tr (show vu _ _ from trivial) hS5958 hM5958
set_option maxRecDepth 20000 in
theorem qz_X14_readAct_J33 {P : Nat → Nat} {S : zm_S} {M : qm} {i1 : Int32} {qi1 : Int} {t1 : Int32} {qt1 : Int} (hS : Sh L xs P S) (hM : qM P S = M) (ei1 : i1.toInt = qi1) (et1 : t1.toInt = qt1) : qs (zf_X14_readAct_J33 20000 2208 i1 2208 t1 S) (qf_X14_readAct_J33 20000 qi1 qt1 M) (tO (rr L xs P vu)) := by
  unfold zf_X14_readAct_J33 qf_X14_readAct_J33
  refine qs_zi hS pl_2208 ts_2208 ?_
  refine qs_b (qz_X14_want hS hM et1) (fun v5960 S5960 w5960 M5960 h5960 hS5960 hM5960 => ?_)
  refine qs_ite (c_eq h5960 k_0) ?_ ?_
  · exact qs_tr (show vu _ _ from trivial) hS5960 hM5960
  · refine qs_gi hS5960 hM5960 pl_2208 ts_2208 (z := 10) rfl rfl (fun v5961 h5961 => ?_)
    refine qs_pi hS5960 hM5960 pl_2208 ts_2208 (z := 10) rfl rfl (p_add h5961 k_1) (fun S5962 M5962 hS5962 hM5962 => ?_)
    refine qs_zi hS5962 pl_2208 ts_2208 ?_
    refine qs_b (qz_X14_take hS5962 hM5962 k_145707) (fun v5964 S5964 w5964 M5964 h5964 hS5964 hM5964 => ?_)
    refine qs_gr hS5964 pl_2208 ts_2208 rfl ?_
    refine qs_zi hS5964 pl_2208 ts_2208 ?_
    refine qs_b (qz_X14_takeNumber hS5964 hM5964 k_0 k_5) (fun v5967 S5967 w5967 M5967 h5967 hS5967 hM5967 => ?_)
    refine qs_gd (fun g5969 => ?_)
    refine qs_si hS5967 hM5967 (pa_p hS5967 pl_2220 ts_2220) ei1 g5969 h5967 (fun S5968 M5968 hS5968 hM5968 => ?_)
    refine qs_zi hS5968 pl_2208 ts_2208 ?_
    refine qs_b (qz_X14_take hS5968 hM5968 k_374834) (fun v5971 S5971 w5971 M5971 h5971 hS5971 hM5971 => ?_)
    refine qs_gr hS5971 pl_2208 ts_2208 rfl ?_
    refine qs_zi hS5971 pl_2208 ts_2208 ?_
    refine qs_b (qz_X14_takeNumber hS5971 hM5971 k_0 k_99) (fun v5974 S5974 w5974 M5974 h5974 hS5974 hM5974 => ?_)
    refine qs_gd (fun g5976 => ?_)
    refine qs_si hS5974 hM5974 (pa_p hS5974 pl_2221 ts_2221) ei1 g5976 h5974 (fun S5975 M5975 hS5975 hM5975 => ?_)
    refine qs_zi hS5975 pl_2208 ts_2208 ?_
    refine qs_b (qz_X14_take hS5975 hM5975 k_26259620) (fun v5978 S5978 w5978 M5978 h5978 hS5978 hM5978 => ?_)
    refine qs_gr hS5978 pl_2208 ts_2208 rfl ?_
    refine qs_zi hS5978 pl_2208 ts_2208 ?_
    refine qs_b (qz_X14_takeNumber hS5978 hM5978 k_0 k_600) (fun v5981 S5981 w5981 M5981 h5981 hS5981 hM5981 => ?_)
    refine qs_gd (fun g5983 => ?_)
    refine qs_si hS5981 hM5981 (pa_p hS5981 pl_2222 ts_2222) ei1 g5983 h5981 (fun S5982 M5982 hS5982 hM5982 => ?_)
    refine qs_zi hS5982 pl_2208 ts_2208 ?_
    refine qs_b (qz_X14_takeStop hS5982 hM5982 ) (fun v5985 S5985 w5985 M5985 h5985 hS5985 hM5985 => ?_)
    refine qs_gr hS5985 pl_2208 ts_2208 rfl ?_
    refine qs_gd (fun g5988 => ?_)
    refine qs_sz hS5985 hM5985 (pa_p hS5985 pl_2219 ts_2219) ei1 g5988 k_1 (by decide) (fun S5987 M5987 hS5987 hM5987 => ?_)
    refine qs_gr hS5987 pl_2208 ts_2208 rfl ?_
    refine qs_gd (fun g5991 => ?_)
    refine qs_sz hS5987 hM5987 (pa_p hS5987 pl_2223 ts_2223) ei1 g5991 k_0 (by decide) (fun S5990 M5990 hS5990 hM5990 => ?_)
    exact qs_tr (show vu _ _ from trivial) hS5990 hM5990
set_option maxRecDepth 20000 in
theorem qz_X14_readAct {P : Nat → Nat} {S : zm_S} {M : qm}  (hS : Sh L xs P S) (hM : qM P S = M)  : qs (zf_X14_readAct 20000 2208 S) (qf_X14_readAct 20000 M) (tO (rr L xs P vu)) := by
  unfold zf_X14_readAct qf_X14_readAct
  refine qs_zi hS pl_2208 ts_2208 ?_
  refine qs_b (qz_X14_look hS hM k_0 k_19) (fun v5993 S5993 w5993 M5993 h5993 hS5993 hM5993 => ?_)
  refine qs_gi hS5993 hM5993 pl_2208 ts_2208 (z := 11) rfl rfl (fun v5994 h5994 => ?_)
  refine qs_ite (c_le k_0 h5994) ?_ ?_
  · exact qs_tr (show vu _ _ from trivial) hS5993 hM5993
  · refine qs_gr hS5993 pl_2208 ts_2208 rfl ?_
    refine qs_gd (fun g5997 => ?_)
    refine qs_xi hM5993 (pa_p hS5993 pl_2219 ts_2219) (p_add h5993 k_20) g5997 (fun v5996 h5996 => ?_)
    refine qs_ite (c_eq h5996 k_0) ?_ ?_
    · exact (qz_X14_readAct_J33 hS5993 hM5993 (p_add h5993 k_20) k_1)
    · exact (qz_X14_readAct_J33 hS5993 hM5993 (p_add h5993 k_20) k_0)
set_option maxRecDepth 20000 in
theorem qz_X14_takeZone_J38 {P : Nat → Nat} {S : zm_S} {M : qm} {i2 : Int32} {qi2 : Int} {t1 : Int32} {qt1 : Int} (hS : Sh L xs P S) (hM : qM P S = M) (ei2 : i2.toInt = qi2) (et1 : t1.toInt = qt1) : qs (zf_X14_takeZone_J38 20000 2208 i2 2208 t1 S) (qf_X14_takeZone_J38 20000 qi2 qt1 M) (tO (rr L xs P vi)) := by
  unfold zf_X14_takeZone_J38 qf_X14_takeZone_J38
  refine qs_zi hS pl_2208 ts_2208 ?_
  refine qs_b (qz_X14_want hS hM et1) (fun v5999 S5999 w5999 M5999 h5999 hS5999 hM5999 => ?_)
  refine qs_ite (c_eq h5999 k_0) ?_ ?_
  · exact qs_tr (show vi _ _ from ei2) hS5999 hM5999
  · refine qs_gi hS5999 hM5999 pl_2208 ts_2208 (z := 10) rfl rfl (fun v6000 h6000 => ?_)
    refine qs_pi hS5999 hM5999 pl_2208 ts_2208 (z := 10) rfl rfl (p_add h6000 k_1) (fun S6001 M6001 hS6001 hM6001 => ?_)
    exact qs_tr (show vi _ _ from ei2) hS6001 hM6001
set_option maxRecDepth 20000 in
theorem qz_X14_takeZone_J37 {P : Nat → Nat} {S : zm_S} {M : qm} {i2 : Int32} {qi2 : Int} (hS : Sh L xs P S) (hM : qM P S = M) (ei2 : i2.toInt = qi2) : qs (zf_X14_takeZone_J37 20000 2208 i2 2208 S) (qf_X14_takeZone_J37 20000 qi2 M) (tO (rr L xs P vi)) := by
  unfold zf_X14_takeZone_J37 qf_X14_takeZone_J37
  exact (qz_X14_takeZone_J38 hS hM ei2 k_0)
set_option maxRecDepth 20000 in
theorem qz_X14_takeZone {P : Nat → Nat} {S : zm_S} {M : qm} {i1 : Int32} {qi1 : Int} (hS : Sh L xs P S) (hM : qM P S = M) (ei1 : i1.toInt = qi1) : qs (zf_X14_takeZone 20000 2208 i1 S) (qf_X14_takeZone 20000 qi1 M) (tO (rr L xs P vi)) := by
  unfold zf_X14_takeZone qf_X14_takeZone
  refine qs_zi hS pl_2208 ts_2208 ?_
  refine qs_b (qz_X14_look hS hM k_0 k_19) (fun v6003 S6003 w6003 M6003 h6003 hS6003 hM6003 => ?_)
  refine qs_gi hS6003 hM6003 pl_2208 ts_2208 (z := 11) rfl rfl (fun v6004 h6004 => ?_)
  refine qs_ite (c_le k_0 h6004) ?_ ?_
  · exact qs_tr (show vi _ _ from h6003) hS6003 hM6003
  · refine qs_gr hS6003 pl_2208 ts_2208 rfl ?_
    refine qs_gd (fun g6007 => ?_)
    refine qs_xi hM6003 (pa_p hS6003 pl_2215 ts_2215) (p_add k_20 h6003) g6007 (fun v6006 h6006 => ?_)
    refine qs_ite (c_eq h6006 k_0) ?_ ?_
    · exact (qz_X14_takeZone_J37 hS6003 hM6003 h6003)
    · refine qs_ite (c_eq h6003 ei1) ?_ ?_
      · exact (qz_X14_takeZone_J37 hS6003 hM6003 h6003)
      · exact (qz_X14_takeZone_J38 hS6003 hM6003 h6003 k_1)
set_option maxRecDepth 20000 in
theorem qz_X14_readRow_J98 {P : Nat → Nat} {S : zm_S} {M : qm} {i1 : Int32} {qi1 : Int} {i2 : Int32} {qi2 : Int} {i3 : Int32} {qi3 : Int} (hS : Sh L xs P S) (hM : qM P S = M) (ei1 : i1.toInt = qi1) (ei2 : i2.toInt = qi2) (ei3 : i3.toInt = qi3) : qs (zf_X14_readRow_J98 20000 2208 i1 i2 i3 S) (qf_X14_readRow_J98 20000 qi1 qi2 qi3 M) (tO (rr L xs P vu)) := by
  unfold zf_X14_readRow_J98 qf_X14_readRow_J98
  refine qs_zi hS pl_2208 ts_2208 ?_
  refine qs_b (qz_X14_takeStop hS hM ) (fun v6009 S6009 w6009 M6009 h6009 hS6009 hM6009 => ?_)
  refine qs_gi hS6009 hM6009 pl_2208 ts_2208 (z := 11) rfl rfl (fun v6010 h6010 => ?_)
  refine qs_ite (c_le k_0 h6010) ?_ ?_
  · exact qs_tr (show vu _ _ from trivial) hS6009 hM6009
  · refine qs_gr hS6009 pl_2208 ts_2208 rfl ?_
    refine qs_gi hS6009 hM6009 pl_2208 ts_2208 (z := 22) rfl rfl (fun v6012 h6012 => ?_)
    refine qs_gd (fun g6014 => ?_)
    refine qs_si hS6009 hM6009 (pa_p hS6009 pl_2224 ts_2224) (p_add k_50 h6012) g6014 ei1 (fun S6013 M6013 hS6013 hM6013 => ?_)
    refine qs_gr hS6013 pl_2208 ts_2208 rfl ?_
    refine qs_gi hS6013 hM6013 pl_2208 ts_2208 (z := 22) rfl rfl (fun v6016 h6016 => ?_)
    refine qs_gd (fun g6018 => ?_)
    refine qs_si hS6013 hM6013 (pa_p hS6013 pl_2225 ts_2225) (p_add k_50 h6016) g6018 ei2 (fun S6017 M6017 hS6017 hM6017 => ?_)
    refine qs_gr hS6017 pl_2208 ts_2208 rfl ?_
    refine qs_gi hS6017 hM6017 pl_2208 ts_2208 (z := 22) rfl rfl (fun v6020 h6020 => ?_)
    refine qs_gd (fun g6022 => ?_)
    refine qs_si hS6017 hM6017 (pa_p hS6017 pl_2226 ts_2226) (p_add k_50 h6020) g6022 ei3 (fun S6021 M6021 hS6021 hM6021 => ?_)
    refine qs_gi hS6021 hM6021 pl_2208 ts_2208 (z := 22) rfl rfl (fun v6023 h6023 => ?_)
    refine qs_pi hS6021 hM6021 pl_2208 ts_2208 (z := 22) rfl rfl (p_add h6023 k_1) (fun S6024 M6024 hS6024 hM6024 => ?_)
    exact qs_tr (show vu _ _ from trivial) hS6024 hM6024
set_option maxRecDepth 20000 in
theorem qz_X14_readRow_J64 {P : Nat → Nat} {S : zm_S} {M : qm} {i1 : Int32} {qi1 : Int} {i2 : Int32} {qi2 : Int} {t0 : Int32} {qt0 : Int} (hS : Sh L xs P S) (hM : qM P S = M) (ei1 : i1.toInt = qi1) (ei2 : i2.toInt = qi2) (et0 : t0.toInt = qt0) : qs (zf_X14_readRow_J64 20000 2208 i1 i2 t0 S) (qf_X14_readRow_J64 20000 qi1 qi2 qt0 M) (tO (rr L xs P vu)) := by
  unfold zf_X14_readRow_J64 qf_X14_readRow_J64
  refine qs_gi hS hM pl_2208 ts_2208 (z := 11) rfl rfl (fun v6025 h6025 => ?_)
  refine qs_ite (c_le k_0 h6025) ?_ ?_
  · exact (qz_X14_readRow_J98 hS hM ei1 ei2 et0)
  · refine qs_gr hS pl_2208 ts_2208 rfl ?_
    refine qs_gd (fun g6028 => ?_)
    refine qs_xi hM (pa_p hS pl_2219 ts_2219) (p_add k_20 et0) g6028 (fun v6027 h6027 => ?_)
    refine qs_zi hS pl_2208 ts_2208 ?_
    refine qs_b (qz_X14_want hS hM h6027) (fun v6030 S6030 w6030 M6030 h6030 hS6030 hM6030 => ?_)
    refine qs_ite (c_eq h6030 k_0) ?_ ?_
    · exact (qz_X14_readRow_J98 hS6030 hM6030 ei1 ei2 et0)
    · refine qs_gi hS6030 hM6030 pl_2208 ts_2208 (z := 10) rfl rfl (fun v6031 h6031 => ?_)
      refine qs_pi hS6030 hM6030 pl_2208 ts_2208 (z := 10) rfl rfl (p_add h6031 k_1) (fun S6032 M6032 hS6032 hM6032 => ?_)
      exact (qz_X14_readRow_J98 hS6032 hM6032 ei1 ei2 et0)
set_option maxRecDepth 20000 in
theorem qz_X14_readRow_J40 {P : Nat → Nat} {S : zm_S} {M : qm} {i1 : Int32} {qi1 : Int} {i2 : Int32} {qi2 : Int} (hS : Sh L xs P S) (hM : qM P S = M) (ei1 : i1.toInt = qi1) (ei2 : i2.toInt = qi2) : qs (zf_X14_readRow_J40 20000 2208 i1 i2 S) (qf_X14_readRow_J40 20000 qi1 qi2 M) (tO (rr L xs P vu)) := by
  unfold zf_X14_readRow_J40 qf_X14_readRow_J40
  refine qs_zi hS pl_2208 ts_2208 ?_
  refine qs_b (qz_X14_take hS hM k_628196) (fun v6034 S6034 w6034 M6034 h6034 hS6034 hM6034 => ?_)
  refine qs_gi hS6034 hM6034 pl_2208 ts_2208 (z := 11) rfl rfl (fun v6035 h6035 => ?_)
  refine qs_ite (c_le k_0 h6035) ?_ ?_
  · exact (qz_X14_readRow_J64 hS6034 hM6034 ei1 ei2 k_m1)
  · refine qs_zi hS6034 pl_2208 ts_2208 ?_
    refine qs_b (qz_X14_look hS6034 hM6034 k_0 k_19) (fun v6037 S6037 w6037 M6037 h6037 hS6037 hM6037 => ?_)
    exact (qz_X14_readRow_J64 hS6037 hM6037 ei1 ei2 h6037)
set_option maxRecDepth 20000 in
theorem qz_X14_readRow {P : Nat → Nat} {S : zm_S} {M : qm}  (hS : Sh L xs P S) (hM : qM P S = M)  : qs (zf_X14_readRow 20000 2208 S) (qf_X14_readRow 20000 M) (tO (rr L xs P vu)) := by
  unfold zf_X14_readRow qf_X14_readRow
  refine qs_zi hS pl_2208 ts_2208 ?_
  refine qs_b (qz_X14_takeZone hS hM k_m1) (fun v6039 S6039 w6039 M6039 h6039 hS6039 hM6039 => ?_)
  refine qs_gi hS6039 hM6039 pl_2208 ts_2208 (z := 11) rfl rfl (fun v6040 h6040 => ?_)
  refine qs_ite (c_le k_0 h6040) ?_ ?_
  · exact (qz_X14_readRow_J40 hS6039 hM6039 h6039 k_m1)
  · refine qs_zi hS6039 pl_2208 ts_2208 ?_
    refine qs_bp (qz_X14_isSign hS6039 hM6039 k_38) (fun v6042 S6042 w6042 h6042 hS6042 hM6042 => ?_)
    refine qs_ite (c_eq h6042 k_0) ?_ ?_
    · exact (qz_X14_readRow_J40 hS6042 hM6042 h6039 k_m1)
    · refine qs_gi hS6042 hM6042 pl_2208 ts_2208 (z := 10) rfl rfl (fun v6043 h6043 => ?_)
      refine qs_pi hS6042 hM6042 pl_2208 ts_2208 (z := 10) rfl rfl (p_add h6043 k_1) (fun S6044 M6044 hS6044 hM6044 => ?_)
      refine qs_zi hS6044 pl_2208 ts_2208 ?_
      refine qs_b (qz_X14_takeZone hS6044 hM6044 h6039) (fun v6046 S6046 w6046 M6046 h6046 hS6046 hM6046 => ?_)
      exact (qz_X14_readRow_J40 hS6046 hM6046 h6039 h6046)
set_option maxRecDepth 20000 in
theorem qz_X14_readSentence_J73 {P : Nat → Nat} {S : zm_S} {M : qm} {t1 : Int32} {qt1 : Int} (hS : Sh L xs P S) (hM : qM P S = M) (et1 : t1.toInt = qt1) : qs (zf_X14_readSentence_J73 20000 2208 2208 t1 S) (qf_X14_readSentence_J73 20000 qt1 M) (tO (rr L xs P vu)) := by
  unfold zf_X14_readSentence_J73 qf_X14_readSentence_J73
  refine qs_zi hS pl_2208 ts_2208 ?_
  refine qs_b (qz_X14_want hS hM et1) (fun v6048 S6048 w6048 M6048 h6048 hS6048 hM6048 => ?_)
  refine qs_ite (c_eq h6048 k_0) ?_ ?_
  · exact qs_tr (show vu _ _ from trivial) hS6048 hM6048
  · refine qs_gi hS6048 hM6048 pl_2208 ts_2208 (z := 10) rfl rfl (fun v6049 h6049 => ?_)
    refine qs_pi hS6048 hM6048 pl_2208 ts_2208 (z := 10) rfl rfl (p_add h6049 k_1) (fun S6050 M6050 hS6050 hM6050 => ?_)
    refine qs_zi hS6050 pl_2208 ts_2208 ?_
    refine qs_b (qz_X14_readRow hS6050 hM6050 ) (fun v6052 S6052 w6052 M6052 h6052 hS6052 hM6052 => ?_)
    exact qs_tr (show vu _ _ from trivial) hS6052 hM6052
set_option maxRecDepth 20000 in
theorem qz_X14_readHold_J61 {P : Nat → Nat} {S : zm_S} {M : qm} {i1 : Int32} {qi1 : Int} (hS : Sh L xs P S) (hM : qM P S = M) (ei1 : i1.toInt = qi1) : qs (zf_X14_readHold_J61 20000 2208 i1 S) (qf_X14_readHold_J61 20000 qi1 M) (tO (rr L xs P vu)) := by
  unfold zf_X14_readHold_J61 qf_X14_readHold_J61
  refine qs_zi hS pl_2208 ts_2208 ?_
  refine qs_b (qz_X14_takeStop hS hM ) (fun v6054 S6054 w6054 M6054 h6054 hS6054 hM6054 => ?_)
  refine qs_gi hS6054 hM6054 pl_2208 ts_2208 (z := 11) rfl rfl (fun v6055 h6055 => ?_)
  refine qs_ite (c_le k_0 h6055) ?_ ?_
  · exact qs_tr (show vu _ _ from trivial) hS6054 hM6054
  · refine qs_gr hS6054 pl_2208 ts_2208 rfl ?_
    refine qs_gd (fun g6058 => ?_)
    refine qs_sz hS6054 hM6054 (pa_p hS6054 pl_2223 ts_2223) (p_add k_20 ei1) g6058 k_1 (by decide) (fun S6057 M6057 hS6057 hM6057 => ?_)
    exact qs_tr (show vu _ _ from trivial) hS6057 hM6057
set_option maxRecDepth 20000 in
theorem qz_X14_readHold_J45 {P : Nat → Nat} {S : zm_S} {M : qm} {i1 : Int32} {qi1 : Int} {t1 : Int32} {qt1 : Int} (hS : Sh L xs P S) (hM : qM P S = M) (ei1 : i1.toInt = qi1) (et1 : t1.toInt = qt1) : qs (zf_X14_readHold_J45 20000 2208 i1 2208 t1 S) (qf_X14_readHold_J45 20000 qi1 qt1 M) (tO (rr L xs P vu)) := by
  unfold zf_X14_readHold_J45 qf_X14_readHold_J45
  refine qs_zi hS pl_2208 ts_2208 ?_
  refine qs_b (qz_X14_want hS hM et1) (fun v6060 S6060 w6060 M6060 h6060 hS6060 hM6060 => ?_)
  refine qs_ite (c_eq h6060 k_0) ?_ ?_
  · exact (qz_X14_readHold_J61 hS6060 hM6060 ei1)
  · refine qs_gi hS6060 hM6060 pl_2208 ts_2208 (z := 10) rfl rfl (fun v6061 h6061 => ?_)
    refine qs_pi hS6060 hM6060 pl_2208 ts_2208 (z := 10) rfl rfl (p_add h6061 k_1) (fun S6062 M6062 hS6062 hM6062 => ?_)
    exact (qz_X14_readHold_J61 hS6062 hM6062 ei1)
set_option maxRecDepth 20000 in
theorem qz_X14_readHold_J44 {P : Nat → Nat} {S : zm_S} {M : qm} {i1 : Int32} {qi1 : Int} (hS : Sh L xs P S) (hM : qM P S = M) (ei1 : i1.toInt = qi1) : qs (zf_X14_readHold_J44 20000 2208 i1 2208 S) (qf_X14_readHold_J44 20000 qi1 M) (tO (rr L xs P vu)) := by
  unfold zf_X14_readHold_J44 qf_X14_readHold_J44
  exact (qz_X14_readHold_J45 hS hM ei1 k_0)
set_option maxRecDepth 20000 in
theorem qz_X14_readHold {P : Nat → Nat} {S : zm_S} {M : qm}  (hS : Sh L xs P S) (hM : qM P S = M)  : qs (zf_X14_readHold 20000 2208 S) (qf_X14_readHold 20000 M) (tO (rr L xs P vu)) := by
  unfold zf_X14_readHold qf_X14_readHold
  refine qs_zi hS pl_2208 ts_2208 ?_
  refine qs_b (qz_X14_look hS hM k_0 k_19) (fun v6064 S6064 w6064 M6064 h6064 hS6064 hM6064 => ?_)
  refine qs_gi hS6064 hM6064 pl_2208 ts_2208 (z := 11) rfl rfl (fun v6065 h6065 => ?_)
  refine qs_ite (c_le k_0 h6065) ?_ ?_
  · exact (qz_X14_readHold_J61 hS6064 hM6064 h6064)
  · refine qs_gr hS6064 pl_2208 ts_2208 rfl ?_
    refine qs_gd (fun g6068 => ?_)
    refine qs_xi hM6064 (pa_p hS6064 pl_2219 ts_2219) (p_add k_20 h6064) g6068 (fun v6067 h6067 => ?_)
    refine qs_ite (c_eq h6067 k_0) ?_ ?_
    · exact (qz_X14_readHold_J44 hS6064 hM6064 h6064)
    · refine qs_gr hS6064 pl_2208 ts_2208 rfl ?_
      refine qs_gd (fun g6071 => ?_)
      refine qs_xi hM6064 (pa_p hS6064 pl_2223 ts_2223) (p_add k_20 h6064) g6071 (fun v6070 h6070 => ?_)
      refine qs_ite (c_eq h6070 k_0) ?_ ?_
      · exact (qz_X14_readHold_J45 hS6064 hM6064 h6064 k_1)
      · exact (qz_X14_readHold_J44 hS6064 hM6064 h6064)
set_option maxRecDepth 20000 in
theorem qz_X14_readSentence {P : Nat → Nat} {S : zm_S} {M : qm}  (hS : Sh L xs P S) (hM : qM P S = M)  : qs (zf_X14_readSentence 20000 2208 S) (qf_X14_readSentence 20000 M) (tO (rr L xs P vu)) := by
  unfold zf_X14_readSentence qf_X14_readSentence
  refine qs_zi hS pl_2208 ts_2208 ?_
  refine qs_bp (qz_X14_letters hS hM ) (fun v6073 S6073 w6073 h6073 hS6073 hM6073 => ?_)
  refine qs_ite (c_eq h6073 k_178682) ?_ ?_
  · refine qs_gi hS6073 hM6073 pl_2208 ts_2208 (z := 10) rfl rfl (fun v6074 h6074 => ?_)
    refine qs_pi hS6073 hM6073 pl_2208 ts_2208 (z := 10) rfl rfl (p_add h6074 k_1) (fun S6075 M6075 hS6075 hM6075 => ?_)
    refine qs_zi hS6075 pl_2208 ts_2208 ?_
    refine qs_b (qz_X14_readZone hS6075 hM6075 ) (fun v6077 S6077 w6077 M6077 h6077 hS6077 hM6077 => ?_)
    exact qs_tr (show vu _ _ from trivial) hS6077 hM6077
  · refine qs_ite (c_eq h6073 k_20577) ?_ ?_
    · refine qs_gi hS6073 hM6073 pl_2208 ts_2208 (z := 10) rfl rfl (fun v6078 h6078 => ?_)
      refine qs_pi hS6073 hM6073 pl_2208 ts_2208 (z := 10) rfl rfl (p_add h6078 k_1) (fun S6079 M6079 hS6079 hM6079 => ?_)
      refine qs_zi hS6079 pl_2208 ts_2208 ?_
      refine qs_b (qz_X14_readAct hS6079 hM6079 ) (fun v6081 S6081 w6081 M6081 h6081 hS6081 hM6081 => ?_)
      exact qs_tr (show vu _ _ from trivial) hS6081 hM6081
    · refine qs_ite (c_eq h6073 k_464151) ?_ ?_
      · refine qs_gi hS6073 hM6073 pl_2208 ts_2208 (z := 22) rfl rfl (fun v6082 h6082 => ?_)
        refine qs_ite (c_le k_50 h6082) ?_ ?_
        · exact (qz_X14_readSentence_J73 hS6073 hM6073 k_0)
        · exact (qz_X14_readSentence_J73 hS6073 hM6073 k_1)
      · refine qs_zi hS6073 pl_2208 ts_2208 ?_
        refine qs_b (qz_X14_take hS6073 hM6073 k_143848) (fun v6084 S6084 w6084 M6084 h6084 hS6084 hM6084 => ?_)
        refine qs_gi hS6084 hM6084 pl_2208 ts_2208 (z := 11) rfl rfl (fun v6085 h6085 => ?_)
        refine qs_ite (c_le k_0 h6085) ?_ ?_
        · exact qs_tr (show vu _ _ from trivial) hS6084 hM6084
        · refine qs_zi hS6084 pl_2208 ts_2208 ?_
          refine qs_b (qz_X14_readHold hS6084 hM6084 ) (fun v6087 S6087 w6087 M6087 h6087 hS6087 hM6087 => ?_)
          exact qs_tr (show vu _ _ from trivial) hS6087 hM6087
set_option maxRecDepth 20000 in
theorem qz_X14_read_L48_b (n : Nat) {P : Nat → Nat} {S : zm_S} {M : qm}  (hS : Sh L xs P S) (hM : qM P S = M)  : qs (zf_X14_read_L48 20000 (n + 1) 2208 S) (qf_X14_read_L48_b 20000 M) (tk (vs (rr L xs P vi) (rr L xs P vu)) (qc_X14_read_L48 L xs P (zf_X14_read_L48 20000 n))) := by
  refine qs_eq (zf_X14_read_L48.eq_2 ..) ?_
  unfold qf_X14_read_L48_b
  refine qs_gi hS hM pl_2208 ts_2208 (z := 10) rfl rfl (fun v6088 h6088 => ?_)
  refine qs_gi hS hM pl_2208 ts_2208 (z := 7) rfl rfl (fun v6089 h6089 => ?_)
  refine qs_ite (c_le h6089 h6088) ?_ ?_
  · exact qs_tr2 (show vu _ _ from trivial) hS hM
  · refine qs_gi hS hM pl_2208 ts_2208 (z := 11) rfl rfl (fun v6090 h6090 => ?_)
    refine qs_ite (c_le k_0 h6090) ?_ ?_
    · exact qs_tr2 (show vu _ _ from trivial) hS hM
    · refine qs_zi hS pl_2208 ts_2208 ?_
      refine qs_b (qz_X14_readSentence hS hM ) (fun v6092 S6092 w6092 M6092 h6092 hS6092 hM6092 => ?_)
      exact qs_tk ⟨_, rfl, hS6092, hM6092⟩
theorem qz_X14_read_L48 (n : Nat) : ∀ {P : Nat → Nat} {S : zm_S} {M : qm}  (hS : Sh L xs P S) (hM : qM P S = M) , qs (zf_X14_read_L48 20000 n 2208 S) (qf_X14_read_L48 20000 n M) (tO (vs (rr L xs P vi) (rr L xs P vu))) := by
  induction n with
  | zero =>
    intros
    exact qs_none
  | succ n ih =>
    intro P S M hS hM
    unfold qf_X14_read_L48
    refine qs_loop (C := (qc_X14_read_L48 L xs P (zf_X14_read_L48 20000 n))) (qz_X14_read_L48_b n hS hM ) ?_
    rintro x s ⟨_, rfl, hS2, hM2⟩
    exact ih hS2 hM2 
set_option maxRecDepth 20000 in
theorem qz_X14_adopt_L55_b (n : Nat) {P : Nat → Nat} {S : zm_S} {M : qm} {i1 : Int32} {qi1 : Int} {i2 : Int32} {qi2 : Int} (hS : Sh L xs P S) (hM : qM P S = M) (ei1 : i1.toInt = qi1) (ei2 : i2.toInt = qi2) : qs (zf_X14_adopt_L55 20000 (n + 1) 2208 i1 i2 S) (qf_X14_adopt_L55_b 20000 qi1 qi2 M) (tk (vs (rr L xs P vu) (rr L xs P vu)) (qc_X14_adopt_L55 L xs P (zf_X14_adopt_L55 20000 n))) := by
  refine qs_eq (zf_X14_adopt_L55.eq_2 ..) ?_
  unfold qf_X14_adopt_L55_b
  refine qs_ite (c_le k_12 ei2) ?_ ?_
  · exact qs_tr2 (show vu _ _ from trivial) hS hM
  · refine qs_gr hS pl_2208 ts_2208 rfl ?_
    refine qs_gr hS pl_2208 ts_2208 rfl ?_
    refine qs_gd (fun g6096 => ?_)
    refine qs_xi hM (pa_p hS pl_2218 ts_2218) (p_add (p_add k_240 (p_mul k_12 ei1)) ei2) g6096 (fun v6095 h6095 => ?_)
    refine qs_gd (fun g6098 => ?_)
    refine qs_si hS hM (pa_p hS pl_2218 ts_2218) (p_add (p_mul k_12 ei1) ei2) g6098 h6095 (fun S6097 M6097 hS6097 hM6097 => ?_)
    exact qs_tk ⟨_, _, _, rfl, ei1, (p_add ei2 k_1), hS6097, hM6097⟩
theorem qz_X14_adopt_L55 (n : Nat) : ∀ {P : Nat → Nat} {S : zm_S} {M : qm} {i1 : Int32} {qi1 : Int} {i2 : Int32} {qi2 : Int} (hS : Sh L xs P S) (hM : qM P S = M) (ei1 : i1.toInt = qi1) (ei2 : i2.toInt = qi2), qs (zf_X14_adopt_L55 20000 n 2208 i1 i2 S) (qf_X14_adopt_L55 20000 n qi1 qi2 M) (tO (vs (rr L xs P vu) (rr L xs P vu))) := by
  induction n with
  | zero =>
    intros
    exact qs_none
  | succ n ih =>
    intro P S M i1 qi1 i2 qi2 hS hM ei1 ei2
    unfold qf_X14_adopt_L55
    refine qs_loop (C := (qc_X14_adopt_L55 L xs P (zf_X14_adopt_L55 20000 n))) (qz_X14_adopt_L55_b n hS hM ei1 ei2) ?_
    rintro x s ⟨_, _, _, rfl, u0, u1, hS2, hM2⟩
    exact ih hS2 hM2 u0 u1
set_option maxRecDepth 20000 in
theorem qz_X14_rests {P : Nat → Nat} {S : zm_S} {M : qm} {i1 : Int32} {qi1 : Int} (hS : Sh L xs P S) (hM : qM P S = M) (ei1 : i1.toInt = qi1) : qs (zf_X14_rests 20000 2208 i1 S) (qf_X14_rests 20000 qi1 M) (tO (rr L xs P vu)) := by
  unfold zf_X14_rests qf_X14_rests
  refine qs_gr hS pl_2208 ts_2208 rfl ?_
  refine qs_gd (fun g6101 => ?_)
  refine qs_si hS hM (pa_p hS pl_2227 ts_2227) ei1 g6101 k_0 (fun S6100 M6100 hS6100 hM6100 => ?_)
  refine qs_gr hS6100 pl_2208 ts_2208 rfl ?_
  refine qs_gd (fun g6104 => ?_)
  refine qs_si hS6100 hM6100 (pa_p hS6100 pl_2228 ts_2228) ei1 g6104 k_m1 (fun S6103 M6103 hS6103 hM6103 => ?_)
  refine qs_gr hS6103 pl_2208 ts_2208 rfl ?_
  refine qs_gd (fun g6107 => ?_)
  refine qs_sz hS6103 hM6103 (pa_p hS6103 pl_2229 ts_2229) ei1 g6107 k_0 (by decide) (fun S6106 M6106 hS6106 hM6106 => ?_)
  refine qs_gr hS6106 pl_2208 ts_2208 rfl ?_
  refine qs_gd (fun g6110 => ?_)
  refine qs_sz hS6106 hM6106 (pa_p hS6106 pl_2230 ts_2230) ei1 g6110 k_0 (by decide) (fun S6109 M6109 hS6109 hM6109 => ?_)
  exact qs_tr (show vu _ _ from trivial) hS6109 hM6109
set_option maxRecDepth 20000 in
theorem qz_X14_adopt_L2_b (n : Nat) {P : Nat → Nat} {S : zm_S} {M : qm} {i1 : Int32} {qi1 : Int} (hS : Sh L xs P S) (hM : qM P S = M) (ei1 : i1.toInt = qi1) : qs (zf_X14_adopt_L2 20000 (n + 1) 2208 i1 S) (qf_X14_adopt_L2_b 20000 qi1 M) (tk (vs (rr L xs P vu) (rr L xs P vu)) (qc_X14_adopt_L2 L xs P (zf_X14_adopt_L2 20000 n))) := by
  refine qs_eq (zf_X14_adopt_L2.eq_2 ..) ?_
  unfold qf_X14_adopt_L2_b
  refine qs_ite (c_le k_20 ei1) ?_ ?_
  · exact qs_tr2 (show vu _ _ from trivial) hS hM
  · refine qs_gr hS pl_2208 ts_2208 rfl ?_
    refine qs_gr hS pl_2208 ts_2208 rfl ?_
    refine qs_gd (fun g6114 => ?_)
    refine qs_xi hM (pa_p hS pl_2215 ts_2215) (p_add k_20 ei1) g6114 (fun v6113 h6113 => ?_)
    refine qs_gd (fun g6116 => ?_)
    refine qs_sz hS hM (pa_p hS pl_2215 ts_2215) ei1 g6116.1 h6113 g6116.2 (fun S6115 M6115 hS6115 hM6115 => ?_)
    refine qs_gr hS6115 pl_2208 ts_2208 rfl ?_
    refine qs_gr hS6115 pl_2208 ts_2208 rfl ?_
    refine qs_gd (fun g6120 => ?_)
    refine qs_xi hM6115 (pa_p hS6115 pl_2216 ts_2216) (p_add k_20 ei1) g6120 (fun v6119 h6119 => ?_)
    refine qs_gd (fun g6122 => ?_)
    refine qs_si hS6115 hM6115 (pa_p hS6115 pl_2216 ts_2216) ei1 g6122 h6119 (fun S6121 M6121 hS6121 hM6121 => ?_)
    refine qs_gr hS6121 pl_2208 ts_2208 rfl ?_
    refine qs_gr hS6121 pl_2208 ts_2208 rfl ?_
    refine qs_gd (fun g6126 => ?_)
    refine qs_xi hM6121 (pa_p hS6121 pl_2217 ts_2217) (p_add k_20 ei1) g6126 (fun v6125 h6125 => ?_)
    refine qs_gd (fun g6128 => ?_)
    refine qs_si hS6121 hM6121 (pa_p hS6121 pl_2217 ts_2217) ei1 g6128 h6125 (fun S6127 M6127 hS6127 hM6127 => ?_)
    refine qs_lr (qz_X14_adopt_L55 20000 hS6127 hM6127 ei1 k_0) ?_ ?_
    · intro v6130 S6130 w6130 M6130 h6130 hS6130 hM6130
      dsimp only
      exact qs_tr1 h6130 hS6130 hM6130
    · intro v6130 S6130 w6130 M6130 h6130 hS6130 hM6130
      dsimp only
      refine qs_gr hS6130 pl_2208 ts_2208 rfl ?_
      refine qs_gr hS6130 pl_2208 ts_2208 rfl ?_
      refine qs_gd (fun g6134 => ?_)
      refine qs_xi hM6130 (pa_p hS6130 pl_2219 ts_2219) (p_add k_20 ei1) g6134 (fun v6133 h6133 => ?_)
      refine qs_gd (fun g6136 => ?_)
      refine qs_sz hS6130 hM6130 (pa_p hS6130 pl_2219 ts_2219) ei1 g6136.1 h6133 g6136.2 (fun S6135 M6135 hS6135 hM6135 => ?_)
      refine qs_gr hS6135 pl_2208 ts_2208 rfl ?_
      refine qs_gr hS6135 pl_2208 ts_2208 rfl ?_
      refine qs_gd (fun g6140 => ?_)
      refine qs_xi hM6135 (pa_p hS6135 pl_2220 ts_2220) (p_add k_20 ei1) g6140 (fun v6139 h6139 => ?_)
      refine qs_gd (fun g6142 => ?_)
      refine qs_si hS6135 hM6135 (pa_p hS6135 pl_2220 ts_2220) ei1 g6142 h6139 (fun S6141 M6141 hS6141 hM6141 => ?_)
      refine qs_gr hS6141 pl_2208 ts_2208 rfl ?_
      refine qs_gr hS6141 pl_2208 ts_2208 rfl ?_
      refine qs_gd (fun g6146 => ?_)
      refine qs_xi hM6141 (pa_p hS6141 pl_2221 ts_2221) (p_add k_20 ei1) g6146 (fun v6145 h6145 => ?_)
      refine qs_gd (fun g6148 => ?_)
      refine qs_si hS6141 hM6141 (pa_p hS6141 pl_2221 ts_2221) ei1 g6148 h6145 (fun S6147 M6147 hS6147 hM6147 => ?_)
      refine qs_gr hS6147 pl_2208 ts_2208 rfl ?_
      refine qs_gr hS6147 pl_2208 ts_2208 rfl ?_
      refine qs_gd (fun g6152 => ?_)
      refine qs_xi hM6147 (pa_p hS6147 pl_2222 ts_2222) (p_add k_20 ei1) g6152 (fun v6151 h6151 => ?_)
      refine qs_gd (fun g6154 => ?_)
      refine qs_si hS6147 hM6147 (pa_p hS6147 pl_2222 ts_2222) ei1 g6154 h6151 (fun S6153 M6153 hS6153 hM6153 => ?_)
      refine qs_gr hS6153 pl_2208 ts_2208 rfl ?_
      refine qs_gr hS6153 pl_2208 ts_2208 rfl ?_
      refine qs_gd (fun g6158 => ?_)
      refine qs_xi hM6153 (pa_p hS6153 pl_2223 ts_2223) (p_add k_20 ei1) g6158 (fun v6157 h6157 => ?_)
      refine qs_gd (fun g6160 => ?_)
      refine qs_sz hS6153 hM6153 (pa_p hS6153 pl_2223 ts_2223) ei1 g6160.1 h6157 g6160.2 (fun S6159 M6159 hS6159 hM6159 => ?_)
      refine qs_zi hS6159 pl_2208 ts_2208 ?_
      refine qs_b (qz_X14_rests hS6159 hM6159 ei1) (fun v6162 S6162 w6162 M6162 h6162 hS6162 hM6162 => ?_)
      exact qs_tk ⟨_, _, rfl, (p_add ei1 k_1), hS6162, hM6162⟩
theorem qz_X14_adopt_L2 (n : Nat) : ∀ {P : Nat → Nat} {S : zm_S} {M : qm} {i1 : Int32} {qi1 : Int} (hS : Sh L xs P S) (hM : qM P S = M) (ei1 : i1.toInt = qi1), qs (zf_X14_adopt_L2 20000 n 2208 i1 S) (qf_X14_adopt_L2 20000 n qi1 M) (tO (vs (rr L xs P vu) (rr L xs P vu))) := by
  induction n with
  | zero =>
    intros
    exact qs_none
  | succ n ih =>
    intro P S M i1 qi1 hS hM ei1
    unfold qf_X14_adopt_L2
    refine qs_loop (C := (qc_X14_adopt_L2 L xs P (zf_X14_adopt_L2 20000 n))) (qz_X14_adopt_L2_b n hS hM ei1) ?_
    rintro x s ⟨_, _, rfl, u0, hS2, hM2⟩
    exact ih hS2 hM2 u0
set_option maxRecDepth 20000 in
theorem qz_X14_adopt_L189_b (n : Nat) {P : Nat → Nat} {S : zm_S} {M : qm} {i1 : Int32} {qi1 : Int} (hS : Sh L xs P S) (hM : qM P S = M) (ei1 : i1.toInt = qi1) : qs (zf_X14_adopt_L189 20000 (n + 1) 2208 i1 S) (qf_X14_adopt_L189_b 20000 qi1 M) (tk (vs (rr L xs P vu) (rr L xs P vu)) (qc_X14_adopt_L189 L xs P (zf_X14_adopt_L189 20000 n))) := by
  refine qs_eq (zf_X14_adopt_L189.eq_2 ..) ?_
  unfold qf_X14_adopt_L189_b
  refine qs_gi hS hM pl_2208 ts_2208 (z := 21) rfl rfl (fun v6163 h6163 => ?_)
  refine qs_ite (c_le h6163 ei1) ?_ ?_
  · exact qs_tr2 (show vu _ _ from trivial) hS hM
  · refine qs_gr hS pl_2208 ts_2208 rfl ?_
    refine qs_gr hS pl_2208 ts_2208 rfl ?_
    refine qs_gd (fun g6167 => ?_)
    refine qs_xi hM (pa_p hS pl_2224 ts_2224) (p_add k_50 ei1) g6167 (fun v6166 h6166 => ?_)
    refine qs_gd (fun g6169 => ?_)
    refine qs_si hS hM (pa_p hS pl_2224 ts_2224) ei1 g6169 h6166 (fun S6168 M6168 hS6168 hM6168 => ?_)
    refine qs_gr hS6168 pl_2208 ts_2208 rfl ?_
    refine qs_gr hS6168 pl_2208 ts_2208 rfl ?_
    refine qs_gd (fun g6173 => ?_)
    refine qs_xi hM6168 (pa_p hS6168 pl_2225 ts_2225) (p_add k_50 ei1) g6173 (fun v6172 h6172 => ?_)
    refine qs_gd (fun g6175 => ?_)
    refine qs_si hS6168 hM6168 (pa_p hS6168 pl_2225 ts_2225) ei1 g6175 h6172 (fun S6174 M6174 hS6174 hM6174 => ?_)
    refine qs_gr hS6174 pl_2208 ts_2208 rfl ?_
    refine qs_gr hS6174 pl_2208 ts_2208 rfl ?_
    refine qs_gd (fun g6179 => ?_)
    refine qs_xi hM6174 (pa_p hS6174 pl_2226 ts_2226) (p_add k_50 ei1) g6179 (fun v6178 h6178 => ?_)
    refine qs_gd (fun g6181 => ?_)
    refine qs_si hS6174 hM6174 (pa_p hS6174 pl_2226 ts_2226) ei1 g6181 h6178 (fun S6180 M6180 hS6180 hM6180 => ?_)
    exact qs_tk ⟨_, _, rfl, (p_add ei1 k_1), hS6180, hM6180⟩
theorem qz_X14_adopt_L189 (n : Nat) : ∀ {P : Nat → Nat} {S : zm_S} {M : qm} {i1 : Int32} {qi1 : Int} (hS : Sh L xs P S) (hM : qM P S = M) (ei1 : i1.toInt = qi1), qs (zf_X14_adopt_L189 20000 n 2208 i1 S) (qf_X14_adopt_L189 20000 n qi1 M) (tO (vs (rr L xs P vu) (rr L xs P vu))) := by
  induction n with
  | zero =>
    intros
    exact qs_none
  | succ n ih =>
    intro P S M i1 qi1 hS hM ei1
    unfold qf_X14_adopt_L189
    refine qs_loop (C := (qc_X14_adopt_L189 L xs P (zf_X14_adopt_L189 20000 n))) (qz_X14_adopt_L189_b n hS hM ei1) ?_
    rintro x s ⟨_, _, rfl, u0, hS2, hM2⟩
    exact ih hS2 hM2 u0
set_option maxRecDepth 20000 in
theorem qz_X14_adopt {P : Nat → Nat} {S : zm_S} {M : qm}  (hS : Sh L xs P S) (hM : qM P S = M)  : qs (zf_X14_adopt 20000 2208 S) (qf_X14_adopt 20000 M) (tO (rr L xs P vu)) := by
  unfold zf_X14_adopt qf_X14_adopt
  refine qs_lr (qz_X14_adopt_L2 20000 hS hM k_0) ?_ ?_
  · intro v6183 S6183 w6183 M6183 h6183 hS6183 hM6183
    dsimp only
    exact qs_tr h6183 hS6183 hM6183
  · intro v6183 S6183 w6183 M6183 h6183 hS6183 hM6183
    dsimp only
    refine qs_gi hS6183 hM6183 pl_2208 ts_2208 (z := 22) rfl rfl (fun v6184 h6184 => ?_)
    refine qs_pi hS6183 hM6183 pl_2208 ts_2208 (z := 21) rfl rfl h6184 (fun S6185 M6185 hS6185 hM6185 => ?_)
    refine qs_lr (qz_X14_adopt_L189 20000 hS6185 hM6185 k_0) ?_ ?_
    · intro v6187 S6187 w6187 M6187 h6187 hS6187 hM6187
      dsimp only
      exact qs_tr h6187 hS6187 hM6187
    · intro v6187 S6187 w6187 M6187 h6187 hS6187 hM6187
      dsimp only
      exact qs_tr (show vu _ _ from trivial) hS6187 hM6187
set_option maxRecDepth 20000 in
theorem qz_X14_read_J73 {P : Nat → Nat} {S : zm_S} {M : qm}  (hS : Sh L xs P S) (hM : qM P S = M)  : qs (zf_X14_read_J73 20000 2208 S) (qf_X14_read_J73 20000 M) (tO (rr L xs P vi)) := by
  unfold zf_X14_read_J73 qf_X14_read_J73
  refine qs_gi hS hM pl_2208 ts_2208 (z := 11) rfl rfl (fun v6188 h6188 => ?_)
  refine qs_ite (c_lt h6188 k_0) ?_ ?_
  · refine qs_zi hS pl_2208 ts_2208 ?_
    refine qs_b (qz_X14_adopt hS hM ) (fun v6190 S6190 w6190 M6190 h6190 hS6190 hM6190 => ?_)
    refine qs_gi hS6190 hM6190 pl_2208 ts_2208 (z := 21) rfl rfl (fun v6191 h6191 => ?_)
    exact qs_tr (show vi _ _ from h6191) hS6190 hM6190
  · refine qs_gi hS hM pl_2208 ts_2208 (z := 11) rfl rfl (fun v6192 h6192 => ?_)
    exact qs_tr (show vi _ _ from (p_sub k_m1 h6192)) hS hM
set_option maxRecDepth 20000 in
theorem qz_X14_read {P : Nat → Nat} {S : zm_S} {M : qm}  (hS : Sh L xs P S) (hM : qM P S = M)  : qs (zf_X14_read 20000 2208 S) (qf_X14_read 20000 M) (tO (rr L xs P vi)) := by
  unfold zf_X14_read qf_X14_read
  refine qs_zi hS pl_2208 ts_2208 ?_
  refine qs_b (qz_X14_list hS hM ) (fun v6194 S6194 w6194 M6194 h6194 hS6194 hM6194 => ?_)
  refine qs_pi hS6194 hM6194 pl_2208 ts_2208 (z := 10) rfl rfl k_0 (fun S6195 M6195 hS6195 hM6195 => ?_)
  refine qs_pi hS6195 hM6195 pl_2208 ts_2208 (z := 11) rfl rfl k_m1 (fun S6196 M6196 hS6196 hM6196 => ?_)
  refine qs_pi hS6196 hM6196 pl_2208 ts_2208 (z := 22) rfl rfl k_0 (fun S6197 M6197 hS6197 hM6197 => ?_)
  refine qs_lr (qz_X14_read_L22 20000 hS6197 hM6197 k_20) ?_ ?_
  · intro v6199 S6199 w6199 M6199 h6199 hS6199 hM6199
    dsimp only
    exact qs_tr h6199 hS6199 hM6199
  · intro v6199 S6199 w6199 M6199 h6199 hS6199 hM6199
    dsimp only
    refine qs_lr (qz_X14_read_L48 20000 hS6199 hM6199 ) ?_ ?_
    · intro v6201 S6201 w6201 M6201 h6201 hS6201 hM6201
      dsimp only
      exact qs_tr h6201 hS6201 hM6201
    · intro v6201 S6201 w6201 M6201 h6201 hS6201 hM6201
      dsimp only
      exact (qz_X14_read_J73 hS6201 hM6201 )
set_option maxRecDepth 20000 in
theorem qz_X18_matrix {P : Nat → Nat} {S : zm_S} {M : qm}  (hS : Sh L xs P S) (hM : qM P S = M)  : qs (zf_X18_matrix 20000 2156 S) (qf_X18_matrix 20000 M) (tO (rr L xs P vi)) := by
  unfold zf_X18_matrix qf_X18_matrix
  refine qs_gi hS hM pl_2156 ts_2156 (z := 1) rfl rfl (fun v6202 h6202 => ?_)
  refine qs_zi hS pl_2156 ts_2156 ?_
  refine qs_b (qz_X18_stays hS hM h6202) (fun v6204 S6204 w6204 M6204 h6204 hS6204 hM6204 => ?_)
  refine qs_ite (c_eq h6204 k_0) ?_ ?_
  · exact qs_tr (show vi _ _ from k_0) hS6204 hM6204
  · refine qs_gr hS6204 pl_2156 ts_2156 rfl ?_
    refine qs_zi hS6204 pl_2208 ts_2208 ?_
    refine qs_b (qz_X14_read hS6204 hM6204 ) (fun v6207 S6207 w6207 M6207 h6207 hS6207 hM6207 => ?_)
    exact qs_tr (show vi _ _ from h6207) hS6207 hM6207
set_option maxRecDepth 20000 in
theorem qz_X11_signal_J32 {P : Nat → Nat} {S : zm_S} {M : qm} {i1 : Int32} {qi1 : Int} {i2 : Int32} {qi2 : Int} {t0 : Int32} {qt0 : Int} (hS : Sh L xs P S) (hM : qM P S = M) (ei1 : i1.toInt = qi1) (ei2 : i2.toInt = qi2) (et0 : t0.toInt = qt0) : qs (zf_X11_signal_J32 20000 6 i1 i2 t0 S) (qf_X11_signal_J32 20000 qi1 qi2 qt0 M) (tO (rr L xs P (vs vi ve))) := by
  unfold zf_X11_signal_J32 qf_X11_signal_J32
  refine qs_xp (qz_X11_needArgument hS hM et0) ?_ ?_
  · intro v6209 S6209 w6209 h6209 hS6209 hM6209
    dsimp only
    refine qs_gi hS6209 hM6209 pl_6 ts_6 (z := 11) rfl rfl (fun v6210 h6210 => ?_)
    refine qs_xp (qz_X11_needState hS6209 hM6209 h6210) ?_ ?_
    · intro v6212 S6212 w6212 h6212 hS6212 hM6212
      dsimp only
      refine qs_gr hS6212 pl_6 ts_6 rfl ?_
      refine qs_gr hS6212 pl_1172 ts_1172 rfl ?_
      refine qs_gd (fun g6216 => ?_)
      refine qs_xi hM6212 (pa_p hS6212 pl_1173 ts_1173) ei1 g6216 (fun v6215 h6215 => ?_)
      refine qs_gr hS6212 pl_6 ts_6 rfl ?_
      refine qs_gr hS6212 pl_1172 ts_1172 rfl ?_
      refine qs_gd (fun g6220 => ?_)
      refine qs_si hS6212 hM6212 (pa_p hS6212 pl_1173 ts_1173) ei1 g6220 ei2 (fun S6219 M6219 hS6219 hM6219 => ?_)
      exact qs_tr (show (vs vi ve) _ _ from h6215) hS6219 hM6219
    · intro v6212 S6212 hS6212 hM6212
      dsimp only
      exact qs_tr (show (vs vi ve) _ _ from rfl) hS6212 hM6212
  · intro v6209 S6209 hS6209 hM6209
    dsimp only
    exact qs_tr (show (vs vi ve) _ _ from rfl) hS6209 hM6209
set_option maxRecDepth 20000 in
theorem qz_X11_signal_J31 {P : Nat → Nat} {S : zm_S} {M : qm} {i1 : Int32} {qi1 : Int} {i2 : Int32} {qi2 : Int} (hS : Sh L xs P S) (hM : qM P S = M) (ei1 : i1.toInt = qi1) (ei2 : i2.toInt = qi2) : qs (zf_X11_signal_J31 20000 6 i1 i2 S) (qf_X11_signal_J31 20000 qi1 qi2 M) (tO (rr L xs P (vs vi ve))) := by
  unfold zf_X11_signal_J31 qf_X11_signal_J31
  exact (qz_X11_signal_J32 hS hM ei1 ei2 k_0)
set_option maxRecDepth 20000 in
theorem qz_X11_signal {P : Nat → Nat} {S : zm_S} {M : qm} {i1 : Int32} {qi1 : Int} {i2 : Int32} {qi2 : Int} (hS : Sh L xs P S) (hM : qM P S = M) (ei1 : i1.toInt = qi1) (ei2 : i2.toInt = qi2) : qs (zf_X11_signal 20000 6 i1 i2 S) (qf_X11_signal 20000 qi1 qi2 M) (tO (rr L xs P (vs vi ve))) := by
  unfold zf_X11_signal qf_X11_signal
  refine qs_gr hS pl_6 ts_6 rfl ?_
  refine qs_gi hS hM pl_1172 ts_1172 (z := 2) rfl rfl (fun v6222 h6222 => ?_)
  refine qs_bp (qz_X11_isWithin hS hM ei1 k_0 (p_sub h6222 k_1)) (fun v6223 S6223 w6223 h6223 hS6223 hM6223 => ?_)
  refine qs_ite (c_eq h6223 k_0) ?_ ?_
  · exact (qz_X11_signal_J31 hS6223 hM6223 ei1 ei2)
  · refine qs_bp (qz_X11_isWithin hS6223 hM6223 ei2 k_0 k_100) (fun v6224 S6224 w6224 h6224 hS6224 hM6224 => ?_)
    refine qs_ite (c_eq h6224 k_0) ?_ ?_
    · exact (qz_X11_signal_J31 hS6224 hM6224 ei1 ei2)
    · exact (qz_X11_signal_J32 hS6224 hM6224 ei1 ei2 k_1)
set_option maxRecDepth 20000 in
theorem qz_L_signal {P : Nat → Nat} {S : zm_S} {M : qm} {i1 : Int32} {qi1 : Int} {i2 : Int32} {qi2 : Int} (hS : Sh L xs P S) (hM : qM P S = M) (ei1 : i1.toInt = qi1) (ei2 : i2.toInt = qi2) : qs (zf_L_signal 20000 6 i1 i2 2332 S) (qf_L_signal 20000 qi1 qi2 M) (tO (rr L xs P vi)) := by
  unfold zf_L_signal qf_L_signal
  refine qs_zi hS pl_6 ts_6 ?_
  refine qs_xr (qz_X11_signal hS hM ei1 ei2) ?_ ?_
  · intro v6227 S6227 w6227 M6227 h6227 hS6227 hM6227
    dsimp only
    refine qs_sl hS6227 hM6227 (pa_p hS6227 pl_2332 ts_2332) k_0 (by decide) (p_64 h6227) (fun S6228 M6228 hS6228 hM6228 => ?_)
    exact qs_tr (show vi _ _ from k_0) hS6228 hM6228
  · intro v6227 S6227 M6227 hS6227 hM6227
    dsimp only
    refine qs_ite Iff.rfl ?_ ?_
    · exact qs_tr (show vi _ _ from k_1) hS6227 hM6227
    · refine qs_ite Iff.rfl ?_ ?_
      · exact qs_tr (show vi _ _ from k_2) hS6227 hM6227
      · exact qs_none
set_option maxRecDepth 20000 in
theorem qz_X18_signal_J30 {P : Nat → Nat} {S : zm_S} {M : qm} {i1 : Int32} {qi1 : Int} {i2 : Int32} {qi2 : Int} {t1 : Int32} {qt1 : Int} (hS : Sh L xs P S) (hM : qM P S = M) (ei1 : i1.toInt = qi1) (ei2 : i2.toInt = qi2) (et1 : t1.toInt = qt1) : qs (zf_X18_signal_J30 20000 2156 i1 i2 2156 t1 S) (qf_X18_signal_J30 20000 qi1 qi2 qt1 M) (tO (rr L xs P vi)) := by
  unfold zf_X18_signal_J30 qf_X18_signal_J30
  refine qs_gi hS hM pl_2156 ts_2156 (z := 1) rfl rfl (fun v6229 h6229 => ?_)
  refine qs_zi hS pl_2156 ts_2156 ?_
  refine qs_b (qz_X18_goes hS hM et1 h6229) (fun v6231 S6231 w6231 M6231 h6231 hS6231 hM6231 => ?_)
  refine qs_ite (c_eq h6231 k_0) ?_ ?_
  · exact qs_tr (show vi _ _ from k_0) hS6231 hM6231
  · refine qs_gr hS6231 pl_2156 ts_2156 rfl ?_
    refine qs_gr hS6231 pl_2208 ts_2208 rfl ?_
    refine qs_gd (fun g6235 => ?_)
    refine qs_xi hM6231 (pa_p hS6231 pl_2209 ts_2209) ei1 g6235 (fun v6234 h6234 => ?_)
    refine qs_gr hS6231 pl_2156 ts_2156 rfl ?_
    refine qs_gr hS6231 pl_2208 ts_2208 rfl ?_
    refine qs_gd (fun g6239 => ?_)
    refine qs_si hS6231 hM6231 (pa_p hS6231 pl_2209 ts_2209) ei1 g6239 ei2 (fun S6238 M6238 hS6238 hM6238 => ?_)
    exact qs_tr (show vi _ _ from h6234) hS6238 hM6238
set_option maxRecDepth 20000 in
theorem qz_X18_signal_J29 {P : Nat → Nat} {S : zm_S} {M : qm} {i1 : Int32} {qi1 : Int} {i2 : Int32} {qi2 : Int} (hS : Sh L xs P S) (hM : qM P S = M) (ei1 : i1.toInt = qi1) (ei2 : i2.toInt = qi2) : qs (zf_X18_signal_J29 20000 2156 i1 i2 2156 S) (qf_X18_signal_J29 20000 qi1 qi2 M) (tO (rr L xs P vi)) := by
  unfold zf_X18_signal_J29 qf_X18_signal_J29
  exact (qz_X18_signal_J30 hS hM ei1 ei2 k_0)
set_option maxRecDepth 20000 in
theorem qz_X18_signal {P : Nat → Nat} {S : zm_S} {M : qm} {i1 : Int32} {qi1 : Int} {i2 : Int32} {qi2 : Int} (hS : Sh L xs P S) (hM : qM P S = M) (ei1 : i1.toInt = qi1) (ei2 : i2.toInt = qi2) : qs (zf_X18_signal 20000 2156 i1 i2 S) (qf_X18_signal 20000 qi1 qi2 M) (tO (rr L xs P vi)) := by
  unfold zf_X18_signal qf_X18_signal
  refine qs_gr hS pl_2156 ts_2156 rfl ?_
  refine qs_gi hS hM pl_2208 ts_2208 (z := 0) rfl rfl (fun v6241 h6241 => ?_)
  refine qs_bp (qz_X18_isIn hS hM ei1 h6241) (fun v6242 S6242 w6242 h6242 hS6242 hM6242 => ?_)
  refine qs_ite (c_eq h6242 k_0) ?_ ?_
  · exact (qz_X18_signal_J29 hS6242 hM6242 ei1 ei2)
  · refine qs_ite (c_lt ei2 k_0) ?_ ?_
    · exact (qz_X18_signal_J29 hS6242 hM6242 ei1 ei2)
    · refine qs_ite (c_lt k_100 ei2) ?_ ?_
      · exact (qz_X18_signal_J29 hS6242 hM6242 ei1 ei2)
      · exact (qz_X18_signal_J30 hS6242 hM6242 ei1 ei2 k_1)
set_option maxRecDepth 20000 in
theorem qz_X18_fault {P : Nat → Nat} {S : zm_S} {M : qm} {i1 : Int32} {qi1 : Int} {i2 : Int32} {qi2 : Int} (hS : Sh L xs P S) (hM : qM P S = M) (ei1 : i1.toInt = qi1) (ei2 : i2.toInt = qi2) : qs (zf_X18_fault 20000 2156 i1 i2 S) (qf_X18_fault 20000 qi1 qi2 M) (tO (rr L xs P vi)) := by
  unfold zf_X18_fault qf_X18_fault
  refine qs_gr hS pl_2156 ts_2156 rfl ?_
  refine qs_gi hS hM pl_2208 ts_2208 (z := 0) rfl rfl (fun v6244 h6244 => ?_)
  refine qs_bp (qz_X18_isIn hS hM ei1 h6244) (fun v6245 S6245 w6245 h6245 hS6245 hM6245 => ?_)
  refine qs_gi hS6245 hM6245 pl_2156 ts_2156 (z := 1) rfl rfl (fun v6246 h6246 => ?_)
  refine qs_zi hS6245 pl_2156 ts_2156 ?_
  refine qs_b (qz_X18_goes hS6245 hM6245 h6245 h6246) (fun v6248 S6248 w6248 M6248 h6248 hS6248 hM6248 => ?_)
  refine qs_ite (c_eq h6248 k_0) ?_ ?_
  · exact qs_tr (show vi _ _ from k_0) hS6248 hM6248
  · refine qs_gr hS6248 pl_2156 ts_2156 rfl ?_
    refine qs_gr hS6248 pl_2208 ts_2208 rfl ?_
    refine qs_gd (fun g6252 => ?_)
    refine qs_xi hM6248 (pa_p hS6248 pl_2210 ts_2210) ei1 g6252 (fun v6251 h6251 => ?_)
    refine qs_gr hS6248 pl_2156 ts_2156 rfl ?_
    refine qs_gr hS6248 pl_2208 ts_2208 rfl ?_
    refine qs_gd (fun g6256 => ?_)
    refine qs_sz hS6248 hM6248 (pa_p hS6248 pl_2210 ts_2210) ei1 g6256.1 ei2 g6256.2 (fun S6255 M6255 hS6255 hM6255 => ?_)
    refine qs_ite (or_congr (c_eq h6251 k_0) (c_eq h6251 k_1)) ?_ ?_
    · exact qs_tr (show vi _ _ from h6251) hS6255 hM6255
    · exact qs_none
set_option maxRecDepth 20000 in
theorem qz_X11_fault {P : Nat → Nat} {S : zm_S} {M : qm} {i1 : Int32} {qi1 : Int} {i2 : Int32} {qi2 : Int} (hS : Sh L xs P S) (hM : qM P S = M) (ei1 : i1.toInt = qi1) (ei2 : i2.toInt = qi2) : qs (zf_X11_fault 20000 6 i1 i2 S) (qf_X11_fault 20000 qi1 qi2 M) (tO (rr L xs P (vs vi ve))) := by
  unfold zf_X11_fault qf_X11_fault
  refine qs_gr hS pl_6 ts_6 rfl ?_
  refine qs_gi hS hM pl_1172 ts_1172 (z := 2) rfl rfl (fun v6258 h6258 => ?_)
  refine qs_bp (qz_X11_isWithin hS hM ei1 k_0 (p_sub h6258 k_1)) (fun v6259 S6259 w6259 h6259 hS6259 hM6259 => ?_)
  refine qs_xp (qz_X11_needArgument hS6259 hM6259 h6259) ?_ ?_
  · intro v6261 S6261 w6261 h6261 hS6261 hM6261
    dsimp only
    refine qs_gi hS6261 hM6261 pl_6 ts_6 (z := 11) rfl rfl (fun v6262 h6262 => ?_)
    refine qs_xp (qz_X11_needState hS6261 hM6261 h6262) ?_ ?_
    · intro v6264 S6264 w6264 h6264 hS6264 hM6264
      dsimp only
      refine qs_gr hS6264 pl_6 ts_6 rfl ?_
      refine qs_gr hS6264 pl_1172 ts_1172 rfl ?_
      refine qs_gd (fun g6268 => ?_)
      refine qs_xi hM6264 (pa_p hS6264 pl_1174 ts_1174) ei1 g6268 (fun v6267 h6267 => ?_)
      refine qs_gr hS6264 pl_6 ts_6 rfl ?_
      refine qs_gr hS6264 pl_1172 ts_1172 rfl ?_
      refine qs_gd (fun g6272 => ?_)
      refine qs_sz hS6264 hM6264 (pa_p hS6264 pl_1174 ts_1174) ei1 g6272.1 ei2 g6272.2 (fun S6271 M6271 hS6271 hM6271 => ?_)
      refine qs_ite (or_congr (c_eq h6267 k_0) (c_eq h6267 k_1)) ?_ ?_
      · exact qs_tr (show (vs vi ve) _ _ from h6267) hS6271 hM6271
      · exact qs_none
    · intro v6264 S6264 hS6264 hM6264
      dsimp only
      exact qs_tr (show (vs vi ve) _ _ from rfl) hS6264 hM6264
  · intro v6261 S6261 hS6261 hM6261
    dsimp only
    exact qs_tr (show (vs vi ve) _ _ from rfl) hS6261 hM6261
set_option maxRecDepth 20000 in
theorem qz_L_fault_J16 {P : Nat → Nat} {S : zm_S} {M : qm} {t1 : Int32} {qt1 : Int} {t2 : Int64} {qt2 : Int} (hS : Sh L xs P S) (hM : qM P S = M) (et1 : t1.toInt = qt1) (et2 : t2.toInt = qt2) : qs (zf_L_fault_J16 20000 2332 t1 t2 S) (qf_L_fault_J16 20000 qt1 qt2 M) (tO (rr L xs P vi)) := by
  unfold zf_L_fault_J16 qf_L_fault_J16
  refine qs_gd (fun g6274 => ?_)
  refine qs_sl hS hM (pa_p hS pl_2332 ts_2332) et1 g6274 et2 (fun S6273 M6273 hS6273 hM6273 => ?_)
  exact qs_tr (show vi _ _ from k_0) hS6273 hM6273
set_option maxRecDepth 20000 in
theorem qz_L_fault {P : Nat → Nat} {S : zm_S} {M : qm} {i1 : Int32} {qi1 : Int} {i2 : Int32} {qi2 : Int} (hS : Sh L xs P S) (hM : qM P S = M) (ei1 : i1.toInt = qi1) (ei2 : i2.toInt = qi2) : qs (zf_L_fault 20000 6 i1 i2 2332 S) (qf_L_fault 20000 qi1 qi2 M) (tO (rr L xs P vi)) := by
  unfold zf_L_fault qf_L_fault
  refine qs_zi hS pl_6 ts_6 ?_
  refine qs_xr (qz_X11_fault hS hM ei1 ei2) ?_ ?_
  · intro v6277 S6277 w6277 M6277 h6277 hS6277 hM6277
    dsimp only
    refine qs_ite (c_eq h6277 k_0) ?_ ?_
    · exact (qz_L_fault_J16 hS6277 hM6277 k_0 kl_0)
    · exact (qz_L_fault_J16 hS6277 hM6277 k_0 kl_1)
  · intro v6277 S6277 M6277 hS6277 hM6277
    dsimp only
    refine qs_ite Iff.rfl ?_ ?_
    · exact qs_tr (show vi _ _ from k_1) hS6277 hM6277
    · refine qs_ite Iff.rfl ?_ ?_
      · exact qs_tr (show vi _ _ from k_2) hS6277 hM6277
      · exact qs_none
set_option maxRecDepth 20000 in
theorem qz_X11_disable_J32 {P : Nat → Nat} {S : zm_S} {M : qm} {i1 : Int32} {qi1 : Int} {i2 : Int32} {qi2 : Int} {t0 : Int32} {qt0 : Int} (hS : Sh L xs P S) (hM : qM P S = M) (ei1 : i1.toInt = qi1) (ei2 : i2.toInt = qi2) (et0 : t0.toInt = qt0) : qs (zf_X11_disable_J32 20000 6 i1 i2 t0 S) (qf_X11_disable_J32 20000 qi1 qi2 qt0 M) (tO (rr L xs P (vs vi ve))) := by
  unfold zf_X11_disable_J32 qf_X11_disable_J32
  refine qs_xp (qz_X11_needArgument hS hM et0) ?_ ?_
  · intro v6279 S6279 w6279 h6279 hS6279 hM6279
    dsimp only
    refine qs_gi hS6279 hM6279 pl_6 ts_6 (z := 11) rfl rfl (fun v6280 h6280 => ?_)
    refine qs_xp (qz_X11_needState hS6279 hM6279 h6280) ?_ ?_
    · intro v6282 S6282 w6282 h6282 hS6282 hM6282
      dsimp only
      refine qs_gr hS6282 pl_6 ts_6 rfl ?_
      refine qs_gr hS6282 pl_1172 ts_1172 rfl ?_
      refine qs_gd (fun g6286 => ?_)
      refine qs_xi hM6282 (pa_p hS6282 pl_1175 ts_1175) ei1 g6286 (fun v6285 h6285 => ?_)
      refine qs_gr hS6282 pl_6 ts_6 rfl ?_
      refine qs_gr hS6282 pl_1172 ts_1172 rfl ?_
      refine qs_gd (fun g6290 => ?_)
      refine qs_si hS6282 hM6282 (pa_p hS6282 pl_1175 ts_1175) ei1 g6290 ei2 (fun S6289 M6289 hS6289 hM6289 => ?_)
      exact qs_tr (show (vs vi ve) _ _ from h6285) hS6289 hM6289
    · intro v6282 S6282 hS6282 hM6282
      dsimp only
      exact qs_tr (show (vs vi ve) _ _ from rfl) hS6282 hM6282
  · intro v6279 S6279 hS6279 hM6279
    dsimp only
    exact qs_tr (show (vs vi ve) _ _ from rfl) hS6279 hM6279
set_option maxRecDepth 20000 in
theorem qz_X11_disable_J31 {P : Nat → Nat} {S : zm_S} {M : qm} {i1 : Int32} {qi1 : Int} {i2 : Int32} {qi2 : Int} (hS : Sh L xs P S) (hM : qM P S = M) (ei1 : i1.toInt = qi1) (ei2 : i2.toInt = qi2) : qs (zf_X11_disable_J31 20000 6 i1 i2 S) (qf_X11_disable_J31 20000 qi1 qi2 M) (tO (rr L xs P (vs vi ve))) := by
  unfold zf_X11_disable_J31 qf_X11_disable_J31
  exact (qz_X11_disable_J32 hS hM ei1 ei2 k_0)
set_option maxRecDepth 20000 in
theorem qz_X11_disable {P : Nat → Nat} {S : zm_S} {M : qm} {i1 : Int32} {qi1 : Int} {i2 : Int32} {qi2 : Int} (hS : Sh L xs P S) (hM : qM P S = M) (ei1 : i1.toInt = qi1) (ei2 : i2.toInt = qi2) : qs (zf_X11_disable 20000 6 i1 i2 S) (qf_X11_disable 20000 qi1 qi2 M) (tO (rr L xs P (vs vi ve))) := by
  unfold zf_X11_disable qf_X11_disable
  refine qs_gr hS pl_6 ts_6 rfl ?_
  refine qs_gi hS hM pl_1172 ts_1172 (z := 2) rfl rfl (fun v6292 h6292 => ?_)
  refine qs_bp (qz_X11_isWithin hS hM ei1 k_0 (p_sub h6292 k_1)) (fun v6293 S6293 w6293 h6293 hS6293 hM6293 => ?_)
  refine qs_ite (c_eq h6293 k_0) ?_ ?_
  · exact (qz_X11_disable_J31 hS6293 hM6293 ei1 ei2)
  · refine qs_bp (qz_X11_isWithin hS6293 hM6293 ei2 k_0 k_1000000) (fun v6294 S6294 w6294 h6294 hS6294 hM6294 => ?_)
    refine qs_ite (c_eq h6294 k_0) ?_ ?_
    · exact (qz_X11_disable_J31 hS6294 hM6294 ei1 ei2)
    · exact (qz_X11_disable_J32 hS6294 hM6294 ei1 ei2 k_1)
set_option maxRecDepth 20000 in
theorem qz_L_disable {P : Nat → Nat} {S : zm_S} {M : qm} {i1 : Int32} {qi1 : Int} {i2 : Int32} {qi2 : Int} (hS : Sh L xs P S) (hM : qM P S = M) (ei1 : i1.toInt = qi1) (ei2 : i2.toInt = qi2) : qs (zf_L_disable 20000 6 i1 i2 2332 S) (qf_L_disable 20000 qi1 qi2 M) (tO (rr L xs P vi)) := by
  unfold zf_L_disable qf_L_disable
  refine qs_zi hS pl_6 ts_6 ?_
  refine qs_xr (qz_X11_disable hS hM ei1 ei2) ?_ ?_
  · intro v6297 S6297 w6297 M6297 h6297 hS6297 hM6297
    dsimp only
    refine qs_sl hS6297 hM6297 (pa_p hS6297 pl_2332 ts_2332) k_0 (by decide) (p_64 h6297) (fun S6298 M6298 hS6298 hM6298 => ?_)
    exact qs_tr (show vi _ _ from k_0) hS6298 hM6298
  · intro v6297 S6297 M6297 hS6297 hM6297
    dsimp only
    refine qs_ite Iff.rfl ?_ ?_
    · exact qs_tr (show vi _ _ from k_1) hS6297 hM6297
    · refine qs_ite Iff.rfl ?_ ?_
      · exact qs_tr (show vi _ _ from k_2) hS6297 hM6297
      · exact qs_none
set_option maxRecDepth 20000 in
theorem qz_X18_disable_J31 {P : Nat → Nat} {S : zm_S} {M : qm} {i1 : Int32} {qi1 : Int} {i2 : Int32} {qi2 : Int} {t1 : Int32} {qt1 : Int} (hS : Sh L xs P S) (hM : qM P S = M) (ei1 : i1.toInt = qi1) (ei2 : i2.toInt = qi2) (et1 : t1.toInt = qt1) : qs (zf_X18_disable_J31 20000 2156 i1 i2 2156 t1 S) (qf_X18_disable_J31 20000 qi1 qi2 qt1 M) (tO (rr L xs P vi)) := by
  unfold zf_X18_disable_J31 qf_X18_disable_J31
  refine qs_gi hS hM pl_2156 ts_2156 (z := 1) rfl rfl (fun v6299 h6299 => ?_)
  refine qs_zi hS pl_2156 ts_2156 ?_
  refine qs_b (qz_X18_goes hS hM et1 h6299) (fun v6301 S6301 w6301 M6301 h6301 hS6301 hM6301 => ?_)
  refine qs_ite (c_eq h6301 k_0) ?_ ?_
  · exact qs_tr (show vi _ _ from k_0) hS6301 hM6301
  · refine qs_gr hS6301 pl_2156 ts_2156 rfl ?_
    refine qs_gr hS6301 pl_2208 ts_2208 rfl ?_
    refine qs_gd (fun g6305 => ?_)
    refine qs_xi hM6301 (pa_p hS6301 pl_2211 ts_2211) ei1 g6305 (fun v6304 h6304 => ?_)
    refine qs_gr hS6301 pl_2156 ts_2156 rfl ?_
    refine qs_gr hS6301 pl_2208 ts_2208 rfl ?_
    refine qs_gd (fun g6309 => ?_)
    refine qs_si hS6301 hM6301 (pa_p hS6301 pl_2211 ts_2211) ei1 g6309 ei2 (fun S6308 M6308 hS6308 hM6308 => ?_)
    exact qs_tr (show vi _ _ from h6304) hS6308 hM6308
set_option maxRecDepth 20000 in
theorem qz_X18_disable_J30 {P : Nat → Nat} {S : zm_S} {M : qm} {i1 : Int32} {qi1 : Int} {i2 : Int32} {qi2 : Int} (hS : Sh L xs P S) (hM : qM P S = M) (ei1 : i1.toInt = qi1) (ei2 : i2.toInt = qi2) : qs (zf_X18_disable_J30 20000 2156 i1 i2 2156 S) (qf_X18_disable_J30 20000 qi1 qi2 M) (tO (rr L xs P vi)) := by
  unfold zf_X18_disable_J30 qf_X18_disable_J30
  exact (qz_X18_disable_J31 hS hM ei1 ei2 k_0)
set_option maxRecDepth 20000 in
theorem qz_X18_disable {P : Nat → Nat} {S : zm_S} {M : qm} {i1 : Int32} {qi1 : Int} {i2 : Int32} {qi2 : Int} (hS : Sh L xs P S) (hM : qM P S = M) (ei1 : i1.toInt = qi1) (ei2 : i2.toInt = qi2) : qs (zf_X18_disable 20000 2156 i1 i2 S) (qf_X18_disable 20000 qi1 qi2 M) (tO (rr L xs P vi)) := by
  unfold zf_X18_disable qf_X18_disable
  refine qs_gr hS pl_2156 ts_2156 rfl ?_
  refine qs_gi hS hM pl_2208 ts_2208 (z := 0) rfl rfl (fun v6311 h6311 => ?_)
  refine qs_bp (qz_X18_isIn hS hM ei1 h6311) (fun v6312 S6312 w6312 h6312 hS6312 hM6312 => ?_)
  refine qs_ite (c_eq h6312 k_0) ?_ ?_
  · exact (qz_X18_disable_J30 hS6312 hM6312 ei1 ei2)
  · refine qs_ite (c_lt ei2 k_0) ?_ ?_
    · exact (qz_X18_disable_J30 hS6312 hM6312 ei1 ei2)
    · refine qs_ite (c_lt k_1000000 ei2) ?_ ?_
      · exact (qz_X18_disable_J30 hS6312 hM6312 ei1 ei2)
      · exact (qz_X18_disable_J31 hS6312 hM6312 ei1 ei2 k_1)
set_option maxRecDepth 20000 in
theorem qz_X4_lookAtActs_L4_b (n : Nat) {P : Nat → Nat} {S : zm_S} {M : qm} {i1 : Int32} {qi1 : Int} {i2 : Int32} {qi2 : Int} {i3 : Int32} {qi3 : Int} (hS : Sh L xs P S) (hM : qM P S = M) (ei1 : i1.toInt = qi1) (ei2 : i2.toInt = qi2) (ei3 : i3.toInt = qi3) : qs (zf_X4_lookAtActs_L4 20000 (n + 1) 1172 i1 i2 i3 S) (qf_X4_lookAtActs_L4_b 20000 qi1 qi2 qi3 M) (tk (vs (rr L xs P vi) (rr L xs P vi)) (qc_X4_lookAtActs_L4 L xs P (zf_X4_lookAtActs_L4 20000 n))) := by
  refine qs_eq (zf_X4_lookAtActs_L4.eq_2 ..) ?_
  unfold qf_X4_lookAtActs_L4_b
  refine qs_gr hS pl_1172 ts_1172 rfl ?_
  refine qs_n (pa_p hS pl_1270 ts_1270) (by decide) (x := 20) (by decide) (fun v6314 h6314 => ?_)
  refine qs_ite (c_le h6314 ei3) ?_ ?_
  · exact qs_tr2 (show vi _ _ from ei2) hS hM
  · refine qs_gr hS pl_1172 ts_1172 rfl ?_
    refine qs_gd (fun g6317 => ?_)
    refine qs_xi hM (pa_p hS pl_1270 ts_1270) ei3 g6317 (fun v6316 h6316 => ?_)
    refine qs_ite (c_eq h6316 k_1) ?_ ?_
    · refine qs_gr hS pl_1172 ts_1172 rfl ?_
      refine qs_gd (fun g6320 => ?_)
      refine qs_xi hM (pa_p hS pl_1272 ts_1272) ei3 g6320 (fun v6319 h6319 => ?_)
      refine qs_ite (c_eq h6319 k_0) ?_ ?_
      · refine qs_gr hS pl_1172 ts_1172 rfl ?_
        refine qs_gd (fun g6323 => ?_)
        refine qs_sz hS hM (pa_p hS pl_1272 ts_1272) ei3 g6323 k_1 (by decide) (fun S6322 M6322 hS6322 hM6322 => ?_)
        refine qs_gr hS6322 pl_1172 ts_1172 rfl ?_
        refine qs_gd (fun g6326 => ?_)
        refine qs_si hS6322 hM6322 (pa_p hS6322 pl_1271 ts_1271) ei3 g6326 ei1 (fun S6325 M6325 hS6325 hM6325 => ?_)
        exact qs_tk ⟨_, _, _, _, rfl, ei1, (p_add ei2 k_1), (p_add ei3 k_1), hS6325, hM6325⟩
      · exact qs_tk ⟨_, _, _, _, rfl, ei1, ei2, (p_add ei3 k_1), hS, hM⟩
    · exact qs_tk ⟨_, _, _, _, rfl, ei1, ei2, (p_add ei3 k_1), hS, hM⟩
theorem qz_X4_lookAtActs_L4 (n : Nat) : ∀ {P : Nat → Nat} {S : zm_S} {M : qm} {i1 : Int32} {qi1 : Int} {i2 : Int32} {qi2 : Int} {i3 : Int32} {qi3 : Int} (hS : Sh L xs P S) (hM : qM P S = M) (ei1 : i1.toInt = qi1) (ei2 : i2.toInt = qi2) (ei3 : i3.toInt = qi3), qs (zf_X4_lookAtActs_L4 20000 n 1172 i1 i2 i3 S) (qf_X4_lookAtActs_L4 20000 n qi1 qi2 qi3 M) (tO (vs (rr L xs P vi) (rr L xs P vi))) := by
  induction n with
  | zero =>
    intros
    exact qs_none
  | succ n ih =>
    intro P S M i1 qi1 i2 qi2 i3 qi3 hS hM ei1 ei2 ei3
    unfold qf_X4_lookAtActs_L4
    refine qs_loop (C := (qc_X4_lookAtActs_L4 L xs P (zf_X4_lookAtActs_L4 20000 n))) (qz_X4_lookAtActs_L4_b n hS hM ei1 ei2 ei3) ?_
    rintro x s ⟨_, _, _, _, rfl, u0, u1, u2, hS2, hM2⟩
    exact ih hS2 hM2 u0 u1 u2
set_option maxRecDepth 20000 in
theorem qz_X4_lookAtActs {P : Nat → Nat} {S : zm_S} {M : qm} {i1 : Int32} {qi1 : Int} (hS : Sh L xs P S) (hM : qM P S = M) (ei1 : i1.toInt = qi1) : qs (zf_X4_lookAtActs 20000 1172 i1 S) (qf_X4_lookAtActs 20000 qi1 M) (tO (rr L xs P vi)) := by
  unfold zf_X4_lookAtActs qf_X4_lookAtActs
  refine qs_lr (qz_X4_lookAtActs_L4 20000 hS hM ei1 k_0 k_0) ?_ ?_
  · intro v6328 S6328 w6328 M6328 h6328 hS6328 hM6328
    dsimp only
    exact qs_tr h6328 hS6328 hM6328
  · intro v6328 S6328 w6328 M6328 h6328 hS6328 hM6328
    dsimp only
    exact qs_tr (show vi _ _ from h6328) hS6328 hM6328
set_option maxRecDepth 20000 in
theorem qz_X4_confirmActs_L4_b (n : Nat) {P : Nat → Nat} {S : zm_S} {M : qm} {i1 : Int32} {qi1 : Int} {i2 : Int32} {qi2 : Int} (hS : Sh L xs P S) (hM : qM P S = M) (ei1 : i1.toInt = qi1) (ei2 : i2.toInt = qi2) : qs (zf_X4_confirmActs_L4 20000 (n + 1) 1172 i1 i2 S) (qf_X4_confirmActs_L4_b 20000 qi1 qi2 M) (tk (vs (rr L xs P vi) (rr L xs P vi)) (qc_X4_confirmActs_L4 L xs P (zf_X4_confirmActs_L4 20000 n))) := by
  refine qs_eq (zf_X4_confirmActs_L4.eq_2 ..) ?_
  unfold qf_X4_confirmActs_L4_b
  refine qs_gr hS pl_1172 ts_1172 rfl ?_
  refine qs_n (pa_p hS pl_1270 ts_1270) (by decide) (x := 20) (by decide) (fun v6330 h6330 => ?_)
  refine qs_ite (c_le h6330 ei2) ?_ ?_
  · exact qs_tr2 (show vi _ _ from ei1) hS hM
  · refine qs_gr hS pl_1172 ts_1172 rfl ?_
    refine qs_gd (fun g6333 => ?_)
    refine qs_xi hM (pa_p hS pl_1270 ts_1270) ei2 g6333 (fun v6332 h6332 => ?_)
    refine qs_ite (c_eq h6332 k_1) ?_ ?_
    · refine qs_gr hS pl_1172 ts_1172 rfl ?_
      refine qs_gd (fun g6336 => ?_)
      refine qs_xi hM (pa_p hS pl_1273 ts_1273) ei2 g6336 (fun v6335 h6335 => ?_)
      refine qs_ite (c_eq h6335 k_0) ?_ ?_
      · refine qs_gr hS pl_1172 ts_1172 rfl ?_
        refine qs_gd (fun g6339 => ?_)
        refine qs_sz hS hM (pa_p hS pl_1273 ts_1273) ei2 g6339 k_1 (by decide) (fun S6338 M6338 hS6338 hM6338 => ?_)
        exact qs_tk ⟨_, _, _, rfl, (p_add ei1 k_1), (p_add ei2 k_1), hS6338, hM6338⟩
      · exact qs_tk ⟨_, _, _, rfl, ei1, (p_add ei2 k_1), hS, hM⟩
    · exact qs_tk ⟨_, _, _, rfl, ei1, (p_add ei2 k_1), hS, hM⟩
theorem qz_X4_confirmActs_L4 (n : Nat) : ∀ {P : Nat → Nat} {S : zm_S} {M : qm} {i1 : Int32} {qi1 : Int} {i2 : Int32} {qi2 : Int} (hS : Sh L xs P S) (hM : qM P S = M) (ei1 : i1.toInt = qi1) (ei2 : i2.toInt = qi2), qs (zf_X4_confirmActs_L4 20000 n 1172 i1 i2 S) (qf_X4_confirmActs_L4 20000 n qi1 qi2 M) (tO (vs (rr L xs P vi) (rr L xs P vi))) := by
  induction n with
  | zero =>
    intros
    exact qs_none
  | succ n ih =>
    intro P S M i1 qi1 i2 qi2 hS hM ei1 ei2
    unfold qf_X4_confirmActs_L4
    refine qs_loop (C := (qc_X4_confirmActs_L4 L xs P (zf_X4_confirmActs_L4 20000 n))) (qz_X4_confirmActs_L4_b n hS hM ei1 ei2) ?_
    rintro x s ⟨_, _, _, rfl, u0, u1, hS2, hM2⟩
    exact ih hS2 hM2 u0 u1
set_option maxRecDepth 20000 in
theorem qz_X4_confirmActs {P : Nat → Nat} {S : zm_S} {M : qm}  (hS : Sh L xs P S) (hM : qM P S = M)  : qs (zf_X4_confirmActs 20000 1172 S) (qf_X4_confirmActs 20000 M) (tO (rr L xs P vi)) := by
  unfold zf_X4_confirmActs qf_X4_confirmActs
  refine qs_lr (qz_X4_confirmActs_L4 20000 hS hM k_0 k_0) ?_ ?_
  · intro v6341 S6341 w6341 M6341 h6341 hS6341 hM6341
    dsimp only
    exact qs_tr h6341 hS6341 hM6341
  · intro v6341 S6341 w6341 M6341 h6341 hS6341 hM6341
    dsimp only
    exact qs_tr (show vi _ _ from h6341) hS6341 hM6341
set_option maxRecDepth 20000 in
theorem qz_X11_attend {P : Nat → Nat} {S : zm_S} {M : qm} {i1 : Int32} {qi1 : Int} (hS : Sh L xs P S) (hM : qM P S = M) (ei1 : i1.toInt = qi1) : qs (zf_X11_attend 20000 6 i1 S) (qf_X11_attend 20000 qi1 M) (tO (rr L xs P (vs vi ve))) := by
  unfold zf_X11_attend qf_X11_attend
  refine qs_bp (qz_X11_isWithin hS hM ei1 k_0 k_1) (fun v6342 S6342 w6342 h6342 hS6342 hM6342 => ?_)
  refine qs_xp (qz_X11_needArgument hS6342 hM6342 h6342) ?_ ?_
  · intro v6344 S6344 w6344 h6344 hS6344 hM6344
    dsimp only
    refine qs_gi hS6344 hM6344 pl_6 ts_6 (z := 11) rfl rfl (fun v6345 h6345 => ?_)
    refine qs_xp (qz_X11_needState hS6344 hM6344 h6345) ?_ ?_
    · intro v6347 S6347 w6347 h6347 hS6347 hM6347
      dsimp only
      refine qs_ite (c_eq ei1 k_0) ?_ ?_
      · refine qs_gr hS6347 pl_6 ts_6 rfl ?_
        refine qs_gi hS6347 hM6347 pl_6 ts_6 (z := 12) rfl rfl (fun v6349 h6349 => ?_)
        refine qs_zi hS6347 pl_1172 ts_1172 ?_
        refine qs_b (qz_X4_lookAtActs hS6347 hM6347 h6349) (fun v6351 S6351 w6351 M6351 h6351 hS6351 hM6351 => ?_)
        exact qs_tr (show (vs vi ve) _ _ from h6351) hS6351 hM6351
      · refine qs_gr hS6347 pl_6 ts_6 rfl ?_
        refine qs_zi hS6347 pl_1172 ts_1172 ?_
        refine qs_b (qz_X4_confirmActs hS6347 hM6347 ) (fun v6354 S6354 w6354 M6354 h6354 hS6354 hM6354 => ?_)
        exact qs_tr (show (vs vi ve) _ _ from h6354) hS6354 hM6354
    · intro v6347 S6347 hS6347 hM6347
      dsimp only
      exact qs_tr (show (vs vi ve) _ _ from rfl) hS6347 hM6347
  · intro v6344 S6344 hS6344 hM6344
    dsimp only
    exact qs_tr (show (vs vi ve) _ _ from rfl) hS6344 hM6344
set_option maxRecDepth 20000 in
theorem qz_L_attend {P : Nat → Nat} {S : zm_S} {M : qm} {i1 : Int32} {qi1 : Int} (hS : Sh L xs P S) (hM : qM P S = M) (ei1 : i1.toInt = qi1) : qs (zf_L_attend 20000 6 i1 2332 S) (qf_L_attend 20000 qi1 M) (tO (rr L xs P vi)) := by
  unfold zf_L_attend qf_L_attend
  refine qs_zi hS pl_6 ts_6 ?_
  refine qs_xr (qz_X11_attend hS hM ei1) ?_ ?_
  · intro v6357 S6357 w6357 M6357 h6357 hS6357 hM6357
    dsimp only
    refine qs_sl hS6357 hM6357 (pa_p hS6357 pl_2332 ts_2332) k_0 (by decide) (p_64 h6357) (fun S6358 M6358 hS6358 hM6358 => ?_)
    exact qs_tr (show vi _ _ from k_0) hS6358 hM6358
  · intro v6357 S6357 M6357 hS6357 hM6357
    dsimp only
    refine qs_ite Iff.rfl ?_ ?_
    · exact qs_tr (show vi _ _ from k_1) hS6357 hM6357
    · refine qs_ite Iff.rfl ?_ ?_
      · exact qs_tr (show vi _ _ from k_2) hS6357 hM6357
      · exact qs_none
set_option maxRecDepth 20000 in
theorem qz_X14_attend_J113 {P : Nat → Nat} {S : zm_S} {M : qm} {i1 : Int32} {qi1 : Int} {i3 : Int32} {qi3 : Int} {t0 : Int32} {qt0 : Int} {t1 : Int32} {qt1 : Int} (hS : Sh L xs P S) (hM : qM P S = M) (ei1 : i1.toInt = qi1) (ei3 : i3.toInt = qi3) (et0 : t0.toInt = qt0) (et1 : t1.toInt = qt1) {k : Nat → Int32 → Int32 → Int32 → zm_S → Option ((Int32 × zm_S) ⊕ ((Int32) × zm_S))} : qs (zf_X14_attend_J113 20000 k 2208 i1 i3 t0 t1 S) (qf_X14_attend_J113 20000 qi1 qi3 qt0 qt1 M) (tk (vs (rr L xs P vi) (rr L xs P vi)) (qc_X14_attend_L4 L xs P k)) := by
  unfold zf_X14_attend_J113 qf_X14_attend_J113
  exact qs_tk ⟨_, _, _, _, rfl, ei1, (p_add et0 et1), (p_add ei3 k_1), hS, hM⟩
set_option maxRecDepth 20000 in
theorem qz_X14_attend_J102 {P : Nat → Nat} {S : zm_S} {M : qm} {i1 : Int32} {qi1 : Int} {i2 : Int32} {qi2 : Int} {i3 : Int32} {qi3 : Int} {i4 : Int32} {qi4 : Int} (hS : Sh L xs P S) (hM : qM P S = M) (ei1 : i1.toInt = qi1) (ei2 : i2.toInt = qi2) (ei3 : i3.toInt = qi3) (ei4 : i4.toInt = qi4) {k : Nat → Int32 → Int32 → Int32 → zm_S → Option ((Int32 × zm_S) ⊕ ((Int32) × zm_S))} : qs (zf_X14_attend_J102 20000 k 2208 i1 i2 i3 i4 S) (qf_X14_attend_J102 20000 qi1 qi2 qi3 qi4 M) (tk (vs (rr L xs P vi) (rr L xs P vi)) (qc_X14_attend_L4 L xs P k)) := by
  unfold zf_X14_attend_J102 qf_X14_attend_J102
  refine qs_ite (c_eq ei4 k_0) ?_ ?_
  · exact (qz_X14_attend_J113 hS hM ei1 ei3 ei2 k_0)
  · exact (qz_X14_attend_J113 hS hM ei1 ei3 ei2 k_1)
set_option maxRecDepth 20000 in
theorem qz_X14_attend_J90 {P : Nat → Nat} {S : zm_S} {M : qm} {i1 : Int32} {qi1 : Int} {i2 : Int32} {qi2 : Int} {i3 : Int32} {qi3 : Int} {i4 : Int32} {qi4 : Int} (hS : Sh L xs P S) (hM : qM P S = M) (ei1 : i1.toInt = qi1) (ei2 : i2.toInt = qi2) (ei3 : i3.toInt = qi3) (ei4 : i4.toInt = qi4) {k : Nat → Int32 → Int32 → Int32 → zm_S → Option ((Int32 × zm_S) ⊕ ((Int32) × zm_S))} : qs (zf_X14_attend_J90 20000 k 2208 i1 i2 i3 i4 S) (qf_X14_attend_J90 20000 qi1 qi2 qi3 qi4 M) (tk (vs (rr L xs P vi) (rr L xs P vi)) (qc_X14_attend_L4 L xs P k)) := by
  unfold zf_X14_attend_J90 qf_X14_attend_J90
  refine qs_ite (c_eq ei4 k_0) ?_ ?_
  · exact (qz_X14_attend_J102 hS hM ei1 ei2 ei3 ei4)
  · refine qs_gr hS pl_2208 ts_2208 rfl ?_
    refine qs_gd (fun g6361 => ?_)
    refine qs_sz hS hM (pa_p hS pl_2230 ts_2230) ei3 g6361 k_1 (by decide) (fun S6360 M6360 hS6360 hM6360 => ?_)
    exact (qz_X14_attend_J102 hS6360 hM6360 ei1 ei2 ei3 ei4)
set_option maxRecDepth 20000 in
theorem qz_X14_attend_J59 {P : Nat → Nat} {S : zm_S} {M : qm} {i1 : Int32} {qi1 : Int} {i2 : Int32} {qi2 : Int} {i3 : Int32} {qi3 : Int} {t0 : Int32} {qt0 : Int} (hS : Sh L xs P S) (hM : qM P S = M) (ei1 : i1.toInt = qi1) (ei2 : i2.toInt = qi2) (ei3 : i3.toInt = qi3) (et0 : t0.toInt = qt0) {k : Nat → Int32 → Int32 → Int32 → zm_S → Option ((Int32 × zm_S) ⊕ ((Int32) × zm_S))} : qs (zf_X14_attend_J59 20000 k 2208 i1 i2 i3 t0 S) (qf_X14_attend_J59 20000 qi1 qi2 qi3 qt0 M) (tk (vs (rr L xs P vi) (rr L xs P vi)) (qc_X14_attend_L4 L xs P k)) := by
  unfold zf_X14_attend_J59 qf_X14_attend_J59
  refine qs_ite (c_eq et0 k_0) ?_ ?_
  · exact (qz_X14_attend_J90 hS hM ei1 ei2 ei3 et0)
  · refine qs_ite (c_eq ei1 k_0) ?_ ?_
    · refine qs_gr hS pl_2208 ts_2208 rfl ?_
      refine qs_gi hS hM pl_2208 ts_2208 (z := 1) rfl rfl (fun v6363 h6363 => ?_)
      refine qs_gd (fun g6365 => ?_)
      refine qs_si hS hM (pa_p hS pl_2228 ts_2228) ei3 g6365 h6363 (fun S6364 M6364 hS6364 hM6364 => ?_)
      refine qs_gr hS6364 pl_2208 ts_2208 rfl ?_
      refine qs_gd (fun g6368 => ?_)
      refine qs_sz hS6364 hM6364 (pa_p hS6364 pl_2229 ts_2229) ei3 g6368 k_1 (by decide) (fun S6367 M6367 hS6367 hM6367 => ?_)
      exact (qz_X14_attend_J102 hS6367 hM6367 ei1 ei2 ei3 et0)
    · exact (qz_X14_attend_J90 hS hM ei1 ei2 ei3 et0)
set_option maxRecDepth 20000 in
theorem qz_X14_attend_J58 {P : Nat → Nat} {S : zm_S} {M : qm} {i1 : Int32} {qi1 : Int} {i2 : Int32} {qi2 : Int} {i3 : Int32} {qi3 : Int} (hS : Sh L xs P S) (hM : qM P S = M) (ei1 : i1.toInt = qi1) (ei2 : i2.toInt = qi2) (ei3 : i3.toInt = qi3) {k : Nat → Int32 → Int32 → Int32 → zm_S → Option ((Int32 × zm_S) ⊕ ((Int32) × zm_S))} : qs (zf_X14_attend_J58 20000 k 2208 i1 i2 i3 S) (qf_X14_attend_J58 20000 qi1 qi2 qi3 M) (tk (vs (rr L xs P vi) (rr L xs P vi)) (qc_X14_attend_L4 L xs P k)) := by
  unfold zf_X14_attend_J58 qf_X14_attend_J58
  exact (qz_X14_attend_J59 hS hM ei1 ei2 ei3 k_0)
set_option maxRecDepth 20000 in
theorem qz_X14_attend_J54 {P : Nat → Nat} {S : zm_S} {M : qm} {i1 : Int32} {qi1 : Int} {i2 : Int32} {qi2 : Int} {i3 : Int32} {qi3 : Int} (hS : Sh L xs P S) (hM : qM P S = M) (ei1 : i1.toInt = qi1) (ei2 : i2.toInt = qi2) (ei3 : i3.toInt = qi3) {k : Nat → Int32 → Int32 → Int32 → zm_S → Option ((Int32 × zm_S) ⊕ ((Int32) × zm_S))} : qs (zf_X14_attend_J54 20000 k 2208 i1 i2 i3 S) (qf_X14_attend_J54 20000 qi1 qi2 qi3 M) (tk (vs (rr L xs P vi) (rr L xs P vi)) (qc_X14_attend_L4 L xs P k)) := by
  unfold zf_X14_attend_J54 qf_X14_attend_J54
  exact (qz_X14_attend_J59 hS hM ei1 ei2 ei3 k_1)
set_option maxRecDepth 20000 in
theorem qz_X14_attend_L4_b (n : Nat) {P : Nat → Nat} {S : zm_S} {M : qm} {i1 : Int32} {qi1 : Int} {i2 : Int32} {qi2 : Int} {i3 : Int32} {qi3 : Int} (hS : Sh L xs P S) (hM : qM P S = M) (ei1 : i1.toInt = qi1) (ei2 : i2.toInt = qi2) (ei3 : i3.toInt = qi3) : qs (zf_X14_attend_L4 20000 (n + 1) 2208 i1 i2 i3 S) (qf_X14_attend_L4_b 20000 qi1 qi2 qi3 M) (tk (vs (rr L xs P vi) (rr L xs P vi)) (qc_X14_attend_L4 L xs P (zf_X14_attend_L4 20000 n))) := by
  refine qs_eq (zf_X14_attend_L4.eq_2 ..) ?_
  unfold qf_X14_attend_L4_b
  refine qs_ite (c_le k_20 ei3) ?_ ?_
  · exact qs_tr2 (show vi _ _ from ei2) hS hM
  · refine qs_gr hS pl_2208 ts_2208 rfl ?_
    refine qs_gd (fun g6371 => ?_)
    refine qs_xi hM (pa_p hS pl_2219 ts_2219) ei3 g6371 (fun v6370 h6370 => ?_)
    refine qs_ite (c_eq h6370 k_0) ?_ ?_
    · exact (qz_X14_attend_J58 hS hM ei1 ei2 ei3)
    · refine qs_gr hS pl_2208 ts_2208 rfl ?_
      refine qs_gd (fun g6374 => ?_)
      refine qs_xi hM (pa_p hS pl_2227 ts_2227) ei3 g6374 (fun v6373 h6373 => ?_)
      refine qs_ite (c_eq h6373 k_1) ?_ ?_
      · refine qs_ite (c_eq ei1 k_0) ?_ ?_
        · refine qs_gr hS pl_2208 ts_2208 rfl ?_
          refine qs_gd (fun g6377 => ?_)
          refine qs_xi hM (pa_p hS pl_2229 ts_2229) ei3 g6377 (fun v6376 h6376 => ?_)
          refine qs_ite (c_eq h6376 k_0) ?_ ?_
          · exact (qz_X14_attend_J54 hS hM ei1 ei2 ei3)
          · exact (qz_X14_attend_J58 hS hM ei1 ei2 ei3)
        · refine qs_gr hS pl_2208 ts_2208 rfl ?_
          refine qs_gd (fun g6380 => ?_)
          refine qs_xi hM (pa_p hS pl_2230 ts_2230) ei3 g6380 (fun v6379 h6379 => ?_)
          refine qs_ite (c_eq h6379 k_0) ?_ ?_
          · exact (qz_X14_attend_J54 hS hM ei1 ei2 ei3)
          · exact (qz_X14_attend_J58 hS hM ei1 ei2 ei3)
      · exact (qz_X14_attend_J58 hS hM ei1 ei2 ei3)
theorem qz_X14_attend_L4 (n : Nat) : ∀ {P : Nat → Nat} {S : zm_S} {M : qm} {i1 : Int32} {qi1 : Int} {i2 : Int32} {qi2 : Int} {i3 : Int32} {qi3 : Int} (hS : Sh L xs P S) (hM : qM P S = M) (ei1 : i1.toInt = qi1) (ei2 : i2.toInt = qi2) (ei3 : i3.toInt = qi3), qs (zf_X14_attend_L4 20000 n 2208 i1 i2 i3 S) (qf_X14_attend_L4 20000 n qi1 qi2 qi3 M) (tO (vs (rr L xs P vi) (rr L xs P vi))) := by
  induction n with
  | zero =>
    intros
    exact qs_none
  | succ n ih =>
    intro P S M i1 qi1 i2 qi2 i3 qi3 hS hM ei1 ei2 ei3
    unfold qf_X14_attend_L4
    refine qs_loop (C := (qc_X14_attend_L4 L xs P (zf_X14_attend_L4 20000 n))) (qz_X14_attend_L4_b n hS hM ei1 ei2 ei3) ?_
    rintro x s ⟨_, _, _, _, rfl, u0, u1, u2, hS2, hM2⟩
    exact ih hS2 hM2 u0 u1 u2
set_option maxRecDepth 20000 in
theorem qz_X14_attend {P : Nat → Nat} {S : zm_S} {M : qm} {i1 : Int32} {qi1 : Int} (hS : Sh L xs P S) (hM : qM P S = M) (ei1 : i1.toInt = qi1) : qs (zf_X14_attend 20000 2208 i1 S) (qf_X14_attend 20000 qi1 M) (tO (rr L xs P vi)) := by
  unfold zf_X14_attend qf_X14_attend
  refine qs_lr (qz_X14_attend_L4 20000 hS hM ei1 k_0 k_0) ?_ ?_
  · intro v6382 S6382 w6382 M6382 h6382 hS6382 hM6382
    dsimp only
    exact qs_tr h6382 hS6382 hM6382
  · intro v6382 S6382 w6382 M6382 h6382 hS6382 hM6382
    dsimp only
    exact qs_tr (show vi _ _ from h6382) hS6382 hM6382
set_option maxRecDepth 20000 in
theorem qz_X18_attend_J15 {P : Nat → Nat} {S : zm_S} {M : qm} {i1 : Int32} {qi1 : Int} {t1 : Int32} {qt1 : Int} (hS : Sh L xs P S) (hM : qM P S = M) (ei1 : i1.toInt = qi1) (et1 : t1.toInt = qt1) : qs (zf_X18_attend_J15 20000 2156 i1 2156 t1 S) (qf_X18_attend_J15 20000 qi1 qt1 M) (tO (rr L xs P vi)) := by
  unfold zf_X18_attend_J15 qf_X18_attend_J15
  refine qs_gi hS hM pl_2156 ts_2156 (z := 1) rfl rfl (fun v6383 h6383 => ?_)
  refine qs_zi hS pl_2156 ts_2156 ?_
  refine qs_b (qz_X18_goes hS hM et1 h6383) (fun v6385 S6385 w6385 M6385 h6385 hS6385 hM6385 => ?_)
  refine qs_ite (c_eq h6385 k_0) ?_ ?_
  · exact qs_tr (show vi _ _ from k_0) hS6385 hM6385
  · refine qs_gr hS6385 pl_2156 ts_2156 rfl ?_
    refine qs_zi hS6385 pl_2208 ts_2208 ?_
    refine qs_b (qz_X14_attend hS6385 hM6385 ei1) (fun v6388 S6388 w6388 M6388 h6388 hS6388 hM6388 => ?_)
    exact qs_tr (show vi _ _ from h6388) hS6388 hM6388
set_option maxRecDepth 20000 in
theorem qz_X18_attend_J10 {P : Nat → Nat} {S : zm_S} {M : qm} {i1 : Int32} {qi1 : Int} (hS : Sh L xs P S) (hM : qM P S = M) (ei1 : i1.toInt = qi1) : qs (zf_X18_attend_J10 20000 2156 i1 2156 S) (qf_X18_attend_J10 20000 qi1 M) (tO (rr L xs P vi)) := by
  unfold zf_X18_attend_J10 qf_X18_attend_J10
  exact (qz_X18_attend_J15 hS hM ei1 k_1)
set_option maxRecDepth 20000 in
theorem qz_X18_attend {P : Nat → Nat} {S : zm_S} {M : qm} {i1 : Int32} {qi1 : Int} (hS : Sh L xs P S) (hM : qM P S = M) (ei1 : i1.toInt = qi1) : qs (zf_X18_attend 20000 2156 i1 S) (qf_X18_attend 20000 qi1 M) (tO (rr L xs P vi)) := by
  unfold zf_X18_attend qf_X18_attend
  refine qs_ite (c_eq ei1 k_0) ?_ ?_
  · exact (qz_X18_attend_J10 hS hM ei1)
  · refine qs_ite (c_eq ei1 k_1) ?_ ?_
    · exact (qz_X18_attend_J10 hS hM ei1)
    · exact (qz_X18_attend_J15 hS hM ei1 k_0)
set_option maxRecDepth 20000 in
theorem qz_X4_isAsked {P : Nat → Nat} {S : zm_S} {M : qm} {i1 : Int32} {qi1 : Int} {i2 : Int32} {qi2 : Int} (hS : Sh L xs P S) (hM : qM P S = M) (ei1 : i1.toInt = qi1) (ei2 : i2.toInt = qi2) : qs (zf_X4_isAsked 20000 1172 i1 i2 S) (qf_X4_isAsked 20000 qi1 qi2 M) (tO (rp L xs P M vi)) := by
  unfold zf_X4_isAsked qf_X4_isAsked
  refine qs_gr hS pl_1172 ts_1172 rfl ?_
  refine qs_gd (fun g6391 => ?_)
  refine qs_xi hM (pa_p hS pl_1174 ts_1174) ei1 g6391 (fun v6390 h6390 => ?_)
  refine qs_ite (c_eq h6390 k_0) ?_ ?_
  · refine qs_gr hS pl_1172 ts_1172 rfl ?_
    refine qs_gd (fun g6394 => ?_)
    refine qs_xi hM (pa_p hS pl_1175 ts_1175) ei1 g6394 (fun v6393 h6393 => ?_)
    refine qs_ite (c_lt ei2 h6393) ?_ ?_
    · exact qs_tp (show vi _ _ from k_0) hS hM
    · exact qs_tp (show vi _ _ from k_1) hS hM
  · exact qs_tp (show vi _ _ from k_0) hS hM
set_option maxRecDepth 20000 in
theorem qz_X4_isOn {P : Nat → Nat} {S : zm_S} {M : qm} {i1 : Int32} {qi1 : Int} {i2 : Int32} {qi2 : Int} (hS : Sh L xs P S) (hM : qM P S = M) (ei1 : i1.toInt = qi1) (ei2 : i2.toInt = qi2) : qs (zf_X4_isOn 20000 1172 i1 i2 S) (qf_X4_isOn 20000 qi1 qi2 M) (tO (rp L xs P M vi)) := by
  unfold zf_X4_isOn qf_X4_isOn
  refine qs_gr hS pl_1172 ts_1172 rfl ?_
  refine qs_gd (fun g6397 => ?_)
  refine qs_xi hM (pa_p hS pl_1173 ts_1173) ei1 g6397 (fun v6396 h6396 => ?_)
  refine qs_ite (c_lt h6396 k_50) ?_ ?_
  · exact qs_tp (show vi _ _ from k_0) hS hM
  · refine qs_zi hS pl_1172 ts_1172 ?_
    refine qs_bp (qz_X4_isAsked hS hM ei1 ei2) (fun v6399 S6399 w6399 h6399 hS6399 hM6399 => ?_)
    refine qs_ite (c_eq h6399 k_0) ?_ ?_
    · exact qs_tp (show vi _ _ from k_0) hS6399 hM6399
    · exact qs_tp (show vi _ _ from k_1) hS6399 hM6399
set_option maxRecDepth 20000 in
theorem qz_X4_countOn_J43 {P : Nat → Nat} {S : zm_S} {M : qm} {i1 : Int32} {qi1 : Int} {i2 : Int32} {qi2 : Int} {i4 : Int32} {qi4 : Int} {t0 : Int32} {qt0 : Int} {t1 : Int32} {qt1 : Int} (hS : Sh L xs P S) (hM : qM P S = M) (ei1 : i1.toInt = qi1) (ei2 : i2.toInt = qi2) (ei4 : i4.toInt = qi4) (et0 : t0.toInt = qt0) (et1 : t1.toInt = qt1) {k : Nat → Int32 → Int32 → Int32 → Int32 → zm_S → Option ((Int32 × zm_S) ⊕ ((Int32) × zm_S))} : qs (zf_X4_countOn_J43 20000 k 1172 i1 i2 i4 t0 t1 S) (qf_X4_countOn_J43 20000 qi1 qi2 qi4 qt0 qt1 M) (tk (vs (rp L xs P M vi) (rp L xs P M vi)) (qc_X4_countOn_L5 L xs P M k)) := by
  unfold zf_X4_countOn_J43 qf_X4_countOn_J43
  exact qs_tk ⟨_, _, _, _, _, rfl, ei1, ei2, (p_add et0 et1), (p_add ei4 k_1), hS, hM⟩
set_option maxRecDepth 20000 in
theorem qz_X4_countOn_L5_b (n : Nat) {P : Nat → Nat} {S : zm_S} {M : qm} {i1 : Int32} {qi1 : Int} {i2 : Int32} {qi2 : Int} {i3 : Int32} {qi3 : Int} {i4 : Int32} {qi4 : Int} (hS : Sh L xs P S) (hM : qM P S = M) (ei1 : i1.toInt = qi1) (ei2 : i2.toInt = qi2) (ei3 : i3.toInt = qi3) (ei4 : i4.toInt = qi4) : qs (zf_X4_countOn_L5 20000 (n + 1) 1172 i1 i2 i3 i4 S) (qf_X4_countOn_L5_b 20000 qi1 qi2 qi3 qi4 M) (tk (vs (rp L xs P M vi) (rp L xs P M vi)) (qc_X4_countOn_L5 L xs P M (zf_X4_countOn_L5 20000 n))) := by
  refine qs_eq (zf_X4_countOn_L5.eq_2 ..) ?_
  unfold qf_X4_countOn_L5_b
  refine qs_gr hS pl_1172 ts_1172 rfl ?_
  refine qs_gd (fun g6402 => ?_)
  refine qs_xt hS pl_1176 ts_1176 (Or.inl rfl) ei1 g6402 (fun b6401 r6401 => ?_)
  refine qs_yi (j := 1) hS hM qt_1176 tq_1176 r6401 k_1 (by decide) (fun v6403 h6403 => ?_)
  refine qs_ite (c_le h6403 ei4) ?_ ?_
  · exact qs_tp2 (show vi _ _ from ei3) hS hM
  · refine qs_gr hS pl_1172 ts_1172 rfl ?_
    refine qs_gd (fun g6406 => ?_)
    refine qs_xt hS pl_1176 ts_1176 (Or.inl rfl) ei1 g6406 (fun b6405 r6405 => ?_)
    refine qs_gd (fun g6408 => ?_)
    refine qs_yi hS hM qt_1176 tq_1176 r6405 (p_add k_2 ei4) g6408 (fun v6407 h6407 => ?_)
    refine qs_zi hS pl_1172 ts_1172 ?_
    refine qs_bp (qz_X4_isOn hS hM h6407 ei2) (fun v6410 S6410 w6410 h6410 hS6410 hM6410 => ?_)
    refine qs_ite (c_eq h6410 k_0) ?_ ?_
    · exact (qz_X4_countOn_J43 hS6410 hM6410 ei1 ei2 ei4 ei3 k_0)
    · exact (qz_X4_countOn_J43 hS6410 hM6410 ei1 ei2 ei4 ei3 k_1)
theorem qz_X4_countOn_L5 (n : Nat) : ∀ {P : Nat → Nat} {S : zm_S} {M : qm} {i1 : Int32} {qi1 : Int} {i2 : Int32} {qi2 : Int} {i3 : Int32} {qi3 : Int} {i4 : Int32} {qi4 : Int} (hS : Sh L xs P S) (hM : qM P S = M) (ei1 : i1.toInt = qi1) (ei2 : i2.toInt = qi2) (ei3 : i3.toInt = qi3) (ei4 : i4.toInt = qi4), qs (zf_X4_countOn_L5 20000 n 1172 i1 i2 i3 i4 S) (qf_X4_countOn_L5 20000 n qi1 qi2 qi3 qi4 M) (tO (vs (rp L xs P M vi) (rp L xs P M vi))) := by
  induction n with
  | zero =>
    intros
    exact qs_none
  | succ n ih =>
    intro P S M i1 qi1 i2 qi2 i3 qi3 i4 qi4 hS hM ei1 ei2 ei3 ei4
    unfold qf_X4_countOn_L5
    refine qs_loop (C := (qc_X4_countOn_L5 L xs P M (zf_X4_countOn_L5 20000 n))) (qz_X4_countOn_L5_b n hS hM ei1 ei2 ei3 ei4) ?_
    rintro x s ⟨_, _, _, _, _, rfl, u0, u1, u2, u3, hS2, hM2⟩
    exact ih hS2 hM2 u0 u1 u2 u3
set_option maxRecDepth 20000 in
theorem qz_X4_countOn {P : Nat → Nat} {S : zm_S} {M : qm} {i1 : Int32} {qi1 : Int} {i2 : Int32} {qi2 : Int} (hS : Sh L xs P S) (hM : qM P S = M) (ei1 : i1.toInt = qi1) (ei2 : i2.toInt = qi2) : qs (zf_X4_countOn 20000 1172 i1 i2 S) (qf_X4_countOn 20000 qi1 qi2 M) (tO (rp L xs P M vi)) := by
  unfold zf_X4_countOn qf_X4_countOn
  refine qs_lp (qz_X4_countOn_L5 20000 hS hM ei1 ei2 k_0 k_0) ?_ ?_
  · intro v6412 S6412 w6412 h6412 hS6412 hM6412
    dsimp only
    exact qs_tp h6412 hS6412 hM6412
  · intro v6412 S6412 w6412 h6412 hS6412 hM6412
    dsimp only
    exact qs_tp (show vi _ _ from h6412) hS6412 hM6412
set_option maxRecDepth 20000 in
theorem qz_X4_isZone {P : Nat → Nat} {S : zm_S} {M : qm} {i1 : Int32} {qi1 : Int} (hS : Sh L xs P S) (hM : qM P S = M) (ei1 : i1.toInt = qi1) : qs (zf_X4_isZone 20000 1172 i1 S) (qf_X4_isZone 20000 qi1 M) (tO (rp L xs P M vi)) := by
  unfold zf_X4_isZone qf_X4_isZone
  refine qs_ite (c_lt ei1 k_0) ?_ ?_
  · exact qs_tp (show vi _ _ from k_0) hS hM
  · refine qs_gr hS pl_1172 ts_1172 rfl ?_
    refine qs_tn hS pl_1176 ts_1176 (by decide) (x := 20) (by decide) (fun v6414 h6414 => ?_)
    refine qs_ite (c_le h6414 ei1) ?_ ?_
    · exact qs_tp (show vi _ _ from k_0) hS hM
    · refine qs_gr hS pl_1172 ts_1172 rfl ?_
      refine qs_gd (fun g6417 => ?_)
      refine qs_xt hS pl_1176 ts_1176 (Or.inl rfl) ei1 g6417 (fun b6416 r6416 => ?_)
      refine qs_yi (j := 0) hS hM qt_1176 tq_1176 r6416 k_0 (by decide) (fun v6418 h6418 => ?_)
      refine qs_ite (c_eq h6418 k_0) ?_ ?_
      · exact qs_tp (show vi _ _ from k_0) hS hM
      · exact qs_tp (show vi _ _ from k_1) hS hM
set_option maxRecDepth 20000 in
theorem qz_X4_countAsked_J43 {P : Nat → Nat} {S : zm_S} {M : qm} {i1 : Int32} {qi1 : Int} {i2 : Int32} {qi2 : Int} {i4 : Int32} {qi4 : Int} {t0 : Int32} {qt0 : Int} {t1 : Int32} {qt1 : Int} (hS : Sh L xs P S) (hM : qM P S = M) (ei1 : i1.toInt = qi1) (ei2 : i2.toInt = qi2) (ei4 : i4.toInt = qi4) (et0 : t0.toInt = qt0) (et1 : t1.toInt = qt1) {k : Nat → Int32 → Int32 → Int32 → Int32 → zm_S → Option ((Int32 × zm_S) ⊕ ((Int32) × zm_S))} : qs (zf_X4_countAsked_J43 20000 k 1172 i1 i2 i4 t0 t1 S) (qf_X4_countAsked_J43 20000 qi1 qi2 qi4 qt0 qt1 M) (tk (vs (rp L xs P M vi) (rp L xs P M vi)) (qc_X4_countAsked_L5 L xs P M k)) := by
  unfold zf_X4_countAsked_J43 qf_X4_countAsked_J43
  exact qs_tk ⟨_, _, _, _, _, rfl, ei1, ei2, (p_add et0 et1), (p_add ei4 k_1), hS, hM⟩
set_option maxRecDepth 20000 in
theorem qz_X4_countAsked_L5_b (n : Nat) {P : Nat → Nat} {S : zm_S} {M : qm} {i1 : Int32} {qi1 : Int} {i2 : Int32} {qi2 : Int} {i3 : Int32} {qi3 : Int} {i4 : Int32} {qi4 : Int} (hS : Sh L xs P S) (hM : qM P S = M) (ei1 : i1.toInt = qi1) (ei2 : i2.toInt = qi2) (ei3 : i3.toInt = qi3) (ei4 : i4.toInt = qi4) : qs (zf_X4_countAsked_L5 20000 (n + 1) 1172 i1 i2 i3 i4 S) (qf_X4_countAsked_L5_b 20000 qi1 qi2 qi3 qi4 M) (tk (vs (rp L xs P M vi) (rp L xs P M vi)) (qc_X4_countAsked_L5 L xs P M (zf_X4_countAsked_L5 20000 n))) := by
  refine qs_eq (zf_X4_countAsked_L5.eq_2 ..) ?_
  unfold qf_X4_countAsked_L5_b
  refine qs_gr hS pl_1172 ts_1172 rfl ?_
  refine qs_gd (fun g6421 => ?_)
  refine qs_xt hS pl_1176 ts_1176 (Or.inl rfl) ei1 g6421 (fun b6420 r6420 => ?_)
  refine qs_yi (j := 1) hS hM qt_1176 tq_1176 r6420 k_1 (by decide) (fun v6422 h6422 => ?_)
  refine qs_ite (c_le h6422 ei4) ?_ ?_
  · exact qs_tp2 (show vi _ _ from ei3) hS hM
  · refine qs_gr hS pl_1172 ts_1172 rfl ?_
    refine qs_gd (fun g6425 => ?_)
    refine qs_xt hS pl_1176 ts_1176 (Or.inl rfl) ei1 g6425 (fun b6424 r6424 => ?_)
    refine qs_gd (fun g6427 => ?_)
    refine qs_yi hS hM qt_1176 tq_1176 r6424 (p_add k_2 ei4) g6427 (fun v6426 h6426 => ?_)
    refine qs_zi hS pl_1172 ts_1172 ?_
    refine qs_bp (qz_X4_isAsked hS hM h6426 ei2) (fun v6429 S6429 w6429 h6429 hS6429 hM6429 => ?_)
    refine qs_ite (c_eq h6429 k_0) ?_ ?_
    · exact (qz_X4_countAsked_J43 hS6429 hM6429 ei1 ei2 ei4 ei3 k_0)
    · exact (qz_X4_countAsked_J43 hS6429 hM6429 ei1 ei2 ei4 ei3 k_1)
theorem qz_X4_countAsked_L5 (n : Nat) : ∀ {P : Nat → Nat} {S : zm_S} {M : qm} {i1 : Int32} {qi1 : Int} {i2 : Int32} {qi2 : Int} {i3 : Int32} {qi3 : Int} {i4 : Int32} {qi4 : Int} (hS : Sh L xs P S) (hM : qM P S = M) (ei1 : i1.toInt = qi1) (ei2 : i2.toInt = qi2) (ei3 : i3.toInt = qi3) (ei4 : i4.toInt = qi4), qs (zf_X4_countAsked_L5 20000 n 1172 i1 i2 i3 i4 S) (qf_X4_countAsked_L5 20000 n qi1 qi2 qi3 qi4 M) (tO (vs (rp L xs P M vi) (rp L xs P M vi))) := by
  induction n with
  | zero =>
    intros
    exact qs_none
  | succ n ih =>
    intro P S M i1 qi1 i2 qi2 i3 qi3 i4 qi4 hS hM ei1 ei2 ei3 ei4
    unfold qf_X4_countAsked_L5
    refine qs_loop (C := (qc_X4_countAsked_L5 L xs P M (zf_X4_countAsked_L5 20000 n))) (qz_X4_countAsked_L5_b n hS hM ei1 ei2 ei3 ei4) ?_
    rintro x s ⟨_, _, _, _, _, rfl, u0, u1, u2, u3, hS2, hM2⟩
    exact ih hS2 hM2 u0 u1 u2 u3
set_option maxRecDepth 20000 in
theorem qz_X4_countAsked {P : Nat → Nat} {S : zm_S} {M : qm} {i1 : Int32} {qi1 : Int} {i2 : Int32} {qi2 : Int} (hS : Sh L xs P S) (hM : qM P S = M) (ei1 : i1.toInt = qi1) (ei2 : i2.toInt = qi2) : qs (zf_X4_countAsked 20000 1172 i1 i2 S) (qf_X4_countAsked 20000 qi1 qi2 M) (tO (rp L xs P M vi)) := by
  unfold zf_X4_countAsked qf_X4_countAsked
  refine qs_lp (qz_X4_countAsked_L5 20000 hS hM ei1 ei2 k_0 k_0) ?_ ?_
  · intro v6431 S6431 w6431 h6431 hS6431 hM6431
    dsimp only
    exact qs_tp h6431 hS6431 hM6431
  · intro v6431 S6431 w6431 h6431 hS6431 hM6431
    dsimp only
    exact qs_tp (show vi _ _ from h6431) hS6431 hM6431
set_option maxRecDepth 20000 in
theorem qz_X4_isSure {P : Nat → Nat} {S : zm_S} {M : qm} {i1 : Int32} {qi1 : Int} {i2 : Int32} {qi2 : Int} (hS : Sh L xs P S) (hM : qM P S = M) (ei1 : i1.toInt = qi1) (ei2 : i2.toInt = qi2) : qs (zf_X4_isSure 20000 1172 i1 i2 S) (qf_X4_isSure 20000 qi1 qi2 M) (tO (rp L xs P M vi)) := by
  unfold zf_X4_isSure qf_X4_isSure
  refine qs_ite (c_le ei2 k_0) ?_ ?_
  · exact qs_tp (show vi _ _ from k_0) hS hM
  · refine qs_ite (c_eq ei1 ei2) ?_ ?_
    · exact qs_tp (show vi _ _ from k_1) hS hM
    · exact qs_tp (show vi _ _ from k_0) hS hM
set_option maxRecDepth 20000 in
theorem qz_X4_lookAtZones_J48 {P : Nat → Nat} {S : zm_S} {M : qm} {i1 : Int32} {qi1 : Int} {i2 : Int32} {qi2 : Int} {i3 : Int32} {qi3 : Int} {t1 : Int32} {qt1 : Int} {t2 : Int32} {qt2 : Int} (hS : Sh L xs P S) (hM : qM P S = M) (ei1 : i1.toInt = qi1) (ei2 : i2.toInt = qi2) (ei3 : i3.toInt = qi3) (et1 : t1.toInt = qt1) (et2 : t2.toInt = qt2) {k : Nat → Int32 → Int32 → zm_S → Option ((Unit × zm_S) ⊕ ((Unit) × zm_S))} : qs (zf_X4_lookAtZones_J48 20000 k 1172 i1 i2 i3 1274 t1 t2 S) (qf_X4_lookAtZones_J48 20000 qi1 qi2 qi3 qt1 qt2 M) (tk (vs (rr L xs P vu) (rr L xs P vu)) (qc_X4_lookAtZones_L2 L xs P k)) := by
  unfold zf_X4_lookAtZones_J48 qf_X4_lookAtZones_J48
  refine qs_gd (fun g6433 => ?_)
  refine qs_sz hS hM (pa_p hS pl_1274 ts_1274) et1 g6433.1 et2 g6433.2 (fun S6432 M6432 hS6432 hM6432 => ?_)
  refine qs_gr hS6432 pl_1172 ts_1172 rfl ?_
  refine qs_zi hS6432 pl_1172 ts_1172 ?_
  refine qs_bp (qz_X4_countAsked hS6432 hM6432 ei2 ei1) (fun v6436 S6436 w6436 h6436 hS6436 hM6436 => ?_)
  refine qs_zi hS6436 pl_1172 ts_1172 ?_
  refine qs_bp (qz_X4_isSure hS6436 hM6436 ei3 h6436) (fun v6438 S6438 w6438 h6438 hS6438 hM6438 => ?_)
  refine qs_gd (fun g6440 => ?_)
  refine qs_sz hS6438 hM6438 (pa_p hS6438 pl_1275 ts_1275) ei2 g6440.1 h6438 g6440.2 (fun S6439 M6439 hS6439 hM6439 => ?_)
  exact qs_tk ⟨_, _, _, rfl, ei1, (p_add ei2 k_1), hS6439, hM6439⟩
set_option maxRecDepth 20000 in
theorem qz_X4_lookAtZones_J47 {P : Nat → Nat} {S : zm_S} {M : qm} {i1 : Int32} {qi1 : Int} {i2 : Int32} {qi2 : Int} {i3 : Int32} {qi3 : Int} {t1 : Int32} {qt1 : Int} (hS : Sh L xs P S) (hM : qM P S = M) (ei1 : i1.toInt = qi1) (ei2 : i2.toInt = qi2) (ei3 : i3.toInt = qi3) (et1 : t1.toInt = qt1) {k : Nat → Int32 → Int32 → zm_S → Option ((Unit × zm_S) ⊕ ((Unit) × zm_S))} : qs (zf_X4_lookAtZones_J47 20000 k 1172 i1 i2 i3 1274 t1 S) (qf_X4_lookAtZones_J47 20000 qi1 qi2 qi3 qt1 M) (tk (vs (rr L xs P vu) (rr L xs P vu)) (qc_X4_lookAtZones_L2 L xs P k)) := by
  unfold zf_X4_lookAtZones_J47 qf_X4_lookAtZones_J47
  exact (qz_X4_lookAtZones_J48 hS hM ei1 ei2 ei3 et1 k_0)
set_option maxRecDepth 20000 in
theorem qz_X4_lookAtZones_L2_b (n : Nat) {P : Nat → Nat} {S : zm_S} {M : qm} {i1 : Int32} {qi1 : Int} {i2 : Int32} {qi2 : Int} (hS : Sh L xs P S) (hM : qM P S = M) (ei1 : i1.toInt = qi1) (ei2 : i2.toInt = qi2) : qs (zf_X4_lookAtZones_L2 20000 (n + 1) 1172 i1 i2 S) (qf_X4_lookAtZones_L2_b 20000 qi1 qi2 M) (tk (vs (rr L xs P vu) (rr L xs P vu)) (qc_X4_lookAtZones_L2 L xs P (zf_X4_lookAtZones_L2 20000 n))) := by
  refine qs_eq (zf_X4_lookAtZones_L2.eq_2 ..) ?_
  unfold qf_X4_lookAtZones_L2_b
  refine qs_gr hS pl_1172 ts_1172 rfl ?_
  refine qs_tn hS pl_1176 ts_1176 (by decide) (x := 20) (by decide) (fun v6442 h6442 => ?_)
  refine qs_ite (c_le h6442 ei2) ?_ ?_
  · exact qs_tr2 (show vu _ _ from trivial) hS hM
  · refine qs_zi hS pl_1172 ts_1172 ?_
    refine qs_bp (qz_X4_countOn hS hM ei2 ei1) (fun v6444 S6444 w6444 h6444 hS6444 hM6444 => ?_)
    refine qs_gr hS6444 pl_1172 ts_1172 rfl ?_
    refine qs_zi hS6444 pl_1172 ts_1172 ?_
    refine qs_bp (qz_X4_isZone hS6444 hM6444 ei2) (fun v6447 S6447 w6447 h6447 hS6447 hM6447 => ?_)
    refine qs_ite (c_eq h6447 k_0) ?_ ?_
    · exact (qz_X4_lookAtZones_J47 hS6447 hM6447 ei1 ei2 h6444 ei2)
    · refine qs_gr hS6447 pl_1172 ts_1172 rfl ?_
      refine qs_gd (fun g6450 => ?_)
      refine qs_xt hS6447 pl_1176 ts_1176 (Or.inl rfl) ei2 g6450 (fun b6449 r6449 => ?_)
      refine qs_yi (j := 0) hS6447 hM6447 qt_1176 tq_1176 r6449 k_0 (by decide) (fun v6451 h6451 => ?_)
      refine qs_ite (c_lt h6444 h6451) ?_ ?_
      · exact (qz_X4_lookAtZones_J47 hS6447 hM6447 ei1 ei2 h6444 ei2)
      · exact (qz_X4_lookAtZones_J48 hS6447 hM6447 ei1 ei2 h6444 ei2 k_1)
theorem qz_X4_lookAtZones_L2 (n : Nat) : ∀ {P : Nat → Nat} {S : zm_S} {M : qm} {i1 : Int32} {qi1 : Int} {i2 : Int32} {qi2 : Int} (hS : Sh L xs P S) (hM : qM P S = M) (ei1 : i1.toInt = qi1) (ei2 : i2.toInt = qi2), qs (zf_X4_lookAtZones_L2 20000 n 1172 i1 i2 S) (qf_X4_lookAtZones_L2 20000 n qi1 qi2 M) (tO (vs (rr L xs P vu) (rr L xs P vu))) := by
  induction n with
  | zero =>
    intros
    exact qs_none
  | succ n ih =>
    intro P S M i1 qi1 i2 qi2 hS hM ei1 ei2
    unfold qf_X4_lookAtZones_L2
    refine qs_loop (C := (qc_X4_lookAtZones_L2 L xs P (zf_X4_lookAtZones_L2 20000 n))) (qz_X4_lookAtZones_L2_b n hS hM ei1 ei2) ?_
    rintro x s ⟨_, _, _, rfl, u0, u1, hS2, hM2⟩
    exact ih hS2 hM2 u0 u1
set_option maxRecDepth 20000 in
theorem qz_X4_lookAtZones {P : Nat → Nat} {S : zm_S} {M : qm} {i1 : Int32} {qi1 : Int} (hS : Sh L xs P S) (hM : qM P S = M) (ei1 : i1.toInt = qi1) : qs (zf_X4_lookAtZones 20000 1172 i1 S) (qf_X4_lookAtZones 20000 qi1 M) (tO (rr L xs P vu)) := by
  unfold zf_X4_lookAtZones qf_X4_lookAtZones
  refine qs_lr (qz_X4_lookAtZones_L2 20000 hS hM ei1 k_0) ?_ ?_
  · intro v6453 S6453 w6453 M6453 h6453 hS6453 hM6453
    dsimp only
    exact qs_tr h6453 hS6453 hM6453
  · intro v6453 S6453 w6453 M6453 h6453 hS6453 hM6453
    dsimp only
    exact qs_tr (show vu _ _ from trivial) hS6453 hM6453
set_option maxRecDepth 20000 in
theorem qz_X4_isMet {P : Nat → Nat} {S : zm_S} {M : qm} {i1 : Int32} {qi1 : Int} (hS : Sh L xs P S) (hM : qM P S = M) (ei1 : i1.toInt = qi1) : qs (zf_X4_isMet 20000 1172 i1 S) (qf_X4_isMet 20000 qi1 M) (tO (rp L xs P M vi)) := by
  unfold zf_X4_isMet qf_X4_isMet
  refine qs_gr hS pl_1172 ts_1172 rfl ?_
  refine qs_gr hS pl_1172 ts_1172 rfl ?_
  refine qs_gd (fun g6457 => ?_)
  refine qs_xt hS pl_1218 ts_1218 (Or.inl rfl) ei1 g6457 (fun b6456 r6456 => ?_)
  refine qs_yi (j := 0) hS hM qt_1218 tq_1218 r6456 k_0 (by decide) (fun v6458 h6458 => ?_)
  refine qs_gd (fun g6460 => ?_)
  refine qs_xi hM (pa_p hS pl_1274 ts_1274) h6458 g6460 (fun v6459 h6459 => ?_)
  refine qs_ite (c_eq h6459 k_0) ?_ ?_
  · exact qs_tp (show vi _ _ from k_0) hS hM
  · refine qs_gr hS pl_1172 ts_1172 rfl ?_
    refine qs_gd (fun g6463 => ?_)
    refine qs_xt hS pl_1218 ts_1218 (Or.inl rfl) ei1 g6463 (fun b6462 r6462 => ?_)
    refine qs_yi (j := 1) hS hM qt_1218 tq_1218 r6462 k_1 (by decide) (fun v6464 h6464 => ?_)
    refine qs_ite (c_eq h6464 k_m1) ?_ ?_
    · exact qs_tp (show vi _ _ from k_1) hS hM
    · refine qs_gr hS pl_1172 ts_1172 rfl ?_
      refine qs_gr hS pl_1172 ts_1172 rfl ?_
      refine qs_gd (fun g6468 => ?_)
      refine qs_xt hS pl_1218 ts_1218 (Or.inl rfl) ei1 g6468 (fun b6467 r6467 => ?_)
      refine qs_yi (j := 1) hS hM qt_1218 tq_1218 r6467 k_1 (by decide) (fun v6469 h6469 => ?_)
      refine qs_gd (fun g6471 => ?_)
      refine qs_xi hM (pa_p hS pl_1274 ts_1274) h6469 g6471 (fun v6470 h6470 => ?_)
      refine qs_ite (c_eq h6470 k_0) ?_ ?_
      · exact qs_tp (show vi _ _ from k_0) hS hM
      · exact qs_tp (show vi _ _ from k_1) hS hM
set_option maxRecDepth 20000 in
theorem qz_X4_isCalled_L2_b (n : Nat) {P : Nat → Nat} {S : zm_S} {M : qm} {i1 : Int32} {qi1 : Int} {i2 : Int32} {qi2 : Int} (hS : Sh L xs P S) (hM : qM P S = M) (ei1 : i1.toInt = qi1) (ei2 : i2.toInt = qi2) : qs (zf_X4_isCalled_L2 20000 (n + 1) 1172 i1 i2 S) (qf_X4_isCalled_L2_b 20000 qi1 qi2 M) (tk (vs (rp L xs P M vi) (rp L xs P M vu)) (qc_X4_isCalled_L2 L xs P M (zf_X4_isCalled_L2 20000 n))) := by
  refine qs_eq (zf_X4_isCalled_L2.eq_2 ..) ?_
  unfold qf_X4_isCalled_L2_b
  refine qs_gi hS hM pl_1172 ts_1172 (z := 9) rfl rfl (fun v6472 h6472 => ?_)
  refine qs_ite (c_le h6472 ei2) ?_ ?_
  · exact qs_tp2 (show vu _ _ from trivial) hS hM
  · refine qs_gr hS pl_1172 ts_1172 rfl ?_
    refine qs_gd (fun g6475 => ?_)
    refine qs_xt hS pl_1218 ts_1218 (Or.inl rfl) ei2 g6475 (fun b6474 r6474 => ?_)
    refine qs_yi (j := 2) hS hM qt_1218 tq_1218 r6474 k_2 (by decide) (fun v6476 h6476 => ?_)
    refine qs_ite (c_eq h6476 ei1) ?_ ?_
    · refine qs_zi hS pl_1172 ts_1172 ?_
      refine qs_bp (qz_X4_isMet hS hM ei2) (fun v6478 S6478 w6478 h6478 hS6478 hM6478 => ?_)
      refine qs_ite (c_eq h6478 k_0) ?_ ?_
      · exact qs_tk ⟨_, _, _, rfl, ei1, (p_add ei2 k_1), hS6478, hM6478⟩
      · exact qs_tp1 (show vi _ _ from k_1) hS6478 hM6478
    · exact qs_tk ⟨_, _, _, rfl, ei1, (p_add ei2 k_1), hS, hM⟩
theorem qz_X4_isCalled_L2 (n : Nat) : ∀ {P : Nat → Nat} {S : zm_S} {M : qm} {i1 : Int32} {qi1 : Int} {i2 : Int32} {qi2 : Int} (hS : Sh L xs P S) (hM : qM P S = M) (ei1 : i1.toInt = qi1) (ei2 : i2.toInt = qi2), qs (zf_X4_isCalled_L2 20000 n 1172 i1 i2 S) (qf_X4_isCalled_L2 20000 n qi1 qi2 M) (tO (vs (rp L xs P M vi) (rp L xs P M vu))) := by
  induction n with
  | zero =>
    intros
    exact qs_none
  | succ n ih =>
    intro P S M i1 qi1 i2 qi2 hS hM ei1 ei2
    unfold qf_X4_isCalled_L2
    refine qs_loop (C := (qc_X4_isCalled_L2 L xs P M (zf_X4_isCalled_L2 20000 n))) (qz_X4_isCalled_L2_b n hS hM ei1 ei2) ?_
    rintro x s ⟨_, _, _, rfl, u0, u1, hS2, hM2⟩
    exact ih hS2 hM2 u0 u1
set_option maxRecDepth 20000 in
theorem qz_X4_isCalled {P : Nat → Nat} {S : zm_S} {M : qm} {i1 : Int32} {qi1 : Int} (hS : Sh L xs P S) (hM : qM P S = M) (ei1 : i1.toInt = qi1) : qs (zf_X4_isCalled 20000 1172 i1 S) (qf_X4_isCalled 20000 qi1 M) (tO (rp L xs P M vi)) := by
  unfold zf_X4_isCalled qf_X4_isCalled
  refine qs_lp (qz_X4_isCalled_L2 20000 hS hM ei1 k_0) ?_ ?_
  · intro v6480 S6480 w6480 h6480 hS6480 hM6480
    dsimp only
    exact qs_tp h6480 hS6480 hM6480
  · intro v6480 S6480 w6480 h6480 hS6480 hM6480
    dsimp only
    exact qs_tp (show vi _ _ from k_0) hS6480 hM6480
set_option maxRecDepth 20000 in
theorem qz_X1_hasRoomInQueue {P : Nat → Nat} {S : zm_S} {M : qm} {i1 : Int32} {qi1 : Int} (hS : Sh L xs P S) (hM : qM P S = M) (ei1 : i1.toInt = qi1) : qs (zf_X1_hasRoomInQueue 20000 1139 i1 S) (qf_X1_hasRoomInQueue 20000 qi1 M) (tO (rp L xs P M vi)) := by
  unfold zf_X1_hasRoomInQueue qf_X1_hasRoomInQueue
  refine qs_gr hS pl_1139 ts_1139 rfl ?_
  refine qs_gd (fun g6483 => ?_)
  refine qs_xt hS pl_1140 ts_1140 (Or.inl rfl) ei1 g6483 (fun b6482 r6482 => ?_)
  refine qs_yi (j := 0) hS hM qt_1140 tq_1140 r6482 k_0 (by decide) (fun v6484 h6484 => ?_)
  refine qs_ite (c_le k_6 h6484) ?_ ?_
  · exact qs_tp (show vi _ _ from k_0) hS hM
  · exact qs_tp (show vi _ _ from k_1) hS hM
set_option maxRecDepth 20000 in
theorem qz_X4_setDone_J104 {P : Nat → Nat} {S : zm_S} {M : qm} {i1 : Int32} {qi1 : Int} {a4 : Nat} {qa4 : Int} (hS : Sh L xs P S) (hM : qM P S = M) (ei1 : i1.toInt = qi1) (ra4 : pr a4 1277 60 qa4) : qs (zf_X4_setDone_J104 20000 1172 i1 a4 S) (qf_X4_setDone_J104 20000 qi1 qa4 M) (tO (rr L xs P vu)) := by
  unfold zf_X4_setDone_J104 qf_X4_setDone_J104
  refine qs_gr hS pl_1172 ts_1172 rfl ?_
  refine qs_gd (fun g6487 => ?_)
  refine qs_xt hS pl_1197 ts_1197 (Or.inl rfl) ei1 g6487 (fun b6486 r6486 => ?_)
  refine qs_yi (j := 1) hS hM qt_1197 tq_1197 r6486 k_1 (by decide) (fun v6488 h6488 => ?_)
  refine qs_ite (c_eq h6488 k_3) ?_ ?_
  · refine qs_gr hS pl_1172 ts_1172 rfl ?_
    refine qs_gr hS pl_1003 ts_1003 rfl ?_
    refine qs_yi (j := 2) hS hM qt_1276 tq_1276 ra4 k_2 (by decide) (fun v6491 h6491 => ?_)
    refine qs_gd (fun g6493 => ?_)
    refine qs_si hS hM (pa_p hS pl_1135 ts_1135) (p_add k_4 (p_mod ei1 k_6)) g6493 h6491 (fun S6492 M6492 hS6492 hM6492 => ?_)
    exact qs_tr (show vu _ _ from trivial) hS6492 hM6492
  · exact qs_tr (show vu _ _ from trivial) hS hM
set_option maxRecDepth 20000 in
theorem qz_X1_enqueue_J113 {P : Nat → Nat} {S : zm_S} {M : qm} {a7 : Nat} {qa7 : Int} (hS : Sh L xs P S) (hM : qM P S = M) (ra7 : pr a7 1141 8 qa7) : qs (zf_X1_enqueue_J113 20000 a7 S) (qf_X1_enqueue_J113 20000 qa7 M) (tO (rr L xs P vi)) := by
  unfold zf_X1_enqueue_J113 qf_X1_enqueue_J113
  refine qs_yi (j := 0) hS hM qt_1140 tq_1140 ra7 k_0 (by decide) (fun v6494 h6494 => ?_)
  exact qs_tr (show vi _ _ from h6494) hS hM
set_option maxRecDepth 20000 in
theorem qz_X1_enqueue_J77 {P : Nat → Nat} {S : zm_S} {M : qm} {i5 : Int32} {qi5 : Int} {i6 : Int32} {qi6 : Int} {a7 : Nat} {qa7 : Int} {i8 : Int32} {qi8 : Int} {a9 : Nat} {qa9 : Int} {t0 : Nat} {qt0 : Int} {t1 : Int32} {qt1 : Int} {t2 : Int32} {qt2 : Int} (hS : Sh L xs P S) (hM : qM P S = M) (ei5 : i5.toInt = qi5) (ei6 : i6.toInt = qi6) (ra7 : pr a7 1141 8 qa7) (ei8 : i8.toInt = qi8) (ra9 : pr a9 1150 8 qa9) (rt0 : pr t0 1150 8 qt0) (et1 : t1.toInt = qt1) (et2 : t2.toInt = qt2) : qs (zf_X1_enqueue_J77 20000 i5 i6 a7 i8 a9 t0 t1 t2 S) (qf_X1_enqueue_J77 20000 qi5 qi6 qa7 qi8 qa9 qt0 qt1 qt2 M) (tO (rr L xs P vi)) := by
  unfold zf_X1_enqueue_J77 qf_X1_enqueue_J77
  refine qs_gd (fun g6496 => ?_)
  refine qs_ysi hS hM qt_1149 tq_1149 rt0 et1 g6496 et2 (fun S6495 M6495 hS6495 hM6495 => ?_)
  refine qs_gd (fun g6498 => ?_)
  refine qs_ysi hS6495 hM6495 qt_1149 tq_1149 ra9 (p_add ei8 k_4) g6498 ei5 (fun S6497 M6497 hS6497 hM6497 => ?_)
  refine qs_gd (fun g6500 => ?_)
  refine qs_ysi hS6497 hM6497 qt_1149 tq_1149 ra9 (p_add ei8 k_5) g6500 ei6 (fun S6499 M6499 hS6499 hM6499 => ?_)
  refine qs_gd (fun g6502 => ?_)
  refine qs_ysi hS6499 hM6499 qt_1149 tq_1149 ra9 (p_add ei8 k_6) g6502 k_0 (fun S6501 M6501 hS6501 hM6501 => ?_)
  refine qs_yi (j := 0) hS6501 hM6501 qt_1140 tq_1140 ra7 k_0 (by decide) (fun v6503 h6503 => ?_)
  refine qs_ysi hS6501 hM6501 qt_1140 tq_1140 ra7 k_0 (by decide) (p_add h6503 k_1) (fun S6504 M6504 hS6504 hM6504 => ?_)
  exact (qz_X1_enqueue_J113 hS6504 hM6504 ra7)
set_option maxRecDepth 20000 in
theorem qz_X1_enqueue {P : Nat → Nat} {S : zm_S} {M : qm} {i1 : Int32} {qi1 : Int} {i2 : Int32} {qi2 : Int} {i3 : Int32} {qi3 : Int} {i4 : Int32} {qi4 : Int} {i5 : Int32} {qi5 : Int} {i6 : Int32} {qi6 : Int} (hS : Sh L xs P S) (hM : qM P S = M) (ei1 : i1.toInt = qi1) (ei2 : i2.toInt = qi2) (ei3 : i3.toInt = qi3) (ei4 : i4.toInt = qi4) (ei5 : i5.toInt = qi5) (ei6 : i6.toInt = qi6) : qs (zf_X1_enqueue 20000 1139 i1 i2 i3 i4 i5 i6 S) (qf_X1_enqueue 20000 qi1 qi2 qi3 qi4 qi5 qi6 M) (tO (rr L xs P vi)) := by
  unfold zf_X1_enqueue qf_X1_enqueue
  refine qs_gr hS pl_1139 ts_1139 rfl ?_
  refine qs_gd (fun g6507 => ?_)
  refine qs_xt hS pl_1140 ts_1140 (Or.inl rfl) ei1 g6507 (fun b6506 r6506 => ?_)
  refine qs_zi hS pl_1139 ts_1139 ?_
  refine qs_bp (qz_X1_hasRoomInQueue hS hM ei1) (fun v6509 S6509 w6509 h6509 hS6509 hM6509 => ?_)
  refine qs_ite (c_eq h6509 k_0) ?_ ?_
  · exact (qz_X1_enqueue_J113 hS6509 hM6509 r6506)
  · refine qs_yi (j := 0) hS6509 hM6509 qt_1140 tq_1140 r6506 k_0 (by decide) (fun v6510 h6510 => ?_)
    refine qs_gr hS6509 pl_1139 ts_1139 rfl ?_
    refine qs_gd (fun g6513 => ?_)
    refine qs_xt hS6509 pl_1149 ts_1149 (Or.inl rfl) ei1 g6513 (fun b6512 r6512 => ?_)
    refine qs_gd (fun g6515 => ?_)
    refine qs_ysi hS6509 hM6509 qt_1149 tq_1149 r6512 (p_add (p_mul h6510 k_7) k_0) g6515 ei2 (fun S6514 M6514 hS6514 hM6514 => ?_)
    refine qs_yi (j := 6) hS6514 hM6514 qt_1140 tq_1140 r6506 k_6 (by decide) (fun v6516 h6516 => ?_)
    refine qs_gd (fun g6518 => ?_)
    refine qs_ysi hS6514 hM6514 qt_1149 tq_1149 r6512 (p_add (p_mul h6510 k_7) k_1) g6518 h6516 (fun S6517 M6517 hS6517 hM6517 => ?_)
    refine qs_gd (fun g6520 => ?_)
    refine qs_ysi hS6517 hM6517 qt_1149 tq_1149 r6512 (p_add (p_mul h6510 k_7) k_2) g6520 ei3 (fun S6519 M6519 hS6519 hM6519 => ?_)
    refine qs_ite (c_eq ei4 k_0) ?_ ?_
    · exact (qz_X1_enqueue_J77 hS6519 hM6519 ei5 ei6 r6506 (p_mul h6510 k_7) r6512 r6512 (p_add (p_mul h6510 k_7) k_3) k_0)
    · exact (qz_X1_enqueue_J77 hS6519 hM6519 ei5 ei6 r6506 (p_mul h6510 k_7) r6512 r6512 (p_add (p_mul h6510 k_7) k_3) k_1)
set_option maxRecDepth 20000 in
theorem qz_X4_setDone_J51 {P : Nat → Nat} {S : zm_S} {M : qm} {i1 : Int32} {qi1 : Int} {a4 : Nat} {qa4 : Int} {t0 : Nat} {qt0 : Int} {t1 : Int32} {qt1 : Int} {t2 : Int32} {qt2 : Int} (hS : Sh L xs P S) (hM : qM P S = M) (ei1 : i1.toInt = qi1) (ra4 : pr a4 1277 60 qa4) (rt0 : pr t0 1277 60 qt0) (et1 : t1.toInt = qt1) (et2 : t2.toInt = qt2) : qs (zf_X4_setDone_J51 20000 1172 i1 a4 t0 t1 t2 S) (qf_X4_setDone_J51 20000 qi1 qa4 qt0 qt1 qt2 M) (tO (rr L xs P vu)) := by
  unfold zf_X4_setDone_J51 qf_X4_setDone_J51
  refine qs_gd (fun g6522 => ?_)
  refine qs_ysi hS hM qt_1276 tq_1276 rt0 et1 g6522 et2 (fun S6521 M6521 hS6521 hM6521 => ?_)
  refine qs_gi hS6521 hM6521 pl_1172 ts_1172 (z := 17) rfl rfl (fun v6523 h6523 => ?_)
  refine qs_pi hS6521 hM6521 pl_1172 ts_1172 (z := 17) rfl rfl (p_add h6523 k_1) (fun S6524 M6524 hS6524 hM6524 => ?_)
  refine qs_gr hS6524 pl_1172 ts_1172 rfl ?_
  refine qs_gd (fun g6527 => ?_)
  refine qs_xt hS6524 pl_1197 ts_1197 (Or.inl rfl) ei1 g6527 (fun b6526 r6526 => ?_)
  refine qs_yi (j := 1) hS6524 hM6524 qt_1197 tq_1197 r6526 k_1 (by decide) (fun v6528 h6528 => ?_)
  refine qs_ite (c_eq h6528 k_2) ?_ ?_
  · refine qs_gr hS6524 pl_1172 ts_1172 rfl ?_
    refine qs_zi hS6524 pl_1139 ts_1139 ?_
    refine qs_bp (qz_X1_hasRoomInQueue hS6524 hM6524 k_7) (fun v6531 S6531 w6531 h6531 hS6531 hM6531 => ?_)
    refine qs_ite (c_eq h6531 k_0) ?_ ?_
    · exact (qz_X4_setDone_J104 hS6531 hM6531 ei1 ra4)
    · refine qs_gr hS6531 pl_1172 ts_1172 rfl ?_
      refine qs_yi (j := 2) hS6531 hM6531 qt_1276 tq_1276 ra4 k_2 (by decide) (fun v6533 h6533 => ?_)
      refine qs_zi hS6531 pl_1139 ts_1139 ?_
      refine qs_b (qz_X1_enqueue hS6531 hM6531 k_7 k_0 ei1 k_1 k_2 h6533) (fun v6535 S6535 w6535 M6535 h6535 hS6535 hM6535 => ?_)
      exact (qz_X4_setDone_J104 hS6535 hM6535 ei1 ra4)
  · exact (qz_X4_setDone_J104 hS6524 hM6524 ei1 ra4)
set_option maxRecDepth 20000 in
theorem qz_X4_setDone_J14 {P : Nat → Nat} {S : zm_S} {M : qm} {i1 : Int32} {qi1 : Int} {i2 : Int32} {qi2 : Int} {i3 : Int32} {qi3 : Int} {t1 : Int32} {qt1 : Int} {t2 : Int32} {qt2 : Int} (hS : Sh L xs P S) (hM : qM P S = M) (ei1 : i1.toInt = qi1) (ei2 : i2.toInt = qi2) (ei3 : i3.toInt = qi3) (et1 : t1.toInt = qt1) (et2 : t2.toInt = qt2) : qs (zf_X4_setDone_J14 20000 1172 i1 i2 i3 1270 t1 t2 S) (qf_X4_setDone_J14 20000 qi1 qi2 qi3 qt1 qt2 M) (tO (rr L xs P vu)) := by
  unfold zf_X4_setDone_J14 qf_X4_setDone_J14
  refine qs_gd (fun g6537 => ?_)
  refine qs_si hS hM (pa_p hS pl_1270 ts_1270) et1 g6537 et2 (fun S6536 M6536 hS6536 hM6536 => ?_)
  refine qs_gr hS6536 pl_1172 ts_1172 rfl ?_
  refine qs_gi hS6536 hM6536 pl_1172 ts_1172 (z := 17) rfl rfl (fun v6539 h6539 => ?_)
  refine qs_gd (fun g6541 => ?_)
  refine qs_xt hS6536 pl_1276 ts_1276 (Or.inl rfl) (p_mod h6539 k_60) g6541 (fun b6540 r6540 => ?_)
  refine qs_ysi hS6536 hM6536 qt_1276 tq_1276 r6540 k_0 (by decide) ei3 (fun S6542 M6542 hS6542 hM6542 => ?_)
  refine qs_ysi hS6542 hM6542 qt_1276 tq_1276 r6540 k_1 (by decide) ei1 (fun S6543 M6543 hS6543 hM6543 => ?_)
  refine qs_ite (c_eq ei2 k_0) ?_ ?_
  · exact (qz_X4_setDone_J51 hS6543 hM6543 ei1 r6540 r6540 k_2 k_0)
  · exact (qz_X4_setDone_J51 hS6543 hM6543 ei1 r6540 r6540 k_2 k_1)
set_option maxRecDepth 20000 in
theorem qz_X4_setDone {P : Nat → Nat} {S : zm_S} {M : qm} {i1 : Int32} {qi1 : Int} {i2 : Int32} {qi2 : Int} {i3 : Int32} {qi3 : Int} (hS : Sh L xs P S) (hM : qM P S = M) (ei1 : i1.toInt = qi1) (ei2 : i2.toInt = qi2) (ei3 : i3.toInt = qi3) : qs (zf_X4_setDone 20000 1172 i1 i2 i3 S) (qf_X4_setDone 20000 qi1 qi2 qi3 M) (tO (rr L xs P vu)) := by
  unfold zf_X4_setDone qf_X4_setDone
  refine qs_gr hS pl_1172 ts_1172 rfl ?_
  refine qs_ite (c_eq ei2 k_0) ?_ ?_
  · exact (qz_X4_setDone_J14 hS hM ei1 ei2 ei3 ei1 k_0)
  · exact (qz_X4_setDone_J14 hS hM ei1 ei2 ei3 ei1 k_2)
set_option maxRecDepth 20000 in
theorem qz_X4_resetLatched_L9_b (n : Nat) {P : Nat → Nat} {S : zm_S} {M : qm} {i1 : Int32} {qi1 : Int} {i2 : Int32} {qi2 : Int} {i3 : Int32} {qi3 : Int} (hS : Sh L xs P S) (hM : qM P S = M) (ei1 : i1.toInt = qi1) (ei2 : i2.toInt = qi2) (ei3 : i3.toInt = qi3) : qs (zf_X4_resetLatched_L9 20000 (n + 1) 1172 i1 i2 i3 S) (qf_X4_resetLatched_L9_b 20000 qi1 qi2 qi3 M) (tk (vs (rr L xs P vi) (rr L xs P vi)) (qc_X4_resetLatched_L9 L xs P (zf_X4_resetLatched_L9 20000 n))) := by
  refine qs_eq (zf_X4_resetLatched_L9.eq_2 ..) ?_
  unfold qf_X4_resetLatched_L9_b
  refine qs_gr hS pl_1172 ts_1172 rfl ?_
  refine qs_n (pa_p hS pl_1269 ts_1269) (by decide) (x := 20) (by decide) (fun v6546 h6546 => ?_)
  refine qs_ite (c_le h6546 ei3) ?_ ?_
  · exact qs_tr2 (show vi _ _ from ei2) hS hM
  · refine qs_gr hS pl_1172 ts_1172 rfl ?_
    refine qs_gd (fun g6549 => ?_)
    refine qs_xi hM (pa_p hS pl_1269 ts_1269) ei3 g6549 (fun v6548 h6548 => ?_)
    refine qs_gr hS pl_1172 ts_1172 rfl ?_
    refine qs_gd (fun g6552 => ?_)
    refine qs_xi hM (pa_p hS pl_1270 ts_1270) h6548 g6552 (fun v6551 h6551 => ?_)
    refine qs_ite (c_eq h6551 k_2) ?_ ?_
    · refine qs_gr hS pl_1172 ts_1172 rfl ?_
      refine qs_gd (fun g6555 => ?_)
      refine qs_xt hS pl_1197 ts_1197 (Or.inl rfl) h6548 g6555 (fun b6554 r6554 => ?_)
      refine qs_yi (j := 4) hS hM qt_1197 tq_1197 r6554 k_4 (by decide) (fun v6556 h6556 => ?_)
      refine qs_ite (c_eq h6556 k_0) ?_ ?_
      · exact qs_tk ⟨_, _, _, _, rfl, ei1, ei2, (p_add ei3 k_1), hS, hM⟩
      · refine qs_zi hS pl_1172 ts_1172 ?_
        refine qs_bp (qz_X4_isCalled hS hM h6548) (fun v6558 S6558 w6558 h6558 hS6558 hM6558 => ?_)
        refine qs_ite (c_eq h6558 k_0) ?_ ?_
        · refine qs_zi hS6558 pl_1172 ts_1172 ?_
          refine qs_b (qz_X4_setDone hS6558 hM6558 h6548 k_0 ei1) (fun v6560 S6560 w6560 M6560 h6560 hS6560 hM6560 => ?_)
          exact qs_tk ⟨_, _, _, _, rfl, ei1, (p_add ei2 k_1), (p_add ei3 k_1), hS6560, hM6560⟩
        · exact qs_tk ⟨_, _, _, _, rfl, ei1, ei2, (p_add ei3 k_1), hS6558, hM6558⟩
    · exact qs_tk ⟨_, _, _, _, rfl, ei1, ei2, (p_add ei3 k_1), hS, hM⟩
theorem qz_X4_resetLatched_L9 (n : Nat) : ∀ {P : Nat → Nat} {S : zm_S} {M : qm} {i1 : Int32} {qi1 : Int} {i2 : Int32} {qi2 : Int} {i3 : Int32} {qi3 : Int} (hS : Sh L xs P S) (hM : qM P S = M) (ei1 : i1.toInt = qi1) (ei2 : i2.toInt = qi2) (ei3 : i3.toInt = qi3), qs (zf_X4_resetLatched_L9 20000 n 1172 i1 i2 i3 S) (qf_X4_resetLatched_L9 20000 n qi1 qi2 qi3 M) (tO (vs (rr L xs P vi) (rr L xs P vi))) := by
  induction n with
  | zero =>
    intros
    exact qs_none
  | succ n ih =>
    intro P S M i1 qi1 i2 qi2 i3 qi3 hS hM ei1 ei2 ei3
    unfold qf_X4_resetLatched_L9
    refine qs_loop (C := (qc_X4_resetLatched_L9 L xs P (zf_X4_resetLatched_L9 20000 n))) (qz_X4_resetLatched_L9_b n hS hM ei1 ei2 ei3) ?_
    rintro x s ⟨_, _, _, _, rfl, u0, u1, u2, hS2, hM2⟩
    exact ih hS2 hM2 u0 u1 u2
set_option maxRecDepth 20000 in
theorem qz_X4_resetLatched {P : Nat → Nat} {S : zm_S} {M : qm} {i1 : Int32} {qi1 : Int} (hS : Sh L xs P S) (hM : qM P S = M) (ei1 : i1.toInt = qi1) : qs (zf_X4_resetLatched 20000 1172 i1 S) (qf_X4_resetLatched 20000 qi1 M) (tO (rr L xs P vi)) := by
  unfold zf_X4_resetLatched qf_X4_resetLatched
  refine qs_zi hS pl_1172 ts_1172 ?_
  refine qs_b (qz_X4_lookAtZones hS hM ei1) (fun v6562 S6562 w6562 M6562 h6562 hS6562 hM6562 => ?_)
  refine qs_lr (qz_X4_resetLatched_L9 20000 hS6562 hM6562 ei1 k_0 k_0) ?_ ?_
  · intro v6564 S6564 w6564 M6564 h6564 hS6564 hM6564
    dsimp only
    exact qs_tr h6564 hS6564 hM6564
  · intro v6564 S6564 w6564 M6564 h6564 hS6564 hM6564
    dsimp only
    exact qs_tr (show vi _ _ from h6564) hS6564 hM6564
set_option maxRecDepth 20000 in
theorem qz_X11_reset {P : Nat → Nat} {S : zm_S} {M : qm}  (hS : Sh L xs P S) (hM : qM P S = M)  : qs (zf_X11_reset 20000 6 S) (qf_X11_reset 20000 M) (tO (rr L xs P (vs vi ve))) := by
  unfold zf_X11_reset qf_X11_reset
  refine qs_gi hS hM pl_6 ts_6 (z := 11) rfl rfl (fun v6565 h6565 => ?_)
  refine qs_xp (qz_X11_needState hS hM h6565) ?_ ?_
  · intro v6567 S6567 w6567 h6567 hS6567 hM6567
    dsimp only
    refine qs_gr hS6567 pl_6 ts_6 rfl ?_
    refine qs_gi hS6567 hM6567 pl_6 ts_6 (z := 12) rfl rfl (fun v6569 h6569 => ?_)
    refine qs_zi hS6567 pl_1172 ts_1172 ?_
    refine qs_b (qz_X4_resetLatched hS6567 hM6567 h6569) (fun v6571 S6571 w6571 M6571 h6571 hS6571 hM6571 => ?_)
    exact qs_tr (show (vs vi ve) _ _ from h6571) hS6571 hM6571
  · intro v6567 S6567 hS6567 hM6567
    dsimp only
    exact qs_tr (show (vs vi ve) _ _ from rfl) hS6567 hM6567
set_option maxRecDepth 20000 in
theorem qz_L_reset {P : Nat → Nat} {S : zm_S} {M : qm}  (hS : Sh L xs P S) (hM : qM P S = M)  : qs (zf_L_reset 20000 6 2332 S) (qf_L_reset 20000 M) (tO (rr L xs P vi)) := by
  unfold zf_L_reset qf_L_reset
  refine qs_zi hS pl_6 ts_6 ?_
  refine qs_xr (qz_X11_reset hS hM ) ?_ ?_
  · intro v6574 S6574 w6574 M6574 h6574 hS6574 hM6574
    dsimp only
    refine qs_sl hS6574 hM6574 (pa_p hS6574 pl_2332 ts_2332) k_0 (by decide) (p_64 h6574) (fun S6575 M6575 hS6575 hM6575 => ?_)
    exact qs_tr (show vi _ _ from k_0) hS6575 hM6575
  · intro v6574 S6574 M6574 hS6574 hM6574
    dsimp only
    refine qs_ite Iff.rfl ?_ ?_
    · exact qs_tr (show vi _ _ from k_1) hS6574 hM6574
    · exact qs_none
set_option maxRecDepth 20000 in
theorem qz_X14_rankedOne_J86 {P : Nat → Nat} {S : zm_S} {M : qm} {i1 : Int32} {qi1 : Int} {i2 : Int32} {qi2 : Int} {i4 : Int32} {qi4 : Int} {t0 : Int32} {qt0 : Int} {t1 : Int32} {qt1 : Int} (hS : Sh L xs P S) (hM : qM P S = M) (ei1 : i1.toInt = qi1) (ei2 : i2.toInt = qi2) (ei4 : i4.toInt = qi4) (et0 : t0.toInt = qt0) (et1 : t1.toInt = qt1) {k : Nat → Int32 → Int32 → Int32 → Int32 → zm_S → Option ((Int32 × zm_S) ⊕ ((Int32) × zm_S))} : qs (zf_X14_rankedOne_J86 20000 k 2208 i1 i2 i4 t0 t1 S) (qf_X14_rankedOne_J86 20000 qi1 qi2 qi4 qt0 qt1 M) (tk (vs (rp L xs P M vi) (rp L xs P M vi)) (qc_X14_rankedOne_L13 L xs P M k)) := by
  unfold zf_X14_rankedOne_J86 qf_X14_rankedOne_J86
  exact qs_tk ⟨_, _, _, _, _, rfl, ei1, ei2, (p_add et0 et1), (p_add ei4 k_1), hS, hM⟩
set_option maxRecDepth 20000 in
theorem qz_X14_rankedOne_J85 {P : Nat → Nat} {S : zm_S} {M : qm} {i1 : Int32} {qi1 : Int} {i2 : Int32} {qi2 : Int} {i4 : Int32} {qi4 : Int} {t0 : Int32} {qt0 : Int} (hS : Sh L xs P S) (hM : qM P S = M) (ei1 : i1.toInt = qi1) (ei2 : i2.toInt = qi2) (ei4 : i4.toInt = qi4) (et0 : t0.toInt = qt0) {k : Nat → Int32 → Int32 → Int32 → Int32 → zm_S → Option ((Int32 × zm_S) ⊕ ((Int32) × zm_S))} : qs (zf_X14_rankedOne_J85 20000 k 2208 i1 i2 i4 t0 S) (qf_X14_rankedOne_J85 20000 qi1 qi2 qi4 qt0 M) (tk (vs (rp L xs P M vi) (rp L xs P M vi)) (qc_X14_rankedOne_L13 L xs P M k)) := by
  unfold zf_X14_rankedOne_J85 qf_X14_rankedOne_J85
  exact (qz_X14_rankedOne_J86 hS hM ei1 ei2 ei4 et0 k_0)
set_option maxRecDepth 20000 in
theorem qz_X14_rankedOne_J63 {P : Nat → Nat} {S : zm_S} {M : qm} {i1 : Int32} {qi1 : Int} {i2 : Int32} {qi2 : Int} {i3 : Int32} {qi3 : Int} {i4 : Int32} {qi4 : Int} {t0 : Int32} {qt0 : Int} (hS : Sh L xs P S) (hM : qM P S = M) (ei1 : i1.toInt = qi1) (ei2 : i2.toInt = qi2) (ei3 : i3.toInt = qi3) (ei4 : i4.toInt = qi4) (et0 : t0.toInt = qt0) {k : Nat → Int32 → Int32 → Int32 → Int32 → zm_S → Option ((Int32 × zm_S) ⊕ ((Int32) × zm_S))} : qs (zf_X14_rankedOne_J63 20000 k 2208 i1 i2 i3 i4 t0 S) (qf_X14_rankedOne_J63 20000 qi1 qi2 qi3 qi4 qt0 M) (tk (vs (rp L xs P M vi) (rp L xs P M vi)) (qc_X14_rankedOne_L13 L xs P M k)) := by
  unfold zf_X14_rankedOne_J63 qf_X14_rankedOne_J63
  refine qs_gr hS pl_2208 ts_2208 rfl ?_
  refine qs_gd (fun g6578 => ?_)
  refine qs_xi hM (pa_p hS pl_2219 ts_2219) ei4 g6578 (fun v6577 h6577 => ?_)
  refine qs_ite (c_eq h6577 k_0) ?_ ?_
  · exact (qz_X14_rankedOne_J85 hS hM ei1 ei2 ei4 ei3)
  · refine qs_ite (c_eq et0 k_0) ?_ ?_
    · exact (qz_X14_rankedOne_J85 hS hM ei1 ei2 ei4 ei3)
    · exact (qz_X14_rankedOne_J86 hS hM ei1 ei2 ei4 ei3 k_1)
set_option maxRecDepth 20000 in
theorem qz_X14_rankedOne_J58 {P : Nat → Nat} {S : zm_S} {M : qm} {i1 : Int32} {qi1 : Int} {i2 : Int32} {qi2 : Int} {i3 : Int32} {qi3 : Int} {i4 : Int32} {qi4 : Int} (hS : Sh L xs P S) (hM : qM P S = M) (ei1 : i1.toInt = qi1) (ei2 : i2.toInt = qi2) (ei3 : i3.toInt = qi3) (ei4 : i4.toInt = qi4) {k : Nat → Int32 → Int32 → Int32 → Int32 → zm_S → Option ((Int32 × zm_S) ⊕ ((Int32) × zm_S))} : qs (zf_X14_rankedOne_J58 20000 k 2208 i1 i2 i3 i4 S) (qf_X14_rankedOne_J58 20000 qi1 qi2 qi3 qi4 M) (tk (vs (rp L xs P M vi) (rp L xs P M vi)) (qc_X14_rankedOne_L13 L xs P M k)) := by
  unfold zf_X14_rankedOne_J58 qf_X14_rankedOne_J58
  exact (qz_X14_rankedOne_J63 hS hM ei1 ei2 ei3 ei4 k_1)
set_option maxRecDepth 20000 in
theorem qz_X14_rankedOne_J62 {P : Nat → Nat} {S : zm_S} {M : qm} {i1 : Int32} {qi1 : Int} {i2 : Int32} {qi2 : Int} {i3 : Int32} {qi3 : Int} {i4 : Int32} {qi4 : Int} (hS : Sh L xs P S) (hM : qM P S = M) (ei1 : i1.toInt = qi1) (ei2 : i2.toInt = qi2) (ei3 : i3.toInt = qi3) (ei4 : i4.toInt = qi4) {k : Nat → Int32 → Int32 → Int32 → Int32 → zm_S → Option ((Int32 × zm_S) ⊕ ((Int32) × zm_S))} : qs (zf_X14_rankedOne_J62 20000 k 2208 i1 i2 i3 i4 S) (qf_X14_rankedOne_J62 20000 qi1 qi2 qi3 qi4 M) (tk (vs (rp L xs P M vi) (rp L xs P M vi)) (qc_X14_rankedOne_L13 L xs P M k)) := by
  unfold zf_X14_rankedOne_J62 qf_X14_rankedOne_J62
  exact (qz_X14_rankedOne_J63 hS hM ei1 ei2 ei3 ei4 k_0)
set_option maxRecDepth 20000 in
theorem qz_X14_rankedOne_L13_b (n : Nat) {P : Nat → Nat} {S : zm_S} {M : qm} {i1 : Int32} {qi1 : Int} {i2 : Int32} {qi2 : Int} {i3 : Int32} {qi3 : Int} {i4 : Int32} {qi4 : Int} (hS : Sh L xs P S) (hM : qM P S = M) (ei1 : i1.toInt = qi1) (ei2 : i2.toInt = qi2) (ei3 : i3.toInt = qi3) (ei4 : i4.toInt = qi4) : qs (zf_X14_rankedOne_L13 20000 (n + 1) 2208 i1 i2 i3 i4 S) (qf_X14_rankedOne_L13_b 20000 qi1 qi2 qi3 qi4 M) (tk (vs (rp L xs P M vi) (rp L xs P M vi)) (qc_X14_rankedOne_L13 L xs P M (zf_X14_rankedOne_L13 20000 n))) := by
  refine qs_eq (zf_X14_rankedOne_L13.eq_2 ..) ?_
  unfold qf_X14_rankedOne_L13_b
  refine qs_ite (c_le k_20 ei4) ?_ ?_
  · exact qs_tp2 (show vi _ _ from ei3) hS hM
  · refine qs_gr hS pl_2208 ts_2208 rfl ?_
    refine qs_gd (fun g6581 => ?_)
    refine qs_xi hM (pa_p hS pl_2221 ts_2221) ei4 g6581 (fun v6580 h6580 => ?_)
    refine qs_gr hS pl_2208 ts_2208 rfl ?_
    refine qs_gd (fun g6584 => ?_)
    refine qs_xi hM (pa_p hS pl_2221 ts_2221) ei2 g6584 (fun v6583 h6583 => ?_)
    refine qs_ite (c_lt h6583 h6580) ?_ ?_
    · exact (qz_X14_rankedOne_J58 hS hM ei1 ei2 ei3 ei4)
    · refine qs_gr hS pl_2208 ts_2208 rfl ?_
      refine qs_gd (fun g6587 => ?_)
      refine qs_xi hM (pa_p hS pl_2221 ts_2221) ei4 g6587 (fun v6586 h6586 => ?_)
      refine qs_gr hS pl_2208 ts_2208 rfl ?_
      refine qs_gd (fun g6590 => ?_)
      refine qs_xi hM (pa_p hS pl_2221 ts_2221) ei2 g6590 (fun v6589 h6589 => ?_)
      refine qs_ite (c_eq h6586 h6589) ?_ ?_
      · refine qs_ite (c_le ei2 ei4) ?_ ?_
        · exact (qz_X14_rankedOne_J62 hS hM ei1 ei2 ei3 ei4)
        · exact (qz_X14_rankedOne_J58 hS hM ei1 ei2 ei3 ei4)
      · exact (qz_X14_rankedOne_J62 hS hM ei1 ei2 ei3 ei4)
theorem qz_X14_rankedOne_L13 (n : Nat) : ∀ {P : Nat → Nat} {S : zm_S} {M : qm} {i1 : Int32} {qi1 : Int} {i2 : Int32} {qi2 : Int} {i3 : Int32} {qi3 : Int} {i4 : Int32} {qi4 : Int} (hS : Sh L xs P S) (hM : qM P S = M) (ei1 : i1.toInt = qi1) (ei2 : i2.toInt = qi2) (ei3 : i3.toInt = qi3) (ei4 : i4.toInt = qi4), qs (zf_X14_rankedOne_L13 20000 n 2208 i1 i2 i3 i4 S) (qf_X14_rankedOne_L13 20000 n qi1 qi2 qi3 qi4 M) (tO (vs (rp L xs P M vi) (rp L xs P M vi))) := by
  induction n with
  | zero =>
    intros
    exact qs_none
  | succ n ih =>
    intro P S M i1 qi1 i2 qi2 i3 qi3 i4 qi4 hS hM ei1 ei2 ei3 ei4
    unfold qf_X14_rankedOne_L13
    refine qs_loop (C := (qc_X14_rankedOne_L13 L xs P M (zf_X14_rankedOne_L13 20000 n))) (qz_X14_rankedOne_L13_b n hS hM ei1 ei2 ei3 ei4) ?_
    rintro x s ⟨_, _, _, _, _, rfl, u0, u1, u2, u3, hS2, hM2⟩
    exact ih hS2 hM2 u0 u1 u2 u3
set_option maxRecDepth 20000 in
theorem qz_X14_rankedOne_L2_b (n : Nat) {P : Nat → Nat} {S : zm_S} {M : qm} {i1 : Int32} {qi1 : Int} {i2 : Int32} {qi2 : Int} (hS : Sh L xs P S) (hM : qM P S = M) (ei1 : i1.toInt = qi1) (ei2 : i2.toInt = qi2) : qs (zf_X14_rankedOne_L2 20000 (n + 1) 2208 i1 i2 S) (qf_X14_rankedOne_L2_b 20000 qi1 qi2 M) (tk (vs (rp L xs P M vi) (rp L xs P M vu)) (qc_X14_rankedOne_L2 L xs P M (zf_X14_rankedOne_L2 20000 n))) := by
  refine qs_eq (zf_X14_rankedOne_L2.eq_2 ..) ?_
  unfold qf_X14_rankedOne_L2_b
  refine qs_ite (c_le k_20 ei2) ?_ ?_
  · exact qs_tp2 (show vu _ _ from trivial) hS hM
  · refine qs_lp (qz_X14_rankedOne_L13 20000 hS hM ei1 ei2 k_0 k_0) ?_ ?_
    · intro v6592 S6592 w6592 h6592 hS6592 hM6592
      dsimp only
      exact qs_tp1 h6592 hS6592 hM6592
    · intro v6592 S6592 w6592 h6592 hS6592 hM6592
      dsimp only
      refine qs_gr hS6592 pl_2208 ts_2208 rfl ?_
      refine qs_gd (fun g6595 => ?_)
      refine qs_xi hM6592 (pa_p hS6592 pl_2219 ts_2219) ei2 g6595 (fun v6594 h6594 => ?_)
      refine qs_ite (c_eq h6594 k_0) ?_ ?_
      · exact qs_tk ⟨_, _, _, rfl, ei1, (p_add ei2 k_1), hS6592, hM6592⟩
      · refine qs_ite (c_eq h6592 ei1) ?_ ?_
        · exact qs_tp1 (show vi _ _ from ei2) hS6592 hM6592
        · exact qs_tk ⟨_, _, _, rfl, ei1, (p_add ei2 k_1), hS6592, hM6592⟩
theorem qz_X14_rankedOne_L2 (n : Nat) : ∀ {P : Nat → Nat} {S : zm_S} {M : qm} {i1 : Int32} {qi1 : Int} {i2 : Int32} {qi2 : Int} (hS : Sh L xs P S) (hM : qM P S = M) (ei1 : i1.toInt = qi1) (ei2 : i2.toInt = qi2), qs (zf_X14_rankedOne_L2 20000 n 2208 i1 i2 S) (qf_X14_rankedOne_L2 20000 n qi1 qi2 M) (tO (vs (rp L xs P M vi) (rp L xs P M vu))) := by
  induction n with
  | zero =>
    intros
    exact qs_none
  | succ n ih =>
    intro P S M i1 qi1 i2 qi2 hS hM ei1 ei2
    unfold qf_X14_rankedOne_L2
    refine qs_loop (C := (qc_X14_rankedOne_L2 L xs P M (zf_X14_rankedOne_L2 20000 n))) (qz_X14_rankedOne_L2_b n hS hM ei1 ei2) ?_
    rintro x s ⟨_, _, _, rfl, u0, u1, hS2, hM2⟩
    exact ih hS2 hM2 u0 u1
set_option maxRecDepth 20000 in
theorem qz_X14_rankedOne {P : Nat → Nat} {S : zm_S} {M : qm} {i1 : Int32} {qi1 : Int} (hS : Sh L xs P S) (hM : qM P S = M) (ei1 : i1.toInt = qi1) : qs (zf_X14_rankedOne 20000 2208 i1 S) (qf_X14_rankedOne 20000 qi1 M) (tO (rp L xs P M vi)) := by
  unfold zf_X14_rankedOne qf_X14_rankedOne
  refine qs_lp (qz_X14_rankedOne_L2 20000 hS hM ei1 k_0) ?_ ?_
  · intro v6597 S6597 w6597 h6597 hS6597 hM6597
    dsimp only
    exact qs_tp h6597 hS6597 hM6597
  · intro v6597 S6597 w6597 h6597 hS6597 hM6597
    dsimp only
    exact qs_tp (show vi _ _ from k_m1) hS6597 hM6597
set_option maxRecDepth 20000 in
theorem qz_X14_counts {P : Nat → Nat} {S : zm_S} {M : qm} {i1 : Int32} {qi1 : Int} (hS : Sh L xs P S) (hM : qM P S = M) (ei1 : i1.toInt = qi1) : qs (zf_X14_counts 20000 2208 i1 S) (qf_X14_counts 20000 qi1 M) (tO (rp L xs P M vi)) := by
  unfold zf_X14_counts qf_X14_counts
  refine qs_gr hS pl_2208 ts_2208 rfl ?_
  refine qs_gd (fun g6600 => ?_)
  refine qs_xi hM (pa_p hS pl_2210 ts_2210) ei1 g6600 (fun v6599 h6599 => ?_)
  refine qs_ite (c_eq h6599 k_0) ?_ ?_
  · refine qs_gi hS hM pl_2208 ts_2208 (z := 1) rfl rfl (fun v6601 h6601 => ?_)
    refine qs_gr hS pl_2208 ts_2208 rfl ?_
    refine qs_gd (fun g6604 => ?_)
    refine qs_xi hM (pa_p hS pl_2211 ts_2211) ei1 g6604 (fun v6603 h6603 => ?_)
    refine qs_ite (c_lt h6601 h6603) ?_ ?_
    · exact qs_tp (show vi _ _ from k_0) hS hM
    · exact qs_tp (show vi _ _ from k_1) hS hM
  · exact qs_tp (show vi _ _ from k_0) hS hM
set_option maxRecDepth 20000 in
theorem qz_X14_ofZone_J61 {P : Nat → Nat} {S : zm_S} {M : qm} {i1 : Int32} {qi1 : Int} {i2 : Int32} {qi2 : Int} {i4 : Int32} {qi4 : Int} {t0 : Int32} {qt0 : Int} {t1 : Int32} {qt1 : Int} (hS : Sh L xs P S) (hM : qM P S = M) (ei1 : i1.toInt = qi1) (ei2 : i2.toInt = qi2) (ei4 : i4.toInt = qi4) (et0 : t0.toInt = qt0) (et1 : t1.toInt = qt1) {k : Nat → Int32 → Int32 → Int32 → Int32 → zm_S → Option ((Int32 × zm_S) ⊕ ((Int32) × zm_S))} : qs (zf_X14_ofZone_J61 20000 k 2208 i1 i2 i4 t0 t1 S) (qf_X14_ofZone_J61 20000 qi1 qi2 qi4 qt0 qt1 M) (tk (vs (rp L xs P M vi) (rp L xs P M vi)) (qc_X14_ofZone_L5 L xs P M k)) := by
  unfold zf_X14_ofZone_J61 qf_X14_ofZone_J61
  exact qs_tk ⟨_, _, _, _, _, rfl, ei1, ei2, (p_add et0 et1), (p_add ei4 k_1), hS, hM⟩
set_option maxRecDepth 20000 in
theorem qz_X14_ofZone_J60 {P : Nat → Nat} {S : zm_S} {M : qm} {i1 : Int32} {qi1 : Int} {i2 : Int32} {qi2 : Int} {i4 : Int32} {qi4 : Int} {t0 : Int32} {qt0 : Int} (hS : Sh L xs P S) (hM : qM P S = M) (ei1 : i1.toInt = qi1) (ei2 : i2.toInt = qi2) (ei4 : i4.toInt = qi4) (et0 : t0.toInt = qt0) {k : Nat → Int32 → Int32 → Int32 → Int32 → zm_S → Option ((Int32 × zm_S) ⊕ ((Int32) × zm_S))} : qs (zf_X14_ofZone_J60 20000 k 2208 i1 i2 i4 t0 S) (qf_X14_ofZone_J60 20000 qi1 qi2 qi4 qt0 M) (tk (vs (rp L xs P M vi) (rp L xs P M vi)) (qc_X14_ofZone_L5 L xs P M k)) := by
  unfold zf_X14_ofZone_J60 qf_X14_ofZone_J60
  exact (qz_X14_ofZone_J61 hS hM ei1 ei2 ei4 et0 k_0)
set_option maxRecDepth 20000 in
theorem qz_X14_ofZone_J56 {P : Nat → Nat} {S : zm_S} {M : qm} {i1 : Int32} {qi1 : Int} {i2 : Int32} {qi2 : Int} {i4 : Int32} {qi4 : Int} {t0 : Int32} {qt0 : Int} (hS : Sh L xs P S) (hM : qM P S = M) (ei1 : i1.toInt = qi1) (ei2 : i2.toInt = qi2) (ei4 : i4.toInt = qi4) (et0 : t0.toInt = qt0) {k : Nat → Int32 → Int32 → Int32 → Int32 → zm_S → Option ((Int32 × zm_S) ⊕ ((Int32) × zm_S))} : qs (zf_X14_ofZone_J56 20000 k 2208 i1 i2 i4 t0 S) (qf_X14_ofZone_J56 20000 qi1 qi2 qi4 qt0 M) (tk (vs (rp L xs P M vi) (rp L xs P M vi)) (qc_X14_ofZone_L5 L xs P M k)) := by
  unfold zf_X14_ofZone_J56 qf_X14_ofZone_J56
  exact (qz_X14_ofZone_J61 hS hM ei1 ei2 ei4 et0 k_1)
set_option maxRecDepth 20000 in
theorem qz_X14_ofZone_L5_b (n : Nat) {P : Nat → Nat} {S : zm_S} {M : qm} {i1 : Int32} {qi1 : Int} {i2 : Int32} {qi2 : Int} {i3 : Int32} {qi3 : Int} {i4 : Int32} {qi4 : Int} (hS : Sh L xs P S) (hM : qM P S = M) (ei1 : i1.toInt = qi1) (ei2 : i2.toInt = qi2) (ei3 : i3.toInt = qi3) (ei4 : i4.toInt = qi4) : qs (zf_X14_ofZone_L5 20000 (n + 1) 2208 i1 i2 i3 i4 S) (qf_X14_ofZone_L5_b 20000 qi1 qi2 qi3 qi4 M) (tk (vs (rp L xs P M vi) (rp L xs P M vi)) (qc_X14_ofZone_L5 L xs P M (zf_X14_ofZone_L5 20000 n))) := by
  refine qs_eq (zf_X14_ofZone_L5.eq_2 ..) ?_
  unfold qf_X14_ofZone_L5_b
  refine qs_gr hS pl_2208 ts_2208 rfl ?_
  refine qs_gd (fun g6607 => ?_)
  refine qs_xi hM (pa_p hS pl_2217 ts_2217) ei1 g6607 (fun v6606 h6606 => ?_)
  refine qs_ite (c_le h6606 ei4) ?_ ?_
  · exact qs_tp2 (show vi _ _ from ei3) hS hM
  · refine qs_gr hS pl_2208 ts_2208 rfl ?_
    refine qs_gd (fun g6610 => ?_)
    refine qs_xi hM (pa_p hS pl_2218 ts_2218) (p_add (p_mul k_12 ei1) ei4) g6610 (fun v6609 h6609 => ?_)
    refine qs_zi hS pl_2208 ts_2208 ?_
    refine qs_bp (qz_X14_counts hS hM h6609) (fun v6612 S6612 w6612 h6612 hS6612 hM6612 => ?_)
    refine qs_ite (c_eq h6612 k_0) ?_ ?_
    · exact (qz_X14_ofZone_J60 hS6612 hM6612 ei1 ei2 ei4 ei3)
    · refine qs_ite (c_eq ei2 k_0) ?_ ?_
      · exact (qz_X14_ofZone_J56 hS6612 hM6612 ei1 ei2 ei4 ei3)
      · refine qs_gr hS6612 pl_2208 ts_2208 rfl ?_
        refine qs_gd (fun g6615 => ?_)
        refine qs_xi hM6612 (pa_p hS6612 pl_2209 ts_2209) h6609 g6615 (fun v6614 h6614 => ?_)
        refine qs_ite (c_lt h6614 k_50) ?_ ?_
        · exact (qz_X14_ofZone_J60 hS6612 hM6612 ei1 ei2 ei4 ei3)
        · exact (qz_X14_ofZone_J56 hS6612 hM6612 ei1 ei2 ei4 ei3)
theorem qz_X14_ofZone_L5 (n : Nat) : ∀ {P : Nat → Nat} {S : zm_S} {M : qm} {i1 : Int32} {qi1 : Int} {i2 : Int32} {qi2 : Int} {i3 : Int32} {qi3 : Int} {i4 : Int32} {qi4 : Int} (hS : Sh L xs P S) (hM : qM P S = M) (ei1 : i1.toInt = qi1) (ei2 : i2.toInt = qi2) (ei3 : i3.toInt = qi3) (ei4 : i4.toInt = qi4), qs (zf_X14_ofZone_L5 20000 n 2208 i1 i2 i3 i4 S) (qf_X14_ofZone_L5 20000 n qi1 qi2 qi3 qi4 M) (tO (vs (rp L xs P M vi) (rp L xs P M vi))) := by
  induction n with
  | zero =>
    intros
    exact qs_none
  | succ n ih =>
    intro P S M i1 qi1 i2 qi2 i3 qi3 i4 qi4 hS hM ei1 ei2 ei3 ei4
    unfold qf_X14_ofZone_L5
    refine qs_loop (C := (qc_X14_ofZone_L5 L xs P M (zf_X14_ofZone_L5 20000 n))) (qz_X14_ofZone_L5_b n hS hM ei1 ei2 ei3 ei4) ?_
    rintro x s ⟨_, _, _, _, _, rfl, u0, u1, u2, u3, hS2, hM2⟩
    exact ih hS2 hM2 u0 u1 u2 u3
set_option maxRecDepth 20000 in
theorem qz_X14_ofZone {P : Nat → Nat} {S : zm_S} {M : qm} {i1 : Int32} {qi1 : Int} {i2 : Int32} {qi2 : Int} (hS : Sh L xs P S) (hM : qM P S = M) (ei1 : i1.toInt = qi1) (ei2 : i2.toInt = qi2) : qs (zf_X14_ofZone 20000 2208 i1 i2 S) (qf_X14_ofZone 20000 qi1 qi2 M) (tO (rp L xs P M vi)) := by
  unfold zf_X14_ofZone qf_X14_ofZone
  refine qs_lp (qz_X14_ofZone_L5 20000 hS hM ei1 ei2 k_0 k_0) ?_ ?_
  · intro v6617 S6617 w6617 h6617 hS6617 hM6617
    dsimp only
    exact qs_tp h6617 hS6617 hM6617
  · intro v6617 S6617 w6617 h6617 hS6617 hM6617
    dsimp only
    exact qs_tp (show vi _ _ from h6617) hS6617 hM6617
set_option maxRecDepth 20000 in
theorem qz_X14_isOn {P : Nat → Nat} {S : zm_S} {M : qm} {i1 : Int32} {qi1 : Int} (hS : Sh L xs P S) (hM : qM P S = M) (ei1 : i1.toInt = qi1) : qs (zf_X14_isOn 20000 2208 i1 S) (qf_X14_isOn 20000 qi1 M) (tO (rp L xs P M vi)) := by
  unfold zf_X14_isOn qf_X14_isOn
  refine qs_zi hS pl_2208 ts_2208 ?_
  refine qs_bp (qz_X14_ofZone hS hM ei1 k_1) (fun v6619 S6619 w6619 h6619 hS6619 hM6619 => ?_)
  refine qs_gr hS6619 pl_2208 ts_2208 rfl ?_
  refine qs_gd (fun g6622 => ?_)
  refine qs_xi hM6619 (pa_p hS6619 pl_2216 ts_2216) ei1 g6622 (fun v6621 h6621 => ?_)
  refine qs_ite (c_lt h6619 h6621) ?_ ?_
  · exact qs_tp (show vi _ _ from k_0) hS6619 hM6619
  · exact qs_tp (show vi _ _ from k_1) hS6619 hM6619
set_option maxRecDepth 20000 in
theorem qz_X14_isMet {P : Nat → Nat} {S : zm_S} {M : qm} {i1 : Int32} {qi1 : Int} (hS : Sh L xs P S) (hM : qM P S = M) (ei1 : i1.toInt = qi1) : qs (zf_X14_isMet 20000 2208 i1 S) (qf_X14_isMet 20000 qi1 M) (tO (rp L xs P M vi)) := by
  unfold zf_X14_isMet qf_X14_isMet
  refine qs_gr hS pl_2208 ts_2208 rfl ?_
  refine qs_gd (fun g6625 => ?_)
  refine qs_xi hM (pa_p hS pl_2224 ts_2224) ei1 g6625 (fun v6624 h6624 => ?_)
  refine qs_zi hS pl_2208 ts_2208 ?_
  refine qs_bp (qz_X14_isOn hS hM h6624) (fun v6627 S6627 w6627 h6627 hS6627 hM6627 => ?_)
  refine qs_ite (c_eq h6627 k_0) ?_ ?_
  · exact qs_tp (show vi _ _ from k_0) hS6627 hM6627
  · refine qs_gr hS6627 pl_2208 ts_2208 rfl ?_
    refine qs_gd (fun g6630 => ?_)
    refine qs_xi hM6627 (pa_p hS6627 pl_2225 ts_2225) ei1 g6630 (fun v6629 h6629 => ?_)
    refine qs_ite (c_lt h6629 k_0) ?_ ?_
    · exact qs_tp (show vi _ _ from k_1) hS6627 hM6627
    · refine qs_gr hS6627 pl_2208 ts_2208 rfl ?_
      refine qs_gd (fun g6633 => ?_)
      refine qs_xi hM6627 (pa_p hS6627 pl_2225 ts_2225) ei1 g6633 (fun v6632 h6632 => ?_)
      refine qs_zi hS6627 pl_2208 ts_2208 ?_
      refine qs_bp (qz_X14_isOn hS6627 hM6627 h6632) (fun v6635 S6635 w6635 h6635 hS6635 hM6635 => ?_)
      refine qs_ite (c_eq h6635 k_0) ?_ ?_
      · exact qs_tp (show vi _ _ from k_0) hS6635 hM6635
      · exact qs_tp (show vi _ _ from k_1) hS6635 hM6635
set_option maxRecDepth 20000 in
theorem qz_X14_isCalled_J116 {P : Nat → Nat} {S : zm_S} {M : qm} {i1 : Int32} {qi1 : Int} {i2 : Int32} {qi2 : Int} {i4 : Int32} {qi4 : Int} (hS : Sh L xs P S) (hM : qM P S = M) (ei1 : i1.toInt = qi1) (ei2 : i2.toInt = qi2) (ei4 : i4.toInt = qi4) {k : Nat → Int32 → Int32 → Int32 → Int32 → zm_S → Option ((Int32 × zm_S) ⊕ ((Int32) × zm_S))} : qs (zf_X14_isCalled_J116 20000 k 2208 i1 i2 i4 S) (qf_X14_isCalled_J116 20000 qi1 qi2 qi4 M) (tk (vs (rp L xs P M vi) (rp L xs P M vi)) (qc_X14_isCalled_L5 L xs P M k)) := by
  unfold zf_X14_isCalled_J116 qf_X14_isCalled_J116
  exact qs_tk ⟨_, _, _, _, _, rfl, ei1, ei2, k_0, (p_add ei4 k_1), hS, hM⟩
set_option maxRecDepth 20000 in
theorem qz_X14_isCalled_J112 {P : Nat → Nat} {S : zm_S} {M : qm} {i1 : Int32} {qi1 : Int} {i2 : Int32} {qi2 : Int} {i4 : Int32} {qi4 : Int} (hS : Sh L xs P S) (hM : qM P S = M) (ei1 : i1.toInt = qi1) (ei2 : i2.toInt = qi2) (ei4 : i4.toInt = qi4) {k : Nat → Int32 → Int32 → Int32 → Int32 → zm_S → Option ((Int32 × zm_S) ⊕ ((Int32) × zm_S))} : qs (zf_X14_isCalled_J112 20000 k 2208 i1 i2 i4 S) (qf_X14_isCalled_J112 20000 qi1 qi2 qi4 M) (tk (vs (rp L xs P M vi) (rp L xs P M vi)) (qc_X14_isCalled_L5 L xs P M k)) := by
  unfold zf_X14_isCalled_J112 qf_X14_isCalled_J112
  exact qs_tk ⟨_, _, _, _, _, rfl, ei1, ei2, k_1, (p_add ei4 k_1), hS, hM⟩
set_option maxRecDepth 20000 in
theorem qz_X14_isCalled_J89 {P : Nat → Nat} {S : zm_S} {M : qm} {i1 : Int32} {qi1 : Int} {i2 : Int32} {qi2 : Int} {i3 : Int32} {qi3 : Int} {i4 : Int32} {qi4 : Int} {i5 : Int32} {qi5 : Int} {t0 : Int32} {qt0 : Int} (hS : Sh L xs P S) (hM : qM P S = M) (ei1 : i1.toInt = qi1) (ei2 : i2.toInt = qi2) (ei3 : i3.toInt = qi3) (ei4 : i4.toInt = qi4) (ei5 : i5.toInt = qi5) (et0 : t0.toInt = qt0) {k : Nat → Int32 → Int32 → Int32 → Int32 → zm_S → Option ((Int32 × zm_S) ⊕ ((Int32) × zm_S))} : qs (zf_X14_isCalled_J89 20000 k 2208 i1 i2 i3 i4 i5 t0 S) (qf_X14_isCalled_J89 20000 qi1 qi2 qi3 qi4 qi5 qt0 M) (tk (vs (rp L xs P M vi) (rp L xs P M vi)) (qc_X14_isCalled_L5 L xs P M k)) := by
  unfold zf_X14_isCalled_J89 qf_X14_isCalled_J89
  refine qs_ite (c_eq ei3 k_0) ?_ ?_
  · refine qs_ite (c_eq ei2 k_0) ?_ ?_
    · refine qs_ite (c_eq ei5 k_0) ?_ ?_
      · exact (qz_X14_isCalled_J116 hS hM ei1 ei2 ei4)
      · exact (qz_X14_isCalled_J112 hS hM ei1 ei2 ei4)
    · refine qs_ite (c_eq et0 k_0) ?_ ?_
      · exact (qz_X14_isCalled_J116 hS hM ei1 ei2 ei4)
      · exact (qz_X14_isCalled_J112 hS hM ei1 ei2 ei4)
  · exact (qz_X14_isCalled_J112 hS hM ei1 ei2 ei4)
set_option maxRecDepth 20000 in
theorem qz_X14_isCalled_J88 {P : Nat → Nat} {S : zm_S} {M : qm} {i1 : Int32} {qi1 : Int} {i2 : Int32} {qi2 : Int} {i3 : Int32} {qi3 : Int} {i4 : Int32} {qi4 : Int} {i5 : Int32} {qi5 : Int} (hS : Sh L xs P S) (hM : qM P S = M) (ei1 : i1.toInt = qi1) (ei2 : i2.toInt = qi2) (ei3 : i3.toInt = qi3) (ei4 : i4.toInt = qi4) (ei5 : i5.toInt = qi5) {k : Nat → Int32 → Int32 → Int32 → Int32 → zm_S → Option ((Int32 × zm_S) ⊕ ((Int32) × zm_S))} : qs (zf_X14_isCalled_J88 20000 k 2208 i1 i2 i3 i4 i5 S) (qf_X14_isCalled_J88 20000 qi1 qi2 qi3 qi4 qi5 M) (tk (vs (rp L xs P M vi) (rp L xs P M vi)) (qc_X14_isCalled_L5 L xs P M k)) := by
  unfold zf_X14_isCalled_J88 qf_X14_isCalled_J88
  exact (qz_X14_isCalled_J89 hS hM ei1 ei2 ei3 ei4 ei5 k_0)
set_option maxRecDepth 20000 in
theorem qz_X14_isSure {P : Nat → Nat} {S : zm_S} {M : qm} {i1 : Int32} {qi1 : Int} (hS : Sh L xs P S) (hM : qM P S = M) (ei1 : i1.toInt = qi1) : qs (zf_X14_isSure 20000 2208 i1 S) (qf_X14_isSure 20000 qi1 M) (tO (rp L xs P M vi)) := by
  unfold zf_X14_isSure qf_X14_isSure
  refine qs_zi hS pl_2208 ts_2208 ?_
  refine qs_bp (qz_X14_ofZone hS hM ei1 k_0) (fun v6637 S6637 w6637 h6637 hS6637 hM6637 => ?_)
  refine qs_ite (c_le h6637 k_0) ?_ ?_
  · exact qs_tp (show vi _ _ from k_0) hS6637 hM6637
  · refine qs_zi hS6637 pl_2208 ts_2208 ?_
    refine qs_bp (qz_X14_ofZone hS6637 hM6637 ei1 k_1) (fun v6639 S6639 w6639 h6639 hS6639 hM6639 => ?_)
    refine qs_ite (c_eq h6639 h6637) ?_ ?_
    · exact qs_tp (show vi _ _ from k_1) hS6639 hM6639
    · exact qs_tp (show vi _ _ from k_0) hS6639 hM6639
set_option maxRecDepth 20000 in
theorem qz_X14_isCalled_J84 {P : Nat → Nat} {S : zm_S} {M : qm} {i1 : Int32} {qi1 : Int} {i2 : Int32} {qi2 : Int} {i3 : Int32} {qi3 : Int} {i4 : Int32} {qi4 : Int} {i5 : Int32} {qi5 : Int} (hS : Sh L xs P S) (hM : qM P S = M) (ei1 : i1.toInt = qi1) (ei2 : i2.toInt = qi2) (ei3 : i3.toInt = qi3) (ei4 : i4.toInt = qi4) (ei5 : i5.toInt = qi5) {k : Nat → Int32 → Int32 → Int32 → Int32 → zm_S → Option ((Int32 × zm_S) ⊕ ((Int32) × zm_S))} : qs (zf_X14_isCalled_J84 20000 k 2208 i1 i2 i3 i4 i5 S) (qf_X14_isCalled_J84 20000 qi1 qi2 qi3 qi4 qi5 M) (tk (vs (rp L xs P M vi) (rp L xs P M vi)) (qc_X14_isCalled_L5 L xs P M k)) := by
  unfold zf_X14_isCalled_J84 qf_X14_isCalled_J84
  exact (qz_X14_isCalled_J89 hS hM ei1 ei2 ei3 ei4 ei5 k_1)
set_option maxRecDepth 20000 in
theorem qz_X14_isCalled_J39 {P : Nat → Nat} {S : zm_S} {M : qm} {i1 : Int32} {qi1 : Int} {i2 : Int32} {qi2 : Int} {i3 : Int32} {qi3 : Int} {i4 : Int32} {qi4 : Int} {t0 : Int32} {qt0 : Int} (hS : Sh L xs P S) (hM : qM P S = M) (ei1 : i1.toInt = qi1) (ei2 : i2.toInt = qi2) (ei3 : i3.toInt = qi3) (ei4 : i4.toInt = qi4) (et0 : t0.toInt = qt0) {k : Nat → Int32 → Int32 → Int32 → Int32 → zm_S → Option ((Int32 × zm_S) ⊕ ((Int32) × zm_S))} : qs (zf_X14_isCalled_J39 20000 k 2208 i1 i2 i3 i4 t0 S) (qf_X14_isCalled_J39 20000 qi1 qi2 qi3 qi4 qt0 M) (tk (vs (rp L xs P M vi) (rp L xs P M vi)) (qc_X14_isCalled_L5 L xs P M k)) := by
  unfold zf_X14_isCalled_J39 qf_X14_isCalled_J39
  refine qs_ite (c_eq et0 k_0) ?_ ?_
  · exact (qz_X14_isCalled_J88 hS hM ei1 ei2 ei3 ei4 et0)
  · refine qs_gr hS pl_2208 ts_2208 rfl ?_
    refine qs_gd (fun g6642 => ?_)
    refine qs_xi hM (pa_p hS pl_2224 ts_2224) ei4 g6642 (fun v6641 h6641 => ?_)
    refine qs_zi hS pl_2208 ts_2208 ?_
    refine qs_bp (qz_X14_isSure hS hM h6641) (fun v6644 S6644 w6644 h6644 hS6644 hM6644 => ?_)
    refine qs_ite (c_eq h6644 k_0) ?_ ?_
    · refine qs_gr hS6644 pl_2208 ts_2208 rfl ?_
      refine qs_gd (fun g6647 => ?_)
      refine qs_xi hM6644 (pa_p hS6644 pl_2225 ts_2225) ei4 g6647 (fun v6646 h6646 => ?_)
      refine qs_ite (c_lt h6646 k_0) ?_ ?_
      · exact (qz_X14_isCalled_J88 hS6644 hM6644 ei1 ei2 ei3 ei4 et0)
      · refine qs_gr hS6644 pl_2208 ts_2208 rfl ?_
        refine qs_gd (fun g6650 => ?_)
        refine qs_xi hM6644 (pa_p hS6644 pl_2225 ts_2225) ei4 g6650 (fun v6649 h6649 => ?_)
        refine qs_zi hS6644 pl_2208 ts_2208 ?_
        refine qs_bp (qz_X14_isSure hS6644 hM6644 h6649) (fun v6652 S6652 w6652 h6652 hS6652 hM6652 => ?_)
        refine qs_ite (c_eq h6652 k_0) ?_ ?_
        · exact (qz_X14_isCalled_J88 hS6652 hM6652 ei1 ei2 ei3 ei4 et0)
        · exact (qz_X14_isCalled_J84 hS6652 hM6652 ei1 ei2 ei3 ei4 et0)
    · exact (qz_X14_isCalled_J84 hS6644 hM6644 ei1 ei2 ei3 ei4 et0)
set_option maxRecDepth 20000 in
theorem qz_X14_isCalled_J38 {P : Nat → Nat} {S : zm_S} {M : qm} {i1 : Int32} {qi1 : Int} {i2 : Int32} {qi2 : Int} {i3 : Int32} {qi3 : Int} {i4 : Int32} {qi4 : Int} (hS : Sh L xs P S) (hM : qM P S = M) (ei1 : i1.toInt = qi1) (ei2 : i2.toInt = qi2) (ei3 : i3.toInt = qi3) (ei4 : i4.toInt = qi4) {k : Nat → Int32 → Int32 → Int32 → Int32 → zm_S → Option ((Int32 × zm_S) ⊕ ((Int32) × zm_S))} : qs (zf_X14_isCalled_J38 20000 k 2208 i1 i2 i3 i4 S) (qf_X14_isCalled_J38 20000 qi1 qi2 qi3 qi4 M) (tk (vs (rp L xs P M vi) (rp L xs P M vi)) (qc_X14_isCalled_L5 L xs P M k)) := by
  unfold zf_X14_isCalled_J38 qf_X14_isCalled_J38
  exact (qz_X14_isCalled_J39 hS hM ei1 ei2 ei3 ei4 k_0)
set_option maxRecDepth 20000 in
theorem qz_X14_isCalled_L5_b (n : Nat) {P : Nat → Nat} {S : zm_S} {M : qm} {i1 : Int32} {qi1 : Int} {i2 : Int32} {qi2 : Int} {i3 : Int32} {qi3 : Int} {i4 : Int32} {qi4 : Int} (hS : Sh L xs P S) (hM : qM P S = M) (ei1 : i1.toInt = qi1) (ei2 : i2.toInt = qi2) (ei3 : i3.toInt = qi3) (ei4 : i4.toInt = qi4) : qs (zf_X14_isCalled_L5 20000 (n + 1) 2208 i1 i2 i3 i4 S) (qf_X14_isCalled_L5_b 20000 qi1 qi2 qi3 qi4 M) (tk (vs (rp L xs P M vi) (rp L xs P M vi)) (qc_X14_isCalled_L5 L xs P M (zf_X14_isCalled_L5 20000 n))) := by
  refine qs_eq (zf_X14_isCalled_L5.eq_2 ..) ?_
  unfold qf_X14_isCalled_L5_b
  refine qs_gi hS hM pl_2208 ts_2208 (z := 21) rfl rfl (fun v6653 h6653 => ?_)
  refine qs_ite (c_le h6653 ei4) ?_ ?_
  · exact qs_tp2 (show vi _ _ from ei3) hS hM
  · refine qs_gr hS pl_2208 ts_2208 rfl ?_
    refine qs_gd (fun g6656 => ?_)
    refine qs_xi hM (pa_p hS pl_2226 ts_2226) ei4 g6656 (fun v6655 h6655 => ?_)
    refine qs_ite (c_eq h6655 ei1) ?_ ?_
    · refine qs_zi hS pl_2208 ts_2208 ?_
      refine qs_bp (qz_X14_isMet hS hM ei4) (fun v6658 S6658 w6658 h6658 hS6658 hM6658 => ?_)
      refine qs_ite (c_eq h6658 k_0) ?_ ?_
      · exact (qz_X14_isCalled_J38 hS6658 hM6658 ei1 ei2 ei3 ei4)
      · exact (qz_X14_isCalled_J39 hS6658 hM6658 ei1 ei2 ei3 ei4 k_1)
    · exact (qz_X14_isCalled_J38 hS hM ei1 ei2 ei3 ei4)
theorem qz_X14_isCalled_L5 (n : Nat) : ∀ {P : Nat → Nat} {S : zm_S} {M : qm} {i1 : Int32} {qi1 : Int} {i2 : Int32} {qi2 : Int} {i3 : Int32} {qi3 : Int} {i4 : Int32} {qi4 : Int} (hS : Sh L xs P S) (hM : qM P S = M) (ei1 : i1.toInt = qi1) (ei2 : i2.toInt = qi2) (ei3 : i3.toInt = qi3) (ei4 : i4.toInt = qi4), qs (zf_X14_isCalled_L5 20000 n 2208 i1 i2 i3 i4 S) (qf_X14_isCalled_L5 20000 n qi1 qi2 qi3 qi4 M) (tO (vs (rp L xs P M vi) (rp L xs P M vi))) := by
  induction n with
  | zero =>
    intros
    exact qs_none
  | succ n ih =>
    intro P S M i1 qi1 i2 qi2 i3 qi3 i4 qi4 hS hM ei1 ei2 ei3 ei4
    unfold qf_X14_isCalled_L5
    refine qs_loop (C := (qc_X14_isCalled_L5 L xs P M (zf_X14_isCalled_L5 20000 n))) (qz_X14_isCalled_L5_b n hS hM ei1 ei2 ei3 ei4) ?_
    rintro x s ⟨_, _, _, _, _, rfl, u0, u1, u2, u3, hS2, hM2⟩
    exact ih hS2 hM2 u0 u1 u2 u3
set_option maxRecDepth 20000 in
theorem qz_X14_isCalled {P : Nat → Nat} {S : zm_S} {M : qm} {i1 : Int32} {qi1 : Int} {i2 : Int32} {qi2 : Int} (hS : Sh L xs P S) (hM : qM P S = M) (ei1 : i1.toInt = qi1) (ei2 : i2.toInt = qi2) : qs (zf_X14_isCalled 20000 2208 i1 i2 S) (qf_X14_isCalled 20000 qi1 qi2 M) (tO (rp L xs P M vi)) := by
  unfold zf_X14_isCalled qf_X14_isCalled
  refine qs_lp (qz_X14_isCalled_L5 20000 hS hM ei1 ei2 k_0 k_0) ?_ ?_
  · intro v6660 S6660 w6660 h6660 hS6660 hM6660
    dsimp only
    exact qs_tp h6660 hS6660 hM6660
  · intro v6660 S6660 w6660 h6660 hS6660 hM6660
    dsimp only
    refine qs_ite (or_congr (c_eq h6660 k_0) (c_eq h6660 k_1)) ?_ ?_
    · exact qs_tp (show vi _ _ from h6660) hS6660 hM6660
    · exact qs_none
set_option maxRecDepth 20000 in
theorem qz_X14_tell_L11_b (n : Nat) {P : Nat → Nat} {S : zm_S} {M : qm} {i1 : Int32} {qi1 : Int} {i2 : Int32} {qi2 : Int} {i3 : Int32} {qi3 : Int} (hS : Sh L xs P S) (hM : qM P S = M) (ei1 : i1.toInt = qi1) (ei2 : i2.toInt = qi2) (ei3 : i3.toInt = qi3) : qs (zf_X14_tell_L11 20000 (n + 1) 2208 i1 i2 i3 S) (qf_X14_tell_L11_b 20000 qi1 qi2 qi3 M) (tk (vs (rr L xs P vu) (rr L xs P vu)) (qc_X14_tell_L11 L xs P (zf_X14_tell_L11 20000 n))) := by
  refine qs_eq (zf_X14_tell_L11.eq_2 ..) ?_
  unfold qf_X14_tell_L11_b
  refine qs_ite (c_le k_60 ei3) ?_ ?_
  · exact qs_tr2 (show vu _ _ from trivial) hS hM
  · refine qs_gr hS pl_2208 ts_2208 rfl ?_
    refine qs_gr hS pl_2208 ts_2208 rfl ?_
    refine qs_gd (fun g6664 => ?_)
    refine qs_xi hM (pa_p hS pl_2231 ts_2231) ei3 g6664 (fun v6663 h6663 => ?_)
    refine qs_gd (fun g6666 => ?_)
    refine qs_si hS hM (pa_p hS pl_2231 ts_2231) (p_sub ei3 k_1) g6666 h6663 (fun S6665 M6665 hS6665 hM6665 => ?_)
    refine qs_gr hS6665 pl_2208 ts_2208 rfl ?_
    refine qs_gr hS6665 pl_2208 ts_2208 rfl ?_
    refine qs_gd (fun g6670 => ?_)
    refine qs_xi hM6665 (pa_p hS6665 pl_2232 ts_2232) ei3 g6670 (fun v6669 h6669 => ?_)
    refine qs_gd (fun g6672 => ?_)
    refine qs_si hS6665 hM6665 (pa_p hS6665 pl_2232 ts_2232) (p_sub ei3 k_1) g6672 h6669 (fun S6671 M6671 hS6671 hM6671 => ?_)
    refine qs_gr hS6671 pl_2208 ts_2208 rfl ?_
    refine qs_gr hS6671 pl_2208 ts_2208 rfl ?_
    refine qs_gd (fun g6676 => ?_)
    refine qs_xi hM6671 (pa_p hS6671 pl_2233 ts_2233) ei3 g6676 (fun v6675 h6675 => ?_)
    refine qs_gd (fun g6678 => ?_)
    refine qs_si hS6671 hM6671 (pa_p hS6671 pl_2233 ts_2233) (p_sub ei3 k_1) g6678 h6675 (fun S6677 M6677 hS6677 hM6677 => ?_)
    exact qs_tk ⟨_, _, _, _, rfl, ei1, ei2, (p_add ei3 k_1), hS6677, hM6677⟩
theorem qz_X14_tell_L11 (n : Nat) : ∀ {P : Nat → Nat} {S : zm_S} {M : qm} {i1 : Int32} {qi1 : Int} {i2 : Int32} {qi2 : Int} {i3 : Int32} {qi3 : Int} (hS : Sh L xs P S) (hM : qM P S = M) (ei1 : i1.toInt = qi1) (ei2 : i2.toInt = qi2) (ei3 : i3.toInt = qi3), qs (zf_X14_tell_L11 20000 n 2208 i1 i2 i3 S) (qf_X14_tell_L11 20000 n qi1 qi2 qi3 M) (tO (vs (rr L xs P vu) (rr L xs P vu))) := by
  induction n with
  | zero =>
    intros
    exact qs_none
  | succ n ih =>
    intro P S M i1 qi1 i2 qi2 i3 qi3 hS hM ei1 ei2 ei3
    unfold qf_X14_tell_L11
    refine qs_loop (C := (qc_X14_tell_L11 L xs P (zf_X14_tell_L11 20000 n))) (qz_X14_tell_L11_b n hS hM ei1 ei2 ei3) ?_
    rintro x s ⟨_, _, _, _, rfl, u0, u1, u2, hS2, hM2⟩
    exact ih hS2 hM2 u0 u1 u2
set_option maxRecDepth 20000 in
theorem qz_X14_tell_J75 {P : Nat → Nat} {S : zm_S} {M : qm} {i1 : Int32} {qi1 : Int} {i2 : Int32} {qi2 : Int} (hS : Sh L xs P S) (hM : qM P S = M) (ei1 : i1.toInt = qi1) (ei2 : i2.toInt = qi2) : qs (zf_X14_tell_J75 20000 2208 i1 i2 S) (qf_X14_tell_J75 20000 qi1 qi2 M) (tO (rr L xs P vu)) := by
  unfold zf_X14_tell_J75 qf_X14_tell_J75
  refine qs_gr hS pl_2208 ts_2208 rfl ?_
  refine qs_gi hS hM pl_2208 ts_2208 (z := 30) rfl rfl (fun v6680 h6680 => ?_)
  refine qs_gi hS hM pl_2208 ts_2208 (z := 1) rfl rfl (fun v6681 h6681 => ?_)
  refine qs_gd (fun g6683 => ?_)
  refine qs_si hS hM (pa_p hS pl_2231 ts_2231) h6680 g6683 h6681 (fun S6682 M6682 hS6682 hM6682 => ?_)
  refine qs_gr hS6682 pl_2208 ts_2208 rfl ?_
  refine qs_gi hS6682 hM6682 pl_2208 ts_2208 (z := 30) rfl rfl (fun v6685 h6685 => ?_)
  refine qs_gd (fun g6687 => ?_)
  refine qs_si hS6682 hM6682 (pa_p hS6682 pl_2232 ts_2232) h6685 g6687 ei1 (fun S6686 M6686 hS6686 hM6686 => ?_)
  refine qs_gr hS6686 pl_2208 ts_2208 rfl ?_
  refine qs_gi hS6686 hM6686 pl_2208 ts_2208 (z := 30) rfl rfl (fun v6689 h6689 => ?_)
  refine qs_gd (fun g6691 => ?_)
  refine qs_si hS6686 hM6686 (pa_p hS6686 pl_2233 ts_2233) h6689 g6691 ei2 (fun S6690 M6690 hS6690 hM6690 => ?_)
  refine qs_gi hS6690 hM6690 pl_2208 ts_2208 (z := 30) rfl rfl (fun v6692 h6692 => ?_)
  refine qs_pi hS6690 hM6690 pl_2208 ts_2208 (z := 30) rfl rfl (p_add h6692 k_1) (fun S6693 M6693 hS6693 hM6693 => ?_)
  exact qs_tr (show vu _ _ from trivial) hS6693 hM6693
set_option maxRecDepth 20000 in
theorem qz_X14_tell {P : Nat → Nat} {S : zm_S} {M : qm} {i1 : Int32} {qi1 : Int} {i2 : Int32} {qi2 : Int} (hS : Sh L xs P S) (hM : qM P S = M) (ei1 : i1.toInt = qi1) (ei2 : i2.toInt = qi2) : qs (zf_X14_tell 20000 2208 i1 i2 S) (qf_X14_tell 20000 qi1 qi2 M) (tO (rr L xs P vu)) := by
  unfold zf_X14_tell qf_X14_tell
  refine qs_gi hS hM pl_2208 ts_2208 (z := 30) rfl rfl (fun v6694 h6694 => ?_)
  refine qs_ite (c_eq h6694 k_60) ?_ ?_
  · refine qs_lr (qz_X14_tell_L11 20000 hS hM ei1 ei2 k_1) ?_ ?_
    · intro v6696 S6696 w6696 M6696 h6696 hS6696 hM6696
      dsimp only
      exact qs_tr h6696 hS6696 hM6696
    · intro v6696 S6696 w6696 M6696 h6696 hS6696 hM6696
      dsimp only
      refine qs_gi hS6696 hM6696 pl_2208 ts_2208 (z := 30) rfl rfl (fun v6697 h6697 => ?_)
      refine qs_pi hS6696 hM6696 pl_2208 ts_2208 (z := 30) rfl rfl (p_sub h6697 k_1) (fun S6698 M6698 hS6698 hM6698 => ?_)
      exact (qz_X14_tell_J75 hS6698 hM6698 ei1 ei2)
  · exact (qz_X14_tell_J75 hS hM ei1 ei2)
set_option maxRecDepth 20000 in
theorem qz_X14_resets {P : Nat → Nat} {S : zm_S} {M : qm} {i1 : Int32} {qi1 : Int} (hS : Sh L xs P S) (hM : qM P S = M) (ei1 : i1.toInt = qi1) : qs (zf_X14_resets 20000 2208 i1 S) (qf_X14_resets 20000 qi1 M) (tO (rr L xs P vi)) := by
  unfold zf_X14_resets qf_X14_resets
  refine qs_gr hS pl_2208 ts_2208 rfl ?_
  refine qs_gd (fun g6701 => ?_)
  refine qs_xi hM (pa_p hS pl_2223 ts_2223) ei1 g6701 (fun v6700 h6700 => ?_)
  refine qs_ite (c_eq h6700 k_0) ?_ ?_
  · exact qs_tr (show vi _ _ from k_0) hS hM
  · refine qs_gr hS pl_2208 ts_2208 rfl ?_
    refine qs_gd (fun g6704 => ?_)
    refine qs_xi hM (pa_p hS pl_2227 ts_2227) ei1 g6704 (fun v6703 h6703 => ?_)
    refine qs_ite (c_eq h6703 k_2) ?_ ?_
    · refine qs_zi hS pl_2208 ts_2208 ?_
      refine qs_bp (qz_X14_isCalled hS hM ei1 k_0) (fun v6706 S6706 w6706 h6706 hS6706 hM6706 => ?_)
      refine qs_ite (c_eq h6706 k_0) ?_ ?_
      · refine qs_zi hS6706 pl_2208 ts_2208 ?_
        refine qs_b (qz_X14_rests hS6706 hM6706 ei1) (fun v6708 S6708 w6708 M6708 h6708 hS6708 hM6708 => ?_)
        refine qs_zi hS6708 pl_2208 ts_2208 ?_
        refine qs_b (qz_X14_tell hS6708 hM6708 ei1 k_0) (fun v6710 S6710 w6710 M6710 h6710 hS6710 hM6710 => ?_)
        exact qs_tr (show vi _ _ from k_1) hS6710 hM6710
      · exact qs_tr (show vi _ _ from k_0) hS6706 hM6706
    · exact qs_tr (show vi _ _ from k_0) hS hM
set_option maxRecDepth 20000 in
theorem qz_X18_reset_J50 {P : Nat → Nat} {S : zm_S} {M : qm} {i1 : Int32} {qi1 : Int} {i3 : Int32} {qi3 : Int} (hS : Sh L xs P S) (hM : qM P S = M) (ei1 : i1.toInt = qi1) (ei3 : i3.toInt = qi3) {k : Nat → Int32 → Int32 → Int32 → zm_S → Option ((Int32 × zm_S) ⊕ ((Int32) × zm_S))} : qs (zf_X18_reset_J50 20000 k 2156 i1 i3 S) (qf_X18_reset_J50 20000 qi1 qi3 M) (tk (vs (rr L xs P vi) (rr L xs P vi)) (qc_X18_reset_L26 L xs P k)) := by
  unfold zf_X18_reset_J50 qf_X18_reset_J50
  refine qs_gr hS pl_2156 ts_2156 rfl ?_
  refine qs_zi hS pl_2208 ts_2208 ?_
  refine qs_bp (qz_X14_rankedOne hS hM ei3) (fun v6713 S6713 w6713 h6713 hS6713 hM6713 => ?_)
  exact qs_tk ⟨_, _, _, _, rfl, ei1, h6713, (p_add ei3 k_1), hS6713, hM6713⟩
set_option maxRecDepth 20000 in
theorem qz_X18_does_J43 {P : Nat → Nat} {S : zm_S} {M : qm} {i1 : Int32} {qi1 : Int} {i2 : Int32} {qi2 : Int} (hS : Sh L xs P S) (hM : qM P S = M) (ei1 : i1.toInt = qi1) (ei2 : i2.toInt = qi2) : qs (zf_X18_does_J43 20000 2156 i1 i2 S) (qf_X18_does_J43 20000 qi1 qi2 M) (tO (rr L xs P vu)) := by
  unfold zf_X18_does_J43 qf_X18_does_J43
  refine qs_gr hS pl_2156 ts_2156 rfl ?_
  refine qs_gr hS pl_2208 ts_2208 rfl ?_
  refine qs_gd (fun g6717 => ?_)
  refine qs_xi hM (pa_p hS pl_2220 ts_2220) ei1 g6717 (fun v6716 h6716 => ?_)
  refine qs_ite (c_eq h6716 k_3) ?_ ?_
  · refine qs_gr hS pl_2156 ts_2156 rfl ?_
    refine qs_gr hS pl_2235 ts_2235 rfl ?_
    refine qs_gd (fun g6721 => ?_)
    refine qs_si hS hM (pa_p hS pl_2247 ts_2247) (p_add k_4 (p_mod ei1 k_6)) g6721 ei2 (fun S6720 M6720 hS6720 hM6720 => ?_)
    exact qs_tr (show vu _ _ from trivial) hS6720 hM6720
  · exact qs_tr (show vu _ _ from trivial) hS hM
set_option maxRecDepth 20000 in
theorem qz_X12_send_L125_b (n : Nat) {P : Nat → Nat} {S : zm_S} {M : qm} {i1 : Int32} {qi1 : Int} {i2 : Int32} {qi2 : Int} {i5 : Int32} {qi5 : Int} {i6 : Int32} {qi6 : Int} {i7 : Int32} {qi7 : Int} {i8 : Int32} {qi8 : Int} (hS : Sh L xs P S) (hM : qM P S = M) (ei1 : i1.toInt = qi1) (ei2 : i2.toInt = qi2) (ei5 : i5.toInt = qi5) (ei6 : i6.toInt = qi6) (ei7 : i7.toInt = qi7) (ei8 : i8.toInt = qi8) : qs (zf_X12_send_L125 20000 (n + 1) 2252 i1 i2 i5 i6 i7 i8 S) (qf_X12_send_L125_b 20000 qi1 qi2 qi5 qi6 qi7 qi8 M) (tk (vs (rr L xs P vi) (rr L xs P vu)) (qc_X12_send_L125 L xs P (zf_X12_send_L125 20000 n))) := by
  refine qs_eq (zf_X12_send_L125.eq_2 ..) ?_
  unfold qf_X12_send_L125_b
  refine qs_ite (c_le ei5 ei8) ?_ ?_
  · exact qs_tr2 (show vu _ _ from trivial) hS hM
  · refine qs_gr hS pl_2252 ts_2252 rfl ?_
    refine qs_gd (fun g6724 => ?_)
    refine qs_si hS hM (pa_p hS pl_2259 ts_2259) (p_add (p_add ei7 k_6) ei8) g6724 (p_mod (p_add ei6 ei8) k_256) (fun S6723 M6723 hS6723 hM6723 => ?_)
    exact qs_tk ⟨_, _, _, _, _, _, _, rfl, ei1, ei2, ei5, ei6, ei7, (p_add ei8 k_1), hS6723, hM6723⟩
theorem qz_X12_send_L125 (n : Nat) : ∀ {P : Nat → Nat} {S : zm_S} {M : qm} {i1 : Int32} {qi1 : Int} {i2 : Int32} {qi2 : Int} {i5 : Int32} {qi5 : Int} {i6 : Int32} {qi6 : Int} {i7 : Int32} {qi7 : Int} {i8 : Int32} {qi8 : Int} (hS : Sh L xs P S) (hM : qM P S = M) (ei1 : i1.toInt = qi1) (ei2 : i2.toInt = qi2) (ei5 : i5.toInt = qi5) (ei6 : i6.toInt = qi6) (ei7 : i7.toInt = qi7) (ei8 : i8.toInt = qi8), qs (zf_X12_send_L125 20000 n 2252 i1 i2 i5 i6 i7 i8 S) (qf_X12_send_L125 20000 n qi1 qi2 qi5 qi6 qi7 qi8 M) (tO (vs (rr L xs P vi) (rr L xs P vu))) := by
  induction n with
  | zero =>
    intros
    exact qs_none
  | succ n ih =>
    intro P S M i1 qi1 i2 qi2 i5 qi5 i6 qi6 i7 qi7 i8 qi8 hS hM ei1 ei2 ei5 ei6 ei7 ei8
    unfold qf_X12_send_L125
    refine qs_loop (C := (qc_X12_send_L125 L xs P (zf_X12_send_L125 20000 n))) (qz_X12_send_L125_b n hS hM ei1 ei2 ei5 ei6 ei7 ei8) ?_
    rintro x s ⟨_, _, _, _, _, _, _, rfl, u0, u1, u2, u3, u4, u5, hS2, hM2⟩
    exact ih hS2 hM2 u0 u1 u2 u3 u4 u5
set_option maxRecDepth 20000 in
theorem qz_X12_check_L17_b (n : Nat) {P : Nat → Nat} {S : zm_S} {M : qm} {i1 : Int32} {qi1 : Int} {i2 : Int32} {qi2 : Int} {i3 : Int32} {qi3 : Int} {i4 : Int32} {qi4 : Int} (hS : Sh L xs P S) (hM : qM P S = M) (ei1 : i1.toInt = qi1) (ei2 : i2.toInt = qi2) (ei3 : i3.toInt = qi3) (ei4 : i4.toInt = qi4) : qs (zf_X12_check_L17 20000 (n + 1) 2252 i1 i2 i3 i4 S) (qf_X12_check_L17_b 20000 qi1 qi2 qi3 qi4 M) (tk (vs (rp L xs P M vu) (rp L xs P M vi)) (qc_X12_check_L17 L xs P M (zf_X12_check_L17 20000 n))) := by
  refine qs_eq (zf_X12_check_L17.eq_2 ..) ?_
  unfold qf_X12_check_L17_b
  refine qs_ite (c_le (p_sub ei2 k_1) ei4) ?_ ?_
  · exact qs_tp2 (show vi _ _ from ei3) hS hM
  · refine qs_gr hS pl_2252 ts_2252 rfl ?_
    refine qs_gd (fun g6727 => ?_)
    refine qs_xi hM (pa_p hS pl_2259 ts_2259) (p_add ei1 ei4) g6727 (fun v6726 h6726 => ?_)
    exact qs_tk ⟨_, _, _, _, _, rfl, ei1, ei2, (p_xor ei3 h6726), (p_add ei4 k_1), hS, hM⟩
theorem qz_X12_check_L17 (n : Nat) : ∀ {P : Nat → Nat} {S : zm_S} {M : qm} {i1 : Int32} {qi1 : Int} {i2 : Int32} {qi2 : Int} {i3 : Int32} {qi3 : Int} {i4 : Int32} {qi4 : Int} (hS : Sh L xs P S) (hM : qM P S = M) (ei1 : i1.toInt = qi1) (ei2 : i2.toInt = qi2) (ei3 : i3.toInt = qi3) (ei4 : i4.toInt = qi4), qs (zf_X12_check_L17 20000 n 2252 i1 i2 i3 i4 S) (qf_X12_check_L17 20000 n qi1 qi2 qi3 qi4 M) (tO (vs (rp L xs P M vu) (rp L xs P M vi))) := by
  induction n with
  | zero =>
    intros
    exact qs_none
  | succ n ih =>
    intro P S M i1 qi1 i2 qi2 i3 qi3 i4 qi4 hS hM ei1 ei2 ei3 ei4
    unfold qf_X12_check_L17
    refine qs_loop (C := (qc_X12_check_L17 L xs P M (zf_X12_check_L17 20000 n))) (qz_X12_check_L17_b n hS hM ei1 ei2 ei3 ei4) ?_
    rintro x s ⟨_, _, _, _, _, rfl, u0, u1, u2, u3, hS2, hM2⟩
    exact ih hS2 hM2 u0 u1 u2 u3
set_option maxRecDepth 20000 in
theorem qz_X12_check {P : Nat → Nat} {S : zm_S} {M : qm} {i1 : Int32} {qi1 : Int} (hS : Sh L xs P S) (hM : qM P S = M) (ei1 : i1.toInt = qi1) : qs (zf_X12_check 20000 2252 i1 S) (qf_X12_check 20000 qi1 M) (tO (rr L xs P vu)) := by
  unfold zf_X12_check qf_X12_check
  refine qs_gr hS pl_2252 ts_2252 rfl ?_
  refine qs_gd (fun g6730 => ?_)
  refine qs_xi hM (pa_p hS pl_2259 ts_2259) (p_add ei1 k_21) g6730 (fun v6729 h6729 => ?_)
  refine qs_lp (qz_X12_check_L17 20000 hS hM ei1 h6729 k_255 k_0) ?_ ?_
  · intro v6732 S6732 w6732 h6732 hS6732 hM6732
    dsimp only
    exact qs_tr h6732 hS6732 hM6732
  · intro v6732 S6732 w6732 h6732 hS6732 hM6732
    dsimp only
    refine qs_gr hS6732 pl_2252 ts_2252 rfl ?_
    refine qs_gd (fun g6735 => ?_)
    refine qs_si hS6732 hM6732 (pa_p hS6732 pl_2259 ts_2259) (p_sub (p_add ei1 h6729) k_1) g6735 h6732 (fun S6734 M6734 hS6734 hM6734 => ?_)
    exact qs_tr (show vu _ _ from trivial) hS6734 hM6734
set_option maxRecDepth 20000 in
theorem qz_X12_send_J120 {P : Nat → Nat} {S : zm_S} {M : qm} {i1 : Int32} {qi1 : Int} {i2 : Int32} {qi2 : Int} {i5 : Int32} {qi5 : Int} {i6 : Int32} {qi6 : Int} {i7 : Int32} {qi7 : Int} {t1 : Int32} {qt1 : Int} {t2 : Int32} {qt2 : Int} {t3 : Int32} {qt3 : Int} (hS : Sh L xs P S) (hM : qM P S = M) (ei1 : i1.toInt = qi1) (ei2 : i2.toInt = qi2) (ei5 : i5.toInt = qi5) (ei6 : i6.toInt = qi6) (ei7 : i7.toInt = qi7) (et1 : t1.toInt = qt1) (et2 : t2.toInt = qt2) (et3 : t3.toInt = qt3) : qs (zf_X12_send_J120 20000 2252 i1 i2 i5 i6 i7 2259 t1 t2 t3 S) (qf_X12_send_J120 20000 qi1 qi2 qi5 qi6 qi7 qt1 qt2 qt3 M) (tO (rr L xs P vi)) := by
  unfold zf_X12_send_J120 qf_X12_send_J120
  refine qs_gd (fun g6737 => ?_)
  refine qs_si hS hM (pa_p hS pl_2259 ts_2259) et1 g6737 (p_add et2 et3) (fun S6736 M6736 hS6736 hM6736 => ?_)
  refine qs_lr (qz_X12_send_L125 20000 hS6736 hM6736 ei1 ei2 ei5 ei6 ei7 k_0) ?_ ?_
  · intro v6739 S6739 w6739 M6739 h6739 hS6739 hM6739
    dsimp only
    exact qs_tr h6739 hS6739 hM6739
  · intro v6739 S6739 w6739 M6739 h6739 hS6739 hM6739
    dsimp only
    refine qs_gr hS6739 pl_2252 ts_2252 rfl ?_
    refine qs_gd (fun g6742 => ?_)
    refine qs_si hS6739 hM6739 (pa_p hS6739 pl_2259 ts_2259) (p_add ei7 k_21) g6742 (p_add ei5 k_7) (fun S6741 M6741 hS6741 hM6741 => ?_)
    refine qs_gr hS6741 pl_2252 ts_2252 rfl ?_
    refine qs_gd (fun g6745 => ?_)
    refine qs_si hS6741 hM6741 (pa_p hS6741 pl_2259 ts_2259) (p_add ei7 k_22) g6745 ei2 (fun S6744 M6744 hS6744 hM6744 => ?_)
    refine qs_gr hS6744 pl_2252 ts_2252 rfl ?_
    refine qs_gd (fun g6748 => ?_)
    refine qs_si hS6744 hM6744 (pa_p hS6744 pl_2259 ts_2259) (p_add ei7 k_23) g6748 k_0 (fun S6747 M6747 hS6747 hM6747 => ?_)
    refine qs_zi hS6747 pl_2252 ts_2252 ?_
    refine qs_b (qz_X12_check hS6747 hM6747 ei7) (fun v6750 S6750 w6750 M6750 h6750 hS6750 hM6750 => ?_)
    refine qs_gr hS6750 pl_2252 ts_2252 rfl ?_
    refine qs_gd (fun g6753 => ?_)
    refine qs_xi hM6750 (pa_p hS6750 pl_2258 ts_2258) ei1 g6753 (fun v6752 h6752 => ?_)
    refine qs_gd (fun g6755 => ?_)
    refine qs_si hS6750 hM6750 (pa_p hS6750 pl_2258 ts_2258) ei1 g6755 (p_add h6752 k_1) (fun S6754 M6754 hS6754 hM6754 => ?_)
    refine qs_gr hS6754 pl_2252 ts_2252 rfl ?_
    refine qs_gd (fun g6758 => ?_)
    refine qs_xi hM6754 (pa_p hS6754 pl_2258 ts_2258) ei1 g6758 (fun v6757 h6757 => ?_)
    exact qs_tr (show vi _ _ from h6757) hS6754 hM6754
set_option maxRecDepth 20000 in
theorem qz_X12_send {P : Nat → Nat} {S : zm_S} {M : qm} {i1 : Int32} {qi1 : Int} {i2 : Int32} {qi2 : Int} {i3 : Int32} {qi3 : Int} {i4 : Int32} {qi4 : Int} {i5 : Int32} {qi5 : Int} {i6 : Int32} {qi6 : Int} (hS : Sh L xs P S) (hM : qM P S = M) (ei1 : i1.toInt = qi1) (ei2 : i2.toInt = qi2) (ei3 : i3.toInt = qi3) (ei4 : i4.toInt = qi4) (ei5 : i5.toInt = qi5) (ei6 : i6.toInt = qi6) : qs (zf_X12_send 20000 2252 i1 i2 i3 i4 i5 i6 S) (qf_X12_send 20000 qi1 qi2 qi3 qi4 qi5 qi6 M) (tO (rr L xs P vi)) := by
  unfold zf_X12_send qf_X12_send
  refine qs_gr hS pl_2252 ts_2252 rfl ?_
  refine qs_gd (fun g6761 => ?_)
  refine qs_xi hM (pa_p hS pl_2258 ts_2258) ei1 g6761 (fun v6760 h6760 => ?_)
  refine qs_gr hS pl_2252 ts_2252 rfl ?_
  refine qs_gd (fun g6764 => ?_)
  refine qs_si hS hM (pa_p hS pl_2259 ts_2259) (p_mul k_24 (p_add (p_mul k_6 ei1) h6760)) g6764 (p_add k_176 (p_mul k_4 ei2)) (fun S6763 M6763 hS6763 hM6763 => ?_)
  refine qs_gr hS6763 pl_2252 ts_2252 rfl ?_
  refine qs_gr hS6763 pl_2252 ts_2252 rfl ?_
  refine qs_gd (fun g6768 => ?_)
  refine qs_xi hM6763 (pa_p hS6763 pl_2255 ts_2255) ei1 g6768 (fun v6767 h6767 => ?_)
  refine qs_gd (fun g6770 => ?_)
  refine qs_si hS6763 hM6763 (pa_p hS6763 pl_2259 ts_2259) (p_add (p_mul k_24 (p_add (p_mul k_6 ei1) h6760)) k_1) g6770 (p_div h6767 k_256 (by decide)) (fun S6769 M6769 hS6769 hM6769 => ?_)
  refine qs_gr hS6769 pl_2252 ts_2252 rfl ?_
  refine qs_gr hS6769 pl_2252 ts_2252 rfl ?_
  refine qs_gd (fun g6774 => ?_)
  refine qs_xi hM6769 (pa_p hS6769 pl_2255 ts_2255) ei1 g6774 (fun v6773 h6773 => ?_)
  refine qs_gd (fun g6776 => ?_)
  refine qs_si hS6769 hM6769 (pa_p hS6769 pl_2259 ts_2259) (p_add (p_mul k_24 (p_add (p_mul k_6 ei1) h6760)) k_2) g6776 (p_mod h6773 k_256) (fun S6775 M6775 hS6775 hM6775 => ?_)
  refine qs_gr hS6775 pl_2252 ts_2252 rfl ?_
  refine qs_gd (fun g6779 => ?_)
  refine qs_si hS6775 hM6775 (pa_p hS6775 pl_2259 ts_2259) (p_add (p_mul k_24 (p_add (p_mul k_6 ei1) h6760)) k_3) g6779 (p_div ei3 k_256 (by decide)) (fun S6778 M6778 hS6778 hM6778 => ?_)
  refine qs_gr hS6778 pl_2252 ts_2252 rfl ?_
  refine qs_gd (fun g6782 => ?_)
  refine qs_si hS6778 hM6778 (pa_p hS6778 pl_2259 ts_2259) (p_add (p_mul k_24 (p_add (p_mul k_6 ei1) h6760)) k_4) g6782 (p_mod ei3 k_256) (fun S6781 M6781 hS6781 hM6781 => ?_)
  refine qs_gr hS6781 pl_2252 ts_2252 rfl ?_
  refine qs_ite (c_eq ei4 k_0) ?_ ?_
  · exact (qz_X12_send_J120 hS6781 hM6781 ei1 ei2 ei5 ei6 (p_mul k_24 (p_add (p_mul k_6 ei1) h6760)) (p_add (p_mul k_24 (p_add (p_mul k_6 ei1) h6760)) k_5) (p_sub ei5 k_1) k_0)
  · exact (qz_X12_send_J120 hS6781 hM6781 ei1 ei2 ei5 ei6 (p_mul k_24 (p_add (p_mul k_6 ei1) h6760)) (p_add (p_mul k_24 (p_add (p_mul k_6 ei1) h6760)) k_5) (p_sub ei5 k_1) k_128)
set_option maxRecDepth 20000 in
theorem qz_X18_does {P : Nat → Nat} {S : zm_S} {M : qm} {i1 : Int32} {qi1 : Int} {i2 : Int32} {qi2 : Int} (hS : Sh L xs P S) (hM : qM P S = M) (ei1 : i1.toInt = qi1) (ei2 : i2.toInt = qi2) : qs (zf_X18_does 20000 2156 i1 i2 S) (qf_X18_does 20000 qi1 qi2 M) (tO (rr L xs P vu)) := by
  unfold zf_X18_does qf_X18_does
  refine qs_gr hS pl_2156 ts_2156 rfl ?_
  refine qs_gr hS pl_2208 ts_2208 rfl ?_
  refine qs_gd (fun g6787 => ?_)
  refine qs_xi hM (pa_p hS pl_2220 ts_2220) ei1 g6787 (fun v6786 h6786 => ?_)
  refine qs_ite (c_eq h6786 k_2) ?_ ?_
  · refine qs_gr hS pl_2156 ts_2156 rfl ?_
    refine qs_gr hS pl_2252 ts_2252 rfl ?_
    refine qs_xi (i := 7) hM (pa_p hS pl_2258 ts_2258) k_7 (by decide) (fun v6790 h6790 => ?_)
    refine qs_ite (c_le k_6 h6790) ?_ ?_
    · exact (qz_X18_does_J43 hS hM ei1 ei2)
    · refine qs_gr hS pl_2156 ts_2156 rfl ?_
      refine qs_zi hS pl_2252 ts_2252 ?_
      refine qs_b (qz_X12_send hS hM k_7 k_0 ei1 k_1 k_2 ei2) (fun v6793 S6793 w6793 M6793 h6793 hS6793 hM6793 => ?_)
      exact (qz_X18_does_J43 hS6793 hM6793 ei1 ei2)
  · exact (qz_X18_does_J43 hS hM ei1 ei2)
set_option maxRecDepth 20000 in
theorem qz_X18_reset_L26_b (n : Nat) {P : Nat → Nat} {S : zm_S} {M : qm} {i1 : Int32} {qi1 : Int} {i2 : Int32} {qi2 : Int} {i3 : Int32} {qi3 : Int} (hS : Sh L xs P S) (hM : qM P S = M) (ei1 : i1.toInt = qi1) (ei2 : i2.toInt = qi2) (ei3 : i3.toInt = qi3) : qs (zf_X18_reset_L26 20000 (n + 1) 2156 i1 i2 i3 S) (qf_X18_reset_L26_b 20000 qi1 qi2 qi3 M) (tk (vs (rr L xs P vi) (rr L xs P vi)) (qc_X18_reset_L26 L xs P (zf_X18_reset_L26 20000 n))) := by
  refine qs_eq (zf_X18_reset_L26.eq_2 ..) ?_
  unfold qf_X18_reset_L26_b
  refine qs_ite (c_lt ei2 k_0) ?_ ?_
  · exact qs_tr2 (show vi _ _ from ei1) hS hM
  · refine qs_gr hS pl_2156 ts_2156 rfl ?_
    refine qs_zi hS pl_2208 ts_2208 ?_
    refine qs_b (qz_X14_resets hS hM ei2) (fun v6796 S6796 w6796 M6796 h6796 hS6796 hM6796 => ?_)
    refine qs_ite (c_eq h6796 k_0) ?_ ?_
    · exact (qz_X18_reset_J50 hS6796 hM6796 ei1 ei3)
    · refine qs_zi hS6796 pl_2156 ts_2156 ?_
      refine qs_b (qz_X18_does hS6796 hM6796 ei2 k_0) (fun v6798 S6798 w6798 M6798 h6798 hS6798 hM6798 => ?_)
      exact (qz_X18_reset_J50 hS6798 hM6798 (p_add ei1 k_1) ei3)
theorem qz_X18_reset_L26 (n : Nat) : ∀ {P : Nat → Nat} {S : zm_S} {M : qm} {i1 : Int32} {qi1 : Int} {i2 : Int32} {qi2 : Int} {i3 : Int32} {qi3 : Int} (hS : Sh L xs P S) (hM : qM P S = M) (ei1 : i1.toInt = qi1) (ei2 : i2.toInt = qi2) (ei3 : i3.toInt = qi3), qs (zf_X18_reset_L26 20000 n 2156 i1 i2 i3 S) (qf_X18_reset_L26 20000 n qi1 qi2 qi3 M) (tO (vs (rr L xs P vi) (rr L xs P vi))) := by
  induction n with
  | zero =>
    intros
    exact qs_none
  | succ n ih =>
    intro P S M i1 qi1 i2 qi2 i3 qi3 hS hM ei1 ei2 ei3
    unfold qf_X18_reset_L26
    refine qs_loop (C := (qc_X18_reset_L26 L xs P (zf_X18_reset_L26 20000 n))) (qz_X18_reset_L26_b n hS hM ei1 ei2 ei3) ?_
    rintro x s ⟨_, _, _, _, rfl, u0, u1, u2, hS2, hM2⟩
    exact ih hS2 hM2 u0 u1 u2
set_option maxRecDepth 20000 in
theorem qz_X18_reset {P : Nat → Nat} {S : zm_S} {M : qm}  (hS : Sh L xs P S) (hM : qM P S = M)  : qs (zf_X18_reset 20000 2156 S) (qf_X18_reset 20000 M) (tO (rr L xs P vi)) := by
  unfold zf_X18_reset qf_X18_reset
  refine qs_gi hS hM pl_2156 ts_2156 (z := 1) rfl rfl (fun v6799 h6799 => ?_)
  refine qs_zi hS pl_2156 ts_2156 ?_
  refine qs_b (qz_X18_stays hS hM h6799) (fun v6801 S6801 w6801 M6801 h6801 hS6801 hM6801 => ?_)
  refine qs_ite (c_eq h6801 k_0) ?_ ?_
  · exact qs_tr (show vi _ _ from k_0) hS6801 hM6801
  · refine qs_gr hS6801 pl_2156 ts_2156 rfl ?_
    refine qs_zi hS6801 pl_2208 ts_2208 ?_
    refine qs_bp (qz_X14_rankedOne hS6801 hM6801 k_0) (fun v6804 S6804 w6804 h6804 hS6804 hM6804 => ?_)
    refine qs_lr (qz_X18_reset_L26 20000 hS6804 hM6804 k_0 h6804 k_1) ?_ ?_
    · intro v6806 S6806 w6806 M6806 h6806 hS6806 hM6806
      dsimp only
      exact qs_tr h6806 hS6806 hM6806
    · intro v6806 S6806 w6806 M6806 h6806 hS6806 hM6806
      dsimp only
      exact qs_tr (show vi _ _ from h6806) hS6806 hM6806
set_option maxRecDepth 20000 in
theorem qz_X4_isAct {P : Nat → Nat} {S : zm_S} {M : qm} {i1 : Int32} {qi1 : Int} (hS : Sh L xs P S) (hM : qM P S = M) (ei1 : i1.toInt = qi1) : qs (zf_X4_isAct 20000 1172 i1 S) (qf_X4_isAct 20000 qi1 M) (tO (rp L xs P M vi)) := by
  unfold zf_X4_isAct qf_X4_isAct
  refine qs_ite (c_lt ei1 k_0) ?_ ?_
  · exact qs_tp (show vi _ _ from k_0) hS hM
  · refine qs_gr hS pl_1172 ts_1172 rfl ?_
    refine qs_tn hS pl_1197 ts_1197 (by decide) (x := 20) (by decide) (fun v6808 h6808 => ?_)
    refine qs_ite (c_le h6808 ei1) ?_ ?_
    · exact qs_tp (show vi _ _ from k_0) hS hM
    · refine qs_gr hS pl_1172 ts_1172 rfl ?_
      refine qs_gd (fun g6811 => ?_)
      refine qs_xt hS pl_1197 ts_1197 (Or.inl rfl) ei1 g6811 (fun b6810 r6810 => ?_)
      refine qs_yi (j := 0) hS hM qt_1197 tq_1197 r6810 k_0 (by decide) (fun v6812 h6812 => ?_)
      refine qs_ite (c_eq h6812 k_0) ?_ ?_
      · exact qs_tp (show vi _ _ from k_0) hS hM
      · exact qs_tp (show vi _ _ from k_1) hS hM
set_option maxRecDepth 20000 in
theorem qz_X4_actFact {P : Nat → Nat} {S : zm_S} {M : qm} {i1 : Int32} {qi1 : Int} {i2 : Int32} {qi2 : Int} (hS : Sh L xs P S) (hM : qM P S = M) (ei1 : i1.toInt = qi1) (ei2 : i2.toInt = qi2) : qs (zf_X4_actFact 20000 1172 i1 i2 S) (qf_X4_actFact 20000 qi1 qi2 M) (tO (rp L xs P M vi)) := by
  unfold zf_X4_actFact qf_X4_actFact
  refine qs_ite (z_eq ei2) ?_ ?_
  · refine qs_gr hS pl_1172 ts_1172 rfl ?_
    refine qs_gd (fun g6815 => ?_)
    refine qs_xi hM (pa_p hS pl_1270 ts_1270) ei1 g6815 (fun v6814 h6814 => ?_)
    exact qs_tp (show vi _ _ from h6814) hS hM
  · refine qs_ite (z_eq ei2) ?_ ?_
    · refine qs_gr hS pl_1172 ts_1172 rfl ?_
      refine qs_gd (fun g6818 => ?_)
      refine qs_xi hM (pa_p hS pl_1270 ts_1270) ei1 g6818 (fun v6817 h6817 => ?_)
      refine qs_ite (c_eq h6817 k_1) ?_ ?_
      · refine qs_gr hS pl_1172 ts_1172 rfl ?_
        refine qs_gd (fun g6821 => ?_)
        refine qs_xi hM (pa_p hS pl_1271 ts_1271) ei1 g6821 (fun v6820 h6820 => ?_)
        exact qs_tp (show vi _ _ from h6820) hS hM
      · exact qs_tp (show vi _ _ from k_m1) hS hM
    · refine qs_ite (z_eq ei2) ?_ ?_
      · refine qs_gr hS pl_1172 ts_1172 rfl ?_
        refine qs_gd (fun g6824 => ?_)
        refine qs_xt hS pl_1197 ts_1197 (Or.inl rfl) ei1 g6824 (fun b6823 r6823 => ?_)
        refine qs_yi (j := 1) hS hM qt_1197 tq_1197 r6823 k_1 (by decide) (fun v6825 h6825 => ?_)
        exact qs_tp (show vi _ _ from h6825) hS hM
      · refine qs_ite (z_eq ei2) ?_ ?_
        · refine qs_gr hS pl_1172 ts_1172 rfl ?_
          refine qs_gd (fun g6828 => ?_)
          refine qs_xt hS pl_1197 ts_1197 (Or.inl rfl) ei1 g6828 (fun b6827 r6827 => ?_)
          refine qs_yi (j := 2) hS hM qt_1197 tq_1197 r6827 k_2 (by decide) (fun v6829 h6829 => ?_)
          exact qs_tp (show vi _ _ from h6829) hS hM
        · refine qs_ite (z_eq ei2) ?_ ?_
          · refine qs_gr hS pl_1172 ts_1172 rfl ?_
            refine qs_gd (fun g6832 => ?_)
            refine qs_xt hS pl_1197 ts_1197 (Or.inl rfl) ei1 g6832 (fun b6831 r6831 => ?_)
            refine qs_yi (j := 3) hS hM qt_1197 tq_1197 r6831 k_3 (by decide) (fun v6833 h6833 => ?_)
            exact qs_tp (show vi _ _ from h6833) hS hM
          · refine qs_gr hS pl_1172 ts_1172 rfl ?_
            refine qs_gd (fun g6836 => ?_)
            refine qs_xt hS pl_1197 ts_1197 (Or.inl rfl) ei1 g6836 (fun b6835 r6835 => ?_)
            refine qs_yi (j := 4) hS hM qt_1197 tq_1197 r6835 k_4 (by decide) (fun v6837 h6837 => ?_)
            exact qs_tp (show vi _ _ from h6837) hS hM
set_option maxRecDepth 20000 in
theorem qz_X11_act_J25 {P : Nat → Nat} {S : zm_S} {M : qm} {i1 : Int32} {qi1 : Int} {i2 : Int32} {qi2 : Int} {t0 : Int32} {qt0 : Int} (hS : Sh L xs P S) (hM : qM P S = M) (ei1 : i1.toInt = qi1) (ei2 : i2.toInt = qi2) (et0 : t0.toInt = qt0) : qs (zf_X11_act_J25 20000 6 i1 i2 t0 S) (qf_X11_act_J25 20000 qi1 qi2 qt0 M) (tO (rp L xs P M (vs vi ve))) := by
  unfold zf_X11_act_J25 qf_X11_act_J25
  refine qs_xp (qz_X11_needArgument hS hM et0) ?_ ?_
  · intro v6839 S6839 w6839 h6839 hS6839 hM6839
    dsimp only
    refine qs_gi hS6839 hM6839 pl_6 ts_6 (z := 11) rfl rfl (fun v6840 h6840 => ?_)
    refine qs_xp (qz_X11_needState hS6839 hM6839 h6840) ?_ ?_
    · intro v6842 S6842 w6842 h6842 hS6842 hM6842
      dsimp only
      refine qs_gr hS6842 pl_6 ts_6 rfl ?_
      refine qs_zi hS6842 pl_1172 ts_1172 ?_
      refine qs_bp (qz_X4_actFact hS6842 hM6842 ei1 ei2) (fun v6845 S6845 w6845 h6845 hS6845 hM6845 => ?_)
      exact qs_tp (show (vs vi ve) _ _ from h6845) hS6845 hM6845
    · intro v6842 S6842 hS6842 hM6842
      dsimp only
      exact qs_tp (show (vs vi ve) _ _ from rfl) hS6842 hM6842
  · intro v6839 S6839 hS6839 hM6839
    dsimp only
    exact qs_tp (show (vs vi ve) _ _ from rfl) hS6839 hM6839
set_option maxRecDepth 20000 in
theorem qz_X11_act_J24 {P : Nat → Nat} {S : zm_S} {M : qm} {i1 : Int32} {qi1 : Int} {i2 : Int32} {qi2 : Int} (hS : Sh L xs P S) (hM : qM P S = M) (ei1 : i1.toInt = qi1) (ei2 : i2.toInt = qi2) : qs (zf_X11_act_J24 20000 6 i1 i2 S) (qf_X11_act_J24 20000 qi1 qi2 M) (tO (rp L xs P M (vs vi ve))) := by
  unfold zf_X11_act_J24 qf_X11_act_J24
  exact (qz_X11_act_J25 hS hM ei1 ei2 k_0)
set_option maxRecDepth 20000 in
theorem qz_X11_act {P : Nat → Nat} {S : zm_S} {M : qm} {i1 : Int32} {qi1 : Int} {i2 : Int32} {qi2 : Int} (hS : Sh L xs P S) (hM : qM P S = M) (ei1 : i1.toInt = qi1) (ei2 : i2.toInt = qi2) : qs (zf_X11_act 20000 6 i1 i2 S) (qf_X11_act 20000 qi1 qi2 M) (tO (rp L xs P M (vs vi ve))) := by
  unfold zf_X11_act qf_X11_act
  refine qs_gr hS pl_6 ts_6 rfl ?_
  refine qs_zi hS pl_1172 ts_1172 ?_
  refine qs_bp (qz_X4_isAct hS hM ei1) (fun v6848 S6848 w6848 h6848 hS6848 hM6848 => ?_)
  refine qs_ite (c_eq h6848 k_0) ?_ ?_
  · exact (qz_X11_act_J24 hS6848 hM6848 ei1 ei2)
  · refine qs_bp (qz_X11_isWithin hS6848 hM6848 ei2 k_0 k_5) (fun v6849 S6849 w6849 h6849 hS6849 hM6849 => ?_)
    refine qs_ite (c_eq h6849 k_0) ?_ ?_
    · exact (qz_X11_act_J24 hS6849 hM6849 ei1 ei2)
    · exact (qz_X11_act_J25 hS6849 hM6849 ei1 ei2 k_1)
set_option maxRecDepth 20000 in
theorem qz_L_act {P : Nat → Nat} {S : zm_S} {M : qm} {i1 : Int32} {qi1 : Int} {i2 : Int32} {qi2 : Int} (hS : Sh L xs P S) (hM : qM P S = M) (ei1 : i1.toInt = qi1) (ei2 : i2.toInt = qi2) : qs (zf_L_act 20000 6 i1 i2 2332 S) (qf_L_act 20000 qi1 qi2 M) (tO (rr L xs P vi)) := by
  unfold zf_L_act qf_L_act
  refine qs_zi hS pl_6 ts_6 ?_
  refine qs_xp (qz_X11_act hS hM ei1 ei2) ?_ ?_
  · intro v6852 S6852 w6852 h6852 hS6852 hM6852
    dsimp only
    refine qs_sl hS6852 hM6852 (pa_p hS6852 pl_2332 ts_2332) k_0 (by decide) (p_64 h6852) (fun S6853 M6853 hS6853 hM6853 => ?_)
    exact qs_tr (show vi _ _ from k_0) hS6853 hM6853
  · intro v6852 S6852 hS6852 hM6852
    dsimp only
    refine qs_ite Iff.rfl ?_ ?_
    · exact qs_tr (show vi _ _ from k_1) hS6852 hM6852
    · refine qs_ite Iff.rfl ?_ ?_
      · exact qs_tr (show vi _ _ from k_2) hS6852 hM6852
      · exact qs_none
set_option maxRecDepth 20000 in
theorem qz_X14_act {P : Nat → Nat} {S : zm_S} {M : qm} {i1 : Int32} {qi1 : Int} {i2 : Int32} {qi2 : Int} (hS : Sh L xs P S) (hM : qM P S = M) (ei1 : i1.toInt = qi1) (ei2 : i2.toInt = qi2) : qs (zf_X14_act 20000 2208 i1 i2 S) (qf_X14_act 20000 qi1 qi2 M) (tO (rp L xs P M vi)) := by
  unfold zf_X14_act qf_X14_act
  refine qs_ite (c_eq ei2 k_0) ?_ ?_
  · refine qs_gr hS pl_2208 ts_2208 rfl ?_
    refine qs_gd (fun g6856 => ?_)
    refine qs_xi hM (pa_p hS pl_2227 ts_2227) ei1 g6856 (fun v6855 h6855 => ?_)
    exact qs_tp (show vi _ _ from h6855) hS hM
  · refine qs_ite (c_eq ei2 k_1) ?_ ?_
    · refine qs_gr hS pl_2208 ts_2208 rfl ?_
      refine qs_gd (fun g6859 => ?_)
      refine qs_xi hM (pa_p hS pl_2228 ts_2228) ei1 g6859 (fun v6858 h6858 => ?_)
      exact qs_tp (show vi _ _ from h6858) hS hM
    · refine qs_ite (c_eq ei2 k_2) ?_ ?_
      · refine qs_gr hS pl_2208 ts_2208 rfl ?_
        refine qs_gd (fun g6862 => ?_)
        refine qs_xi hM (pa_p hS pl_2220 ts_2220) ei1 g6862 (fun v6861 h6861 => ?_)
        exact qs_tp (show vi _ _ from h6861) hS hM
      · refine qs_ite (c_eq ei2 k_3) ?_ ?_
        · refine qs_gr hS pl_2208 ts_2208 rfl ?_
          refine qs_gd (fun g6865 => ?_)
          refine qs_xi hM (pa_p hS pl_2221 ts_2221) ei1 g6865 (fun v6864 h6864 => ?_)
          exact qs_tp (show vi _ _ from h6864) hS hM
        · refine qs_ite (c_eq ei2 k_4) ?_ ?_
          · refine qs_gr hS pl_2208 ts_2208 rfl ?_
            refine qs_gd (fun g6868 => ?_)
            refine qs_xi hM (pa_p hS pl_2222 ts_2222) ei1 g6868 (fun v6867 h6867 => ?_)
            exact qs_tp (show vi _ _ from h6867) hS hM
          · refine qs_gr hS pl_2208 ts_2208 rfl ?_
            refine qs_gd (fun g6871 => ?_)
            refine qs_xi hM (pa_p hS pl_2223 ts_2223) ei1 g6871 (fun v6870 h6870 => ?_)
            refine qs_ite (c_eq h6870 k_0) ?_ ?_
            · exact qs_tp (show vi _ _ from k_0) hS hM
            · exact qs_tp (show vi _ _ from k_1) hS hM
set_option maxRecDepth 20000 in
theorem qz_X18_act_J36 {P : Nat → Nat} {S : zm_S} {M : qm} {i1 : Int32} {qi1 : Int} {i2 : Int32} {qi2 : Int} {t1 : Int32} {qt1 : Int} (hS : Sh L xs P S) (hM : qM P S = M) (ei1 : i1.toInt = qi1) (ei2 : i2.toInt = qi2) (et1 : t1.toInt = qt1) : qs (zf_X18_act_J36 20000 2156 i1 i2 2156 t1 S) (qf_X18_act_J36 20000 qi1 qi2 qt1 M) (tO (rr L xs P vi)) := by
  unfold zf_X18_act_J36 qf_X18_act_J36
  refine qs_gi hS hM pl_2156 ts_2156 (z := 1) rfl rfl (fun v6872 h6872 => ?_)
  refine qs_zi hS pl_2156 ts_2156 ?_
  refine qs_b (qz_X18_goes hS hM et1 h6872) (fun v6874 S6874 w6874 M6874 h6874 hS6874 hM6874 => ?_)
  refine qs_ite (c_eq h6874 k_0) ?_ ?_
  · exact qs_tr (show vi _ _ from k_0) hS6874 hM6874
  · refine qs_gr hS6874 pl_2156 ts_2156 rfl ?_
    refine qs_zi hS6874 pl_2208 ts_2208 ?_
    refine qs_bp (qz_X14_act hS6874 hM6874 ei1 ei2) (fun v6877 S6877 w6877 h6877 hS6877 hM6877 => ?_)
    exact qs_tr (show vi _ _ from h6877) hS6877 hM6877
set_option maxRecDepth 20000 in
theorem qz_X18_act_J35 {P : Nat → Nat} {S : zm_S} {M : qm} {i1 : Int32} {qi1 : Int} {i2 : Int32} {qi2 : Int} (hS : Sh L xs P S) (hM : qM P S = M) (ei1 : i1.toInt = qi1) (ei2 : i2.toInt = qi2) : qs (zf_X18_act_J35 20000 2156 i1 i2 2156 S) (qf_X18_act_J35 20000 qi1 qi2 M) (tO (rr L xs P vi)) := by
  unfold zf_X18_act_J35 qf_X18_act_J35
  exact (qz_X18_act_J36 hS hM ei1 ei2 k_0)
set_option maxRecDepth 20000 in
theorem qz_X18_act {P : Nat → Nat} {S : zm_S} {M : qm} {i1 : Int32} {qi1 : Int} {i2 : Int32} {qi2 : Int} (hS : Sh L xs P S) (hM : qM P S = M) (ei1 : i1.toInt = qi1) (ei2 : i2.toInt = qi2) : qs (zf_X18_act 20000 2156 i1 i2 S) (qf_X18_act 20000 qi1 qi2 M) (tO (rr L xs P vi)) := by
  unfold zf_X18_act qf_X18_act
  refine qs_bp (qz_X18_isIn hS hM ei1 k_20) (fun v6878 S6878 w6878 h6878 hS6878 hM6878 => ?_)
  refine qs_ite (c_eq h6878 k_0) ?_ ?_
  · exact (qz_X18_act_J35 hS6878 hM6878 ei1 ei2)
  · refine qs_gr hS6878 pl_2156 ts_2156 rfl ?_
    refine qs_gr hS6878 pl_2208 ts_2208 rfl ?_
    refine qs_gd (fun g6882 => ?_)
    refine qs_xi hM6878 (pa_p hS6878 pl_2219 ts_2219) ei1 g6882 (fun v6881 h6881 => ?_)
    refine qs_ite (c_eq h6881 k_0) ?_ ?_
    · exact (qz_X18_act_J35 hS6878 hM6878 ei1 ei2)
    · refine qs_bp (qz_X18_isIn hS6878 hM6878 ei2 k_6) (fun v6883 S6883 w6883 h6883 hS6883 hM6883 => ?_)
      refine qs_ite (c_eq h6883 k_0) ?_ ?_
      · exact (qz_X18_act_J35 hS6883 hM6883 ei1 ei2)
      · exact (qz_X18_act_J36 hS6883 hM6883 ei1 ei2 k_1)
set_option maxRecDepth 20000 in
theorem qz_X4_zoneFact {P : Nat → Nat} {S : zm_S} {M : qm} {i1 : Int32} {qi1 : Int} {i2 : Int32} {qi2 : Int} {i3 : Int32} {qi3 : Int} (hS : Sh L xs P S) (hM : qM P S = M) (ei1 : i1.toInt = qi1) (ei2 : i2.toInt = qi2) (ei3 : i3.toInt = qi3) : qs (zf_X4_zoneFact 20000 1172 i1 i2 i3 S) (qf_X4_zoneFact 20000 qi1 qi2 qi3 M) (tO (rp L xs P M vi)) := by
  unfold zf_X4_zoneFact qf_X4_zoneFact
  refine qs_zi hS pl_1172 ts_1172 ?_
  refine qs_bp (qz_X4_countOn hS hM ei1 ei3) (fun v6885 S6885 w6885 h6885 hS6885 hM6885 => ?_)
  refine qs_ite (z_eq ei2) ?_ ?_
  · refine qs_gr hS6885 pl_1172 ts_1172 rfl ?_
    refine qs_gd (fun g6888 => ?_)
    refine qs_xt hS6885 pl_1176 ts_1176 (Or.inl rfl) ei1 g6888 (fun b6887 r6887 => ?_)
    refine qs_yi (j := 0) hS6885 hM6885 qt_1176 tq_1176 r6887 k_0 (by decide) (fun v6889 h6889 => ?_)
    refine qs_ite (c_lt h6885 h6889) ?_ ?_
    · exact qs_tp (show vi _ _ from k_0) hS6885 hM6885
    · exact qs_tp (show vi _ _ from k_1) hS6885 hM6885
  · refine qs_ite (z_eq ei2) ?_ ?_
    · refine qs_zi hS6885 pl_1172 ts_1172 ?_
      refine qs_bp (qz_X4_countAsked hS6885 hM6885 ei1 ei3) (fun v6891 S6891 w6891 h6891 hS6891 hM6891 => ?_)
      refine qs_zi hS6891 pl_1172 ts_1172 ?_
      refine qs_bp (qz_X4_isSure hS6891 hM6891 h6885 h6891) (fun v6893 S6893 w6893 h6893 hS6893 hM6893 => ?_)
      refine qs_ite (c_eq h6893 k_0) ?_ ?_
      · exact qs_tp (show vi _ _ from k_0) hS6893 hM6893
      · exact qs_tp (show vi _ _ from k_1) hS6893 hM6893
    · refine qs_ite (z_eq ei2) ?_ ?_
      · refine qs_gr hS6885 pl_1172 ts_1172 rfl ?_
        refine qs_gd (fun g6896 => ?_)
        refine qs_xt hS6885 pl_1176 ts_1176 (Or.inl rfl) ei1 g6896 (fun b6895 r6895 => ?_)
        refine qs_yi (j := 0) hS6885 hM6885 qt_1176 tq_1176 r6895 k_0 (by decide) (fun v6897 h6897 => ?_)
        exact qs_tp (show vi _ _ from h6897) hS6885 hM6885
      · exact qs_tp (show vi _ _ from h6885) hS6885 hM6885
set_option maxRecDepth 20000 in
theorem qz_X11_zone_J25 {P : Nat → Nat} {S : zm_S} {M : qm} {i1 : Int32} {qi1 : Int} {i2 : Int32} {qi2 : Int} {t0 : Int32} {qt0 : Int} (hS : Sh L xs P S) (hM : qM P S = M) (ei1 : i1.toInt = qi1) (ei2 : i2.toInt = qi2) (et0 : t0.toInt = qt0) : qs (zf_X11_zone_J25 20000 6 i1 i2 t0 S) (qf_X11_zone_J25 20000 qi1 qi2 qt0 M) (tO (rp L xs P M (vs vi ve))) := by
  unfold zf_X11_zone_J25 qf_X11_zone_J25
  refine qs_xp (qz_X11_needArgument hS hM et0) ?_ ?_
  · intro v6899 S6899 w6899 h6899 hS6899 hM6899
    dsimp only
    refine qs_gi hS6899 hM6899 pl_6 ts_6 (z := 11) rfl rfl (fun v6900 h6900 => ?_)
    refine qs_xp (qz_X11_needState hS6899 hM6899 h6900) ?_ ?_
    · intro v6902 S6902 w6902 h6902 hS6902 hM6902
      dsimp only
      refine qs_gr hS6902 pl_6 ts_6 rfl ?_
      refine qs_gi hS6902 hM6902 pl_6 ts_6 (z := 12) rfl rfl (fun v6904 h6904 => ?_)
      refine qs_zi hS6902 pl_1172 ts_1172 ?_
      refine qs_bp (qz_X4_zoneFact hS6902 hM6902 ei1 ei2 h6904) (fun v6906 S6906 w6906 h6906 hS6906 hM6906 => ?_)
      exact qs_tp (show (vs vi ve) _ _ from h6906) hS6906 hM6906
    · intro v6902 S6902 hS6902 hM6902
      dsimp only
      exact qs_tp (show (vs vi ve) _ _ from rfl) hS6902 hM6902
  · intro v6899 S6899 hS6899 hM6899
    dsimp only
    exact qs_tp (show (vs vi ve) _ _ from rfl) hS6899 hM6899
set_option maxRecDepth 20000 in
theorem qz_X11_zone_J24 {P : Nat → Nat} {S : zm_S} {M : qm} {i1 : Int32} {qi1 : Int} {i2 : Int32} {qi2 : Int} (hS : Sh L xs P S) (hM : qM P S = M) (ei1 : i1.toInt = qi1) (ei2 : i2.toInt = qi2) : qs (zf_X11_zone_J24 20000 6 i1 i2 S) (qf_X11_zone_J24 20000 qi1 qi2 M) (tO (rp L xs P M (vs vi ve))) := by
  unfold zf_X11_zone_J24 qf_X11_zone_J24
  exact (qz_X11_zone_J25 hS hM ei1 ei2 k_0)
set_option maxRecDepth 20000 in
theorem qz_X11_zone {P : Nat → Nat} {S : zm_S} {M : qm} {i1 : Int32} {qi1 : Int} {i2 : Int32} {qi2 : Int} (hS : Sh L xs P S) (hM : qM P S = M) (ei1 : i1.toInt = qi1) (ei2 : i2.toInt = qi2) : qs (zf_X11_zone 20000 6 i1 i2 S) (qf_X11_zone 20000 qi1 qi2 M) (tO (rp L xs P M (vs vi ve))) := by
  unfold zf_X11_zone qf_X11_zone
  refine qs_gr hS pl_6 ts_6 rfl ?_
  refine qs_zi hS pl_1172 ts_1172 ?_
  refine qs_bp (qz_X4_isZone hS hM ei1) (fun v6909 S6909 w6909 h6909 hS6909 hM6909 => ?_)
  refine qs_ite (c_eq h6909 k_0) ?_ ?_
  · exact (qz_X11_zone_J24 hS6909 hM6909 ei1 ei2)
  · refine qs_bp (qz_X11_isWithin hS6909 hM6909 ei2 k_0 k_3) (fun v6910 S6910 w6910 h6910 hS6910 hM6910 => ?_)
    refine qs_ite (c_eq h6910 k_0) ?_ ?_
    · exact (qz_X11_zone_J24 hS6910 hM6910 ei1 ei2)
    · exact (qz_X11_zone_J25 hS6910 hM6910 ei1 ei2 k_1)
set_option maxRecDepth 20000 in
theorem qz_L_zone {P : Nat → Nat} {S : zm_S} {M : qm} {i1 : Int32} {qi1 : Int} {i2 : Int32} {qi2 : Int} (hS : Sh L xs P S) (hM : qM P S = M) (ei1 : i1.toInt = qi1) (ei2 : i2.toInt = qi2) : qs (zf_L_zone 20000 6 i1 i2 2332 S) (qf_L_zone 20000 qi1 qi2 M) (tO (rr L xs P vi)) := by
  unfold zf_L_zone qf_L_zone
  refine qs_zi hS pl_6 ts_6 ?_
  refine qs_xp (qz_X11_zone hS hM ei1 ei2) ?_ ?_
  · intro v6913 S6913 w6913 h6913 hS6913 hM6913
    dsimp only
    refine qs_sl hS6913 hM6913 (pa_p hS6913 pl_2332 ts_2332) k_0 (by decide) (p_64 h6913) (fun S6914 M6914 hS6914 hM6914 => ?_)
    exact qs_tr (show vi _ _ from k_0) hS6914 hM6914
  · intro v6913 S6913 hS6913 hM6913
    dsimp only
    refine qs_ite Iff.rfl ?_ ?_
    · exact qs_tr (show vi _ _ from k_1) hS6913 hM6913
    · refine qs_ite Iff.rfl ?_ ?_
      · exact qs_tr (show vi _ _ from k_2) hS6913 hM6913
      · exact qs_none
set_option maxRecDepth 20000 in
theorem qz_X18_zone_J35 {P : Nat → Nat} {S : zm_S} {M : qm} {i1 : Int32} {qi1 : Int} {i2 : Int32} {qi2 : Int} {t1 : Int32} {qt1 : Int} (hS : Sh L xs P S) (hM : qM P S = M) (ei1 : i1.toInt = qi1) (ei2 : i2.toInt = qi2) (et1 : t1.toInt = qt1) : qs (zf_X18_zone_J35 20000 2156 i1 i2 2156 t1 S) (qf_X18_zone_J35 20000 qi1 qi2 qt1 M) (tO (rr L xs P vi)) := by
  unfold zf_X18_zone_J35 qf_X18_zone_J35
  refine qs_gi hS hM pl_2156 ts_2156 (z := 1) rfl rfl (fun v6915 h6915 => ?_)
  refine qs_zi hS pl_2156 ts_2156 ?_
  refine qs_b (qz_X18_goes hS hM et1 h6915) (fun v6917 S6917 w6917 M6917 h6917 hS6917 hM6917 => ?_)
  refine qs_ite (c_eq h6917 k_0) ?_ ?_
  · exact qs_tr (show vi _ _ from k_0) hS6917 hM6917
  · refine qs_ite (c_eq ei2 k_0) ?_ ?_
    · refine qs_gr hS6917 pl_2156 ts_2156 rfl ?_
      refine qs_zi hS6917 pl_2208 ts_2208 ?_
      refine qs_bp (qz_X14_isOn hS6917 hM6917 ei1) (fun v6920 S6920 w6920 h6920 hS6920 hM6920 => ?_)
      refine qs_ite (c_eq h6920 k_0) ?_ ?_
      · exact qs_tr (show vi _ _ from k_0) hS6920 hM6920
      · exact qs_tr (show vi _ _ from k_1) hS6920 hM6920
    · refine qs_ite (c_eq ei2 k_1) ?_ ?_
      · refine qs_gr hS6917 pl_2156 ts_2156 rfl ?_
        refine qs_zi hS6917 pl_2208 ts_2208 ?_
        refine qs_bp (qz_X14_isSure hS6917 hM6917 ei1) (fun v6923 S6923 w6923 h6923 hS6923 hM6923 => ?_)
        refine qs_ite (c_eq h6923 k_0) ?_ ?_
        · exact qs_tr (show vi _ _ from k_0) hS6923 hM6923
        · exact qs_tr (show vi _ _ from k_1) hS6923 hM6923
      · refine qs_ite (c_eq ei2 k_2) ?_ ?_
        · refine qs_gr hS6917 pl_2156 ts_2156 rfl ?_
          refine qs_gr hS6917 pl_2208 ts_2208 rfl ?_
          refine qs_gd (fun g6927 => ?_)
          refine qs_xi hM6917 (pa_p hS6917 pl_2216 ts_2216) ei1 g6927 (fun v6926 h6926 => ?_)
          exact qs_tr (show vi _ _ from h6926) hS6917 hM6917
        · refine qs_gr hS6917 pl_2156 ts_2156 rfl ?_
          refine qs_zi hS6917 pl_2208 ts_2208 ?_
          refine qs_bp (qz_X14_ofZone hS6917 hM6917 ei1 k_1) (fun v6930 S6930 w6930 h6930 hS6930 hM6930 => ?_)
          exact qs_tr (show vi _ _ from h6930) hS6930 hM6930
set_option maxRecDepth 20000 in
theorem qz_X18_zone_J34 {P : Nat → Nat} {S : zm_S} {M : qm} {i1 : Int32} {qi1 : Int} {i2 : Int32} {qi2 : Int} (hS : Sh L xs P S) (hM : qM P S = M) (ei1 : i1.toInt = qi1) (ei2 : i2.toInt = qi2) : qs (zf_X18_zone_J34 20000 2156 i1 i2 2156 S) (qf_X18_zone_J34 20000 qi1 qi2 M) (tO (rr L xs P vi)) := by
  unfold zf_X18_zone_J34 qf_X18_zone_J34
  exact (qz_X18_zone_J35 hS hM ei1 ei2 k_0)
set_option maxRecDepth 20000 in
theorem qz_X18_zone {P : Nat → Nat} {S : zm_S} {M : qm} {i1 : Int32} {qi1 : Int} {i2 : Int32} {qi2 : Int} (hS : Sh L xs P S) (hM : qM P S = M) (ei1 : i1.toInt = qi1) (ei2 : i2.toInt = qi2) : qs (zf_X18_zone 20000 2156 i1 i2 S) (qf_X18_zone 20000 qi1 qi2 M) (tO (rr L xs P vi)) := by
  unfold zf_X18_zone qf_X18_zone
  refine qs_bp (qz_X18_isIn hS hM ei1 k_20) (fun v6931 S6931 w6931 h6931 hS6931 hM6931 => ?_)
  refine qs_ite (c_eq h6931 k_0) ?_ ?_
  · exact (qz_X18_zone_J34 hS6931 hM6931 ei1 ei2)
  · refine qs_gr hS6931 pl_2156 ts_2156 rfl ?_
    refine qs_gr hS6931 pl_2208 ts_2208 rfl ?_
    refine qs_gd (fun g6935 => ?_)
    refine qs_xi hM6931 (pa_p hS6931 pl_2215 ts_2215) ei1 g6935 (fun v6934 h6934 => ?_)
    refine qs_ite (c_eq h6934 k_0) ?_ ?_
    · exact (qz_X18_zone_J34 hS6931 hM6931 ei1 ei2)
    · refine qs_bp (qz_X18_isIn hS6931 hM6931 ei2 k_4) (fun v6936 S6936 w6936 h6936 hS6936 hM6936 => ?_)
      refine qs_ite (c_eq h6936 k_0) ?_ ?_
      · exact (qz_X18_zone_J34 hS6936 hM6936 ei1 ei2)
      · exact (qz_X18_zone_J35 hS6936 hM6936 ei1 ei2 k_1)
set_option maxRecDepth 20000 in
theorem qz_X4_keptEvents {P : Nat → Nat} {S : zm_S} {M : qm}  (hS : Sh L xs P S) (hM : qM P S = M)  : qs (zf_X4_keptEvents 20000 1172 S) (qf_X4_keptEvents 20000 M) (tO (rp L xs P M vi)) := by
  unfold zf_X4_keptEvents qf_X4_keptEvents
  refine qs_gi hS hM pl_1172 ts_1172 (z := 17) rfl rfl (fun v6937 h6937 => ?_)
  exact qs_tp (show vi _ _ from (p_min h6937 k_60)) hS hM
set_option maxRecDepth 20000 in
theorem qz_X4_eventFact {P : Nat → Nat} {S : zm_S} {M : qm} {i1 : Int32} {qi1 : Int} {i2 : Int32} {qi2 : Int} (hS : Sh L xs P S) (hM : qM P S = M) (ei1 : i1.toInt = qi1) (ei2 : i2.toInt = qi2) : qs (zf_X4_eventFact 20000 1172 i1 i2 S) (qf_X4_eventFact 20000 qi1 qi2 M) (tO (rp L xs P M vi)) := by
  unfold zf_X4_eventFact qf_X4_eventFact
  refine qs_gr hS pl_1172 ts_1172 rfl ?_
  refine qs_gi hS hM pl_1172 ts_1172 (z := 17) rfl rfl (fun v6939 h6939 => ?_)
  refine qs_gd (fun g6941 => ?_)
  refine qs_xt hS pl_1276 ts_1276 (Or.inl rfl) (p_mod (p_sub (p_sub h6939 k_1) ei1) k_60) g6941 (fun b6940 r6940 => ?_)
  refine qs_gd (fun g6943 => ?_)
  refine qs_yi hS hM qt_1276 tq_1276 r6940 ei2 g6943 (fun v6942 h6942 => ?_)
  exact qs_tp (show vi _ _ from h6942) hS hM
set_option maxRecDepth 20000 in
theorem qz_X11_event_J31 {P : Nat → Nat} {S : zm_S} {M : qm} {i1 : Int32} {qi1 : Int} {i2 : Int32} {qi2 : Int} {t0 : Int32} {qt0 : Int} (hS : Sh L xs P S) (hM : qM P S = M) (ei1 : i1.toInt = qi1) (ei2 : i2.toInt = qi2) (et0 : t0.toInt = qt0) : qs (zf_X11_event_J31 20000 6 i1 i2 t0 S) (qf_X11_event_J31 20000 qi1 qi2 qt0 M) (tO (rp L xs P M (vs vi ve))) := by
  unfold zf_X11_event_J31 qf_X11_event_J31
  refine qs_xp (qz_X11_needArgument hS hM et0) ?_ ?_
  · intro v6945 S6945 w6945 h6945 hS6945 hM6945
    dsimp only
    refine qs_gi hS6945 hM6945 pl_6 ts_6 (z := 11) rfl rfl (fun v6946 h6946 => ?_)
    refine qs_xp (qz_X11_needState hS6945 hM6945 h6946) ?_ ?_
    · intro v6948 S6948 w6948 h6948 hS6948 hM6948
      dsimp only
      refine qs_gr hS6948 pl_6 ts_6 rfl ?_
      refine qs_zi hS6948 pl_1172 ts_1172 ?_
      refine qs_bp (qz_X4_eventFact hS6948 hM6948 ei1 ei2) (fun v6951 S6951 w6951 h6951 hS6951 hM6951 => ?_)
      exact qs_tp (show (vs vi ve) _ _ from h6951) hS6951 hM6951
    · intro v6948 S6948 hS6948 hM6948
      dsimp only
      exact qs_tp (show (vs vi ve) _ _ from rfl) hS6948 hM6948
  · intro v6945 S6945 hS6945 hM6945
    dsimp only
    exact qs_tp (show (vs vi ve) _ _ from rfl) hS6945 hM6945
set_option maxRecDepth 20000 in
theorem qz_X11_event_J30 {P : Nat → Nat} {S : zm_S} {M : qm} {i1 : Int32} {qi1 : Int} {i2 : Int32} {qi2 : Int} (hS : Sh L xs P S) (hM : qM P S = M) (ei1 : i1.toInt = qi1) (ei2 : i2.toInt = qi2) : qs (zf_X11_event_J30 20000 6 i1 i2 S) (qf_X11_event_J30 20000 qi1 qi2 M) (tO (rp L xs P M (vs vi ve))) := by
  unfold zf_X11_event_J30 qf_X11_event_J30
  exact (qz_X11_event_J31 hS hM ei1 ei2 k_0)
set_option maxRecDepth 20000 in
theorem qz_X11_event {P : Nat → Nat} {S : zm_S} {M : qm} {i1 : Int32} {qi1 : Int} {i2 : Int32} {qi2 : Int} (hS : Sh L xs P S) (hM : qM P S = M) (ei1 : i1.toInt = qi1) (ei2 : i2.toInt = qi2) : qs (zf_X11_event 20000 6 i1 i2 S) (qf_X11_event 20000 qi1 qi2 M) (tO (rp L xs P M (vs vi ve))) := by
  unfold zf_X11_event qf_X11_event
  refine qs_gr hS pl_6 ts_6 rfl ?_
  refine qs_zi hS pl_1172 ts_1172 ?_
  refine qs_bp (qz_X4_keptEvents hS hM ) (fun v6954 S6954 w6954 h6954 hS6954 hM6954 => ?_)
  refine qs_bp (qz_X11_isWithin hS6954 hM6954 ei1 k_0 (p_sub h6954 k_1)) (fun v6955 S6955 w6955 h6955 hS6955 hM6955 => ?_)
  refine qs_ite (c_eq h6955 k_0) ?_ ?_
  · exact (qz_X11_event_J30 hS6955 hM6955 ei1 ei2)
  · refine qs_bp (qz_X11_isWithin hS6955 hM6955 ei2 k_0 k_2) (fun v6956 S6956 w6956 h6956 hS6956 hM6956 => ?_)
    refine qs_ite (c_eq h6956 k_0) ?_ ?_
    · exact (qz_X11_event_J30 hS6956 hM6956 ei1 ei2)
    · exact (qz_X11_event_J31 hS6956 hM6956 ei1 ei2 k_1)
set_option maxRecDepth 20000 in
theorem qz_L_event {P : Nat → Nat} {S : zm_S} {M : qm} {i1 : Int32} {qi1 : Int} {i2 : Int32} {qi2 : Int} (hS : Sh L xs P S) (hM : qM P S = M) (ei1 : i1.toInt = qi1) (ei2 : i2.toInt = qi2) : qs (zf_L_event 20000 6 i1 i2 2332 S) (qf_L_event 20000 qi1 qi2 M) (tO (rr L xs P vi)) := by
  unfold zf_L_event qf_L_event
  refine qs_zi hS pl_6 ts_6 ?_
  refine qs_xp (qz_X11_event hS hM ei1 ei2) ?_ ?_
  · intro v6959 S6959 w6959 h6959 hS6959 hM6959
    dsimp only
    refine qs_sl hS6959 hM6959 (pa_p hS6959 pl_2332 ts_2332) k_0 (by decide) (p_64 h6959) (fun S6960 M6960 hS6960 hM6960 => ?_)
    exact qs_tr (show vi _ _ from k_0) hS6960 hM6960
  · intro v6959 S6959 hS6959 hM6959
    dsimp only
    refine qs_ite Iff.rfl ?_ ?_
    · exact qs_tr (show vi _ _ from k_1) hS6959 hM6959
    · refine qs_ite Iff.rfl ?_ ?_
      · exact qs_tr (show vi _ _ from k_2) hS6959 hM6959
      · exact qs_none
set_option maxRecDepth 20000 in
theorem qz_X14_event {P : Nat → Nat} {S : zm_S} {M : qm} {i1 : Int32} {qi1 : Int} {i2 : Int32} {qi2 : Int} (hS : Sh L xs P S) (hM : qM P S = M) (ei1 : i1.toInt = qi1) (ei2 : i2.toInt = qi2) : qs (zf_X14_event 20000 2208 i1 i2 S) (qf_X14_event 20000 qi1 qi2 M) (tO (rp L xs P M vi)) := by
  unfold zf_X14_event qf_X14_event
  refine qs_gi hS hM pl_2208 ts_2208 (z := 30) rfl rfl (fun v6961 h6961 => ?_)
  refine qs_ite (c_eq ei2 k_0) ?_ ?_
  · refine qs_gr hS pl_2208 ts_2208 rfl ?_
    refine qs_gd (fun g6964 => ?_)
    refine qs_xi hM (pa_p hS pl_2231 ts_2231) (p_sub (p_sub h6961 k_1) ei1) g6964 (fun v6963 h6963 => ?_)
    exact qs_tp (show vi _ _ from h6963) hS hM
  · refine qs_ite (c_eq ei2 k_1) ?_ ?_
    · refine qs_gr hS pl_2208 ts_2208 rfl ?_
      refine qs_gd (fun g6967 => ?_)
      refine qs_xi hM (pa_p hS pl_2232 ts_2232) (p_sub (p_sub h6961 k_1) ei1) g6967 (fun v6966 h6966 => ?_)
      exact qs_tp (show vi _ _ from h6966) hS hM
    · refine qs_gr hS pl_2208 ts_2208 rfl ?_
      refine qs_gd (fun g6970 => ?_)
      refine qs_xi hM (pa_p hS pl_2233 ts_2233) (p_sub (p_sub h6961 k_1) ei1) g6970 (fun v6969 h6969 => ?_)
      exact qs_tp (show vi _ _ from h6969) hS hM
set_option maxRecDepth 20000 in
theorem qz_X18_event_J28 {P : Nat → Nat} {S : zm_S} {M : qm} {i1 : Int32} {qi1 : Int} {i2 : Int32} {qi2 : Int} {t1 : Int32} {qt1 : Int} (hS : Sh L xs P S) (hM : qM P S = M) (ei1 : i1.toInt = qi1) (ei2 : i2.toInt = qi2) (et1 : t1.toInt = qt1) : qs (zf_X18_event_J28 20000 2156 i1 i2 2156 t1 S) (qf_X18_event_J28 20000 qi1 qi2 qt1 M) (tO (rr L xs P vi)) := by
  unfold zf_X18_event_J28 qf_X18_event_J28
  refine qs_gi hS hM pl_2156 ts_2156 (z := 1) rfl rfl (fun v6971 h6971 => ?_)
  refine qs_zi hS pl_2156 ts_2156 ?_
  refine qs_b (qz_X18_goes hS hM et1 h6971) (fun v6973 S6973 w6973 M6973 h6973 hS6973 hM6973 => ?_)
  refine qs_ite (c_eq h6973 k_0) ?_ ?_
  · exact qs_tr (show vi _ _ from k_0) hS6973 hM6973
  · refine qs_gr hS6973 pl_2156 ts_2156 rfl ?_
    refine qs_zi hS6973 pl_2208 ts_2208 ?_
    refine qs_bp (qz_X14_event hS6973 hM6973 ei1 ei2) (fun v6976 S6976 w6976 h6976 hS6976 hM6976 => ?_)
    exact qs_tr (show vi _ _ from h6976) hS6976 hM6976
set_option maxRecDepth 20000 in
theorem qz_X18_event_J27 {P : Nat → Nat} {S : zm_S} {M : qm} {i1 : Int32} {qi1 : Int} {i2 : Int32} {qi2 : Int} (hS : Sh L xs P S) (hM : qM P S = M) (ei1 : i1.toInt = qi1) (ei2 : i2.toInt = qi2) : qs (zf_X18_event_J27 20000 2156 i1 i2 2156 S) (qf_X18_event_J27 20000 qi1 qi2 M) (tO (rr L xs P vi)) := by
  unfold zf_X18_event_J27 qf_X18_event_J27
  exact (qz_X18_event_J28 hS hM ei1 ei2 k_0)
set_option maxRecDepth 20000 in
theorem qz_X18_event {P : Nat → Nat} {S : zm_S} {M : qm} {i1 : Int32} {qi1 : Int} {i2 : Int32} {qi2 : Int} (hS : Sh L xs P S) (hM : qM P S = M) (ei1 : i1.toInt = qi1) (ei2 : i2.toInt = qi2) : qs (zf_X18_event 20000 2156 i1 i2 S) (qf_X18_event 20000 qi1 qi2 M) (tO (rr L xs P vi)) := by
  unfold zf_X18_event qf_X18_event
  refine qs_gr hS pl_2156 ts_2156 rfl ?_
  refine qs_gi hS hM pl_2208 ts_2208 (z := 30) rfl rfl (fun v6978 h6978 => ?_)
  refine qs_bp (qz_X18_isIn hS hM ei1 h6978) (fun v6979 S6979 w6979 h6979 hS6979 hM6979 => ?_)
  refine qs_ite (c_eq h6979 k_0) ?_ ?_
  · exact (qz_X18_event_J27 hS6979 hM6979 ei1 ei2)
  · refine qs_bp (qz_X18_isIn hS6979 hM6979 ei2 k_3) (fun v6980 S6980 w6980 h6980 hS6980 hM6980 => ?_)
    refine qs_ite (c_eq h6980 k_0) ?_ ?_
    · exact (qz_X18_event_J27 hS6980 hM6980 ei1 ei2)
    · exact (qz_X18_event_J28 hS6980 hM6980 ei1 ei2 k_1)
set_option maxRecDepth 20000 in
theorem qz_X9_addBlock {P : Nat → Nat} {S : zm_S} {M : qm} {i1 : Int32} {qi1 : Int} (hS : Sh L xs P S) (hM : qM P S = M) (ei1 : i1.toInt = qi1) : qs (zf_X9_addBlock 20000 1003 i1 S) (qf_X9_addBlock 20000 qi1 M) (tO (rr L xs P vi)) := by
  unfold zf_X9_addBlock qf_X9_addBlock
  refine qs_gi hS hM pl_1003 ts_1003 (z := 0) rfl rfl (fun v6981 h6981 => ?_)
  refine qs_ite (c_lt h6981 k_40) ?_ ?_
  · refine qs_gr hS pl_1003 ts_1003 rfl ?_
    refine qs_gi hS hM pl_1003 ts_1003 (z := 0) rfl rfl (fun v6983 h6983 => ?_)
    refine qs_gd (fun g6985 => ?_)
    refine qs_si hS hM (pa_p hS pl_1004 ts_1004) h6983 g6985 ei1 (fun S6984 M6984 hS6984 hM6984 => ?_)
    refine qs_gr hS6984 pl_1003 ts_1003 rfl ?_
    refine qs_gi hS6984 hM6984 pl_1003 ts_1003 (z := 0) rfl rfl (fun v6987 h6987 => ?_)
    refine qs_gd (fun g6989 => ?_)
    refine qs_xt hS6984 pl_1008 ts_1008 (Or.inl rfl) h6987 g6989 (fun b6988 r6988 => ?_)
    refine qs_fyi hS6984 hM6984 qt_1008 tq_1008 r6988 (by decide) k_m1 (fun S6990 M6990 hS6990 hM6990 => ?_)
    refine qs_gr hS6990 pl_1003 ts_1003 rfl ?_
    refine qs_gi hS6990 hM6990 pl_1003 ts_1003 (z := 0) rfl rfl (fun v6992 h6992 => ?_)
    refine qs_gd (fun g6994 => ?_)
    refine qs_si hS6990 hM6990 (pa_p hS6990 pl_1134 ts_1134) h6992 g6994 k_m1 (fun S6993 M6993 hS6993 hM6993 => ?_)
    refine qs_pi hS6993 hM6993 pl_1003 ts_1003 (z := 13) rfl rfl k_0 (fun S6995 M6995 hS6995 hM6995 => ?_)
    refine qs_gi hS6995 hM6995 pl_1003 ts_1003 (z := 0) rfl rfl (fun v6996 h6996 => ?_)
    refine qs_pi hS6995 hM6995 pl_1003 ts_1003 (z := 0) rfl rfl (p_add h6996 k_1) (fun S6997 M6997 hS6997 hM6997 => ?_)
    refine qs_gi hS6997 hM6997 pl_1003 ts_1003 (z := 0) rfl rfl (fun v6998 h6998 => ?_)
    exact qs_tr (show vi _ _ from (p_sub h6998 k_1)) hS6997 hM6997
  · exact qs_tr (show vi _ _ from k_m1) hS hM
set_option maxRecDepth 20000 in
theorem qz_X11_block_J34 {P : Nat → Nat} {S : zm_S} {M : qm} {i1 : Int32} {qi1 : Int} {t0 : Int32} {qt0 : Int} (hS : Sh L xs P S) (hM : qM P S = M) (ei1 : i1.toInt = qi1) (et0 : t0.toInt = qt0) : qs (zf_X11_block_J34 20000 6 i1 t0 S) (qf_X11_block_J34 20000 qi1 qt0 M) (tO (rr L xs P (vs vi ve))) := by
  unfold zf_X11_block_J34 qf_X11_block_J34
  refine qs_xp (qz_X11_needState hS hM et0) ?_ ?_
  · intro v7000 S7000 w7000 h7000 hS7000 hM7000
    dsimp only
    refine qs_gr hS7000 pl_6 ts_6 rfl ?_
    refine qs_zi hS7000 pl_1003 ts_1003 ?_
    refine qs_b (qz_X9_addBlock hS7000 hM7000 ei1) (fun v7003 S7003 w7003 M7003 h7003 hS7003 hM7003 => ?_)
    exact qs_tr (show (vs vi ve) _ _ from h7003) hS7003 hM7003
  · intro v7000 S7000 hS7000 hM7000
    dsimp only
    exact qs_tr (show (vs vi ve) _ _ from rfl) hS7000 hM7000
set_option maxRecDepth 20000 in
theorem qz_X11_block_J33 {P : Nat → Nat} {S : zm_S} {M : qm} {i1 : Int32} {qi1 : Int} (hS : Sh L xs P S) (hM : qM P S = M) (ei1 : i1.toInt = qi1) : qs (zf_X11_block_J33 20000 6 i1 S) (qf_X11_block_J33 20000 qi1 M) (tO (rr L xs P (vs vi ve))) := by
  unfold zf_X11_block_J33 qf_X11_block_J33
  exact (qz_X11_block_J34 hS hM ei1 k_0)
set_option maxRecDepth 20000 in
theorem qz_X11_block {P : Nat → Nat} {S : zm_S} {M : qm} {i1 : Int32} {qi1 : Int} (hS : Sh L xs P S) (hM : qM P S = M) (ei1 : i1.toInt = qi1) : qs (zf_X11_block 20000 6 i1 S) (qf_X11_block 20000 qi1 M) (tO (rr L xs P (vs vi ve))) := by
  unfold zf_X11_block qf_X11_block
  refine qs_bp (qz_X11_isWithin hS hM ei1 k_0 k_25) (fun v7004 S7004 w7004 h7004 hS7004 hM7004 => ?_)
  refine qs_xp (qz_X11_needArgument hS7004 hM7004 h7004) ?_ ?_
  · intro v7006 S7006 w7006 h7006 hS7006 hM7006
    dsimp only
    refine qs_gi hS7006 hM7006 pl_6 ts_6 (z := 11) rfl rfl (fun v7007 h7007 => ?_)
    refine qs_ite (c_eq h7007 k_0) ?_ ?_
    · exact (qz_X11_block_J33 hS7006 hM7006 ei1)
    · refine qs_gr hS7006 pl_6 ts_6 rfl ?_
      refine qs_gi hS7006 hM7006 pl_1003 ts_1003 (z := 0) rfl rfl (fun v7009 h7009 => ?_)
      refine qs_ite (c_le k_40 h7009) ?_ ?_
      · exact (qz_X11_block_J33 hS7006 hM7006 ei1)
      · exact (qz_X11_block_J34 hS7006 hM7006 ei1 k_1)
  · intro v7006 S7006 hS7006 hM7006
    dsimp only
    exact qs_tr (show (vs vi ve) _ _ from rfl) hS7006 hM7006
set_option maxRecDepth 20000 in
theorem qz_L_block {P : Nat → Nat} {S : zm_S} {M : qm} {i1 : Int32} {qi1 : Int} (hS : Sh L xs P S) (hM : qM P S = M) (ei1 : i1.toInt = qi1) : qs (zf_L_block 20000 6 i1 2332 S) (qf_L_block 20000 qi1 M) (tO (rr L xs P vi)) := by
  unfold zf_L_block qf_L_block
  refine qs_zi hS pl_6 ts_6 ?_
  refine qs_xr (qz_X11_block hS hM ei1) ?_ ?_
  · intro v7012 S7012 w7012 M7012 h7012 hS7012 hM7012
    dsimp only
    refine qs_sl hS7012 hM7012 (pa_p hS7012 pl_2332 ts_2332) k_0 (by decide) (p_64 h7012) (fun S7013 M7013 hS7013 hM7013 => ?_)
    exact qs_tr (show vi _ _ from k_0) hS7013 hM7013
  · intro v7012 S7012 M7012 hS7012 hM7012
    dsimp only
    refine qs_ite Iff.rfl ?_ ?_
    · exact qs_tr (show vi _ _ from k_1) hS7012 hM7012
    · refine qs_ite Iff.rfl ?_ ?_
      · exact qs_tr (show vi _ _ from k_2) hS7012 hM7012
      · exact qs_none
set_option maxRecDepth 20000 in
theorem qz_X17_block_L12_b (n : Nat) {P : Nat → Nat} {S : zm_S} {M : qm} {i2 : Int32} {qi2 : Int} (hS : Sh L xs P S) (hM : qM P S = M) (ei2 : i2.toInt = qi2) : qs (zf_X17_block_L12 20000 (n + 1) 2235 i2 S) (qf_X17_block_L12_b 20000 qi2 M) (tk (vs (rr L xs P vi) (rr L xs P vu)) (qc_X17_block_L12 L xs P (zf_X17_block_L12 20000 n))) := by
  refine qs_eq (zf_X17_block_L12.eq_2 ..) ?_
  unfold qf_X17_block_L12_b
  refine qs_ite (c_le k_3 ei2) ?_ ?_
  · exact qs_tr2 (show vu _ _ from trivial) hS hM
  · refine qs_gr hS pl_2235 ts_2235 rfl ?_
    refine qs_gi hS hM pl_2235 ts_2235 (z := 0) rfl rfl (fun v7015 h7015 => ?_)
    refine qs_gd (fun g7017 => ?_)
    refine qs_si hS hM (pa_p hS pl_2240 ts_2240) (p_add (p_mul k_3 h7015) ei2) g7017 k_m1 (fun S7016 M7016 hS7016 hM7016 => ?_)
    exact qs_tk ⟨_, _, rfl, (p_add ei2 k_1), hS7016, hM7016⟩
theorem qz_X17_block_L12 (n : Nat) : ∀ {P : Nat → Nat} {S : zm_S} {M : qm} {i2 : Int32} {qi2 : Int} (hS : Sh L xs P S) (hM : qM P S = M) (ei2 : i2.toInt = qi2), qs (zf_X17_block_L12 20000 n 2235 i2 S) (qf_X17_block_L12 20000 n qi2 M) (tO (vs (rr L xs P vi) (rr L xs P vu))) := by
  induction n with
  | zero =>
    intros
    exact qs_none
  | succ n ih =>
    intro P S M i2 qi2 hS hM ei2
    unfold qf_X17_block_L12
    refine qs_loop (C := (qc_X17_block_L12 L xs P (zf_X17_block_L12 20000 n))) (qz_X17_block_L12_b n hS hM ei2) ?_
    rintro x s ⟨_, _, rfl, u0, hS2, hM2⟩
    exact ih hS2 hM2 u0
set_option maxRecDepth 20000 in
theorem qz_X17_block {P : Nat → Nat} {S : zm_S} {M : qm} {i1 : Int32} {qi1 : Int} (hS : Sh L xs P S) (hM : qM P S = M) (ei1 : i1.toInt = qi1) : qs (zf_X17_block 20000 2235 i1 S) (qf_X17_block 20000 qi1 M) (tO (rr L xs P vi)) := by
  unfold zf_X17_block qf_X17_block
  refine qs_gr hS pl_2235 ts_2235 rfl ?_
  refine qs_gi hS hM pl_2235 ts_2235 (z := 0) rfl rfl (fun v7019 h7019 => ?_)
  refine qs_gd (fun g7021 => ?_)
  refine qs_si hS hM (pa_p hS pl_2236 ts_2236) h7019 g7021 ei1 (fun S7020 M7020 hS7020 hM7020 => ?_)
  refine qs_lr (qz_X17_block_L12 20000 hS7020 hM7020 k_0) ?_ ?_
  · intro v7023 S7023 w7023 M7023 h7023 hS7023 hM7023
    dsimp only
    exact qs_tr h7023 hS7023 hM7023
  · intro v7023 S7023 w7023 M7023 h7023 hS7023 hM7023
    dsimp only
    refine qs_gi hS7023 hM7023 pl_2235 ts_2235 (z := 0) rfl rfl (fun v7024 h7024 => ?_)
    refine qs_pi hS7023 hM7023 pl_2235 ts_2235 (z := 0) rfl rfl (p_add h7024 k_1) (fun S7025 M7025 hS7025 hM7025 => ?_)
    refine qs_gi hS7025 hM7025 pl_2235 ts_2235 (z := 0) rfl rfl (fun v7026 h7026 => ?_)
    exact qs_tr (show vi _ _ from (p_sub h7026 k_1)) hS7025 hM7025
end QZ
