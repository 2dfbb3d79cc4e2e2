/-! ===== each function over memories is the one over plain states, by program (wip/tools/q) ===== -/
section QZ
variable {L : Nat} {xs : Nat → Int32}
set_option maxRecDepth 20000 in
theorem qz_X18_leave_L49_b (n : Nat) {P : Nat → Nat} {S : zm_S} {M : qm} {i1 : Int32} {qi1 : Int} (hS : Sh L xs P S) (hM : qM P S = M) (ei1 : i1.toInt = qi1) : qs (zf_X18_leave_L49 20000 (n + 1) 2156 i1 S) (qf_X18_leave_L49_b 20000 qi1 M) (tk (vs (rr L xs P vu) (rr L xs P vu)) (qc_X18_leave_L49 L xs P (zf_X18_leave_L49 20000 n))) := by
  refine qs_eq (zf_X18_leave_L49.eq_2 ..) ?_
  unfold qf_X18_leave_L49_b
  refine qs_ite (c_lt ei1 k_0) ?_ ?_
  · exact qs_tr2 (show vu _ _ from trivial) hS hM
  · refine qs_gr hS pl_2156 ts_2156 rfl ?_
    refine qs_gd (fun g10775 => ?_)
    refine qs_sz hS hM (pa_p hS pl_2331 ts_2331) ei1 g10775 k_1 (by decide) (fun S10774 M10774 hS10774 hM10774 => ?_)
    refine qs_zi hS10774 pl_2156 ts_2156 ?_
    refine qs_b (qz_X18_step hS10774 hM10774 ei1) (fun v10777 S10777 w10777 M10777 h10777 hS10777 hM10777 => ?_)
    refine qs_zi hS10777 pl_2156 ts_2156 ?_
    refine qs_bp (qz_X18_nextOne hS10777 hM10777 ) (fun v10779 S10779 w10779 h10779 hS10779 hM10779 => ?_)
    exact qs_tk ⟨_, _, rfl, h10779, hS10779, hM10779⟩
theorem qz_X18_leave_L49 (n : Nat) : ∀ {P : Nat → Nat} {S : zm_S} {M : qm} {i1 : Int32} {qi1 : Int} (hS : Sh L xs P S) (hM : qM P S = M) (ei1 : i1.toInt = qi1), qs (zf_X18_leave_L49 20000 n 2156 i1 S) (qf_X18_leave_L49 20000 n qi1 M) (tO (vs (rr L xs P vu) (rr L xs P vu))) := by
  induction n with
  | zero =>
    intros
    exact qs_none
  | succ n ih =>
    intro P S M i1 qi1 hS hM ei1
    unfold qf_X18_leave_L49
    refine qs_loop (C := (qc_X18_leave_L49 L xs P (zf_X18_leave_L49 20000 n))) (qz_X18_leave_L49_b n hS hM ei1) ?_
    rintro x s ⟨_, _, rfl, u0, hS2, hM2⟩
    exact ih hS2 hM2 u0
set_option maxRecDepth 20000 in
theorem qz_X18_leave {P : Nat → Nat} {S : zm_S} {M : qm}  (hS : Sh L xs P S) (hM : qM P S = M)  : qs (zf_X18_leave 20000 2156 S) (qf_X18_leave 20000 M) (tO (rr L xs P vu)) := by
  unfold zf_X18_leave qf_X18_leave
  refine qs_lr (qz_X18_leave_L2 20000 hS hM k_0) ?_ ?_
  · intro v10781 S10781 w10781 M10781 h10781 hS10781 hM10781
    dsimp only
    exact qs_tr h10781 hS10781 hM10781
  · intro v10781 S10781 w10781 M10781 h10781 hS10781 hM10781
    dsimp only
    refine qs_lr (qz_X18_leave_L23 20000 hS10781 hM10781 k_0) ?_ ?_
    · intro v10783 S10783 w10783 M10783 h10783 hS10783 hM10783
      dsimp only
      exact qs_tr h10783 hS10783 hM10783
    · intro v10783 S10783 w10783 M10783 h10783 hS10783 hM10783
      dsimp only
      refine qs_zi hS10783 pl_2156 ts_2156 ?_
      refine qs_bp (qz_X18_nextOne hS10783 hM10783 ) (fun v10785 S10785 w10785 h10785 hS10785 hM10785 => ?_)
      refine qs_lr (qz_X18_leave_L49 20000 hS10785 hM10785 h10785) ?_ ?_
      · intro v10787 S10787 w10787 M10787 h10787 hS10787 hM10787
        dsimp only
        exact qs_tr h10787 hS10787 hM10787
      · intro v10787 S10787 w10787 M10787 h10787 hS10787 hM10787
        dsimp only
        exact qs_tr (show vu _ _ from trivial) hS10787 hM10787
set_option maxRecDepth 20000 in
theorem qz_X18_second_J46 {P : Nat → Nat} {S : zm_S} {M : qm}  (hS : Sh L xs P S) (hM : qM P S = M)  : qs (zf_X18_second_J46 20000 2156 S) (qf_X18_second_J46 20000 M) (tO (rr L xs P vu)) := by
  unfold zf_X18_second_J46 qf_X18_second_J46
  refine qs_zi hS pl_2156 ts_2156 ?_
  refine qs_b (qz_X18_detect hS hM ) (fun v10789 S10789 w10789 M10789 h10789 hS10789 hM10789 => ?_)
  refine qs_gr hS10789 pl_2156 ts_2156 rfl ?_
  refine qs_zi hS10789 pl_2208 ts_2208 ?_
  refine qs_bp (qz_X14_rankedOne hS10789 hM10789 k_0) (fun v10792 S10792 w10792 h10792 hS10792 hM10792 => ?_)
  refine qs_lr (qz_X18_second_L61 20000 hS10792 hM10792 h10792 k_1) ?_ ?_
  · intro v10794 S10794 w10794 M10794 h10794 hS10794 hM10794
    dsimp only
    exact qs_tr h10794 hS10794 hM10794
  · intro v10794 S10794 w10794 M10794 h10794 hS10794 hM10794
    dsimp only
    refine qs_gr hS10794 pl_2156 ts_2156 rfl ?_
    refine qs_gr hS10794 pl_2235 ts_2235 rfl ?_
    refine qs_zi hS10794 pl_2156 ts_2156 ?_
    refine qs_bp (qz_X18_inSpaces hS10794 hM10794 ) (fun v10798 S10798 w10798 h10798 hS10798 hM10798 => ?_)
    refine qs_si hS10798 hM10798 (pa_p hS10798 pl_2247 ts_2247) k_0 (by decide) h10798 (fun S10799 M10799 hS10799 hM10799 => ?_)
    refine qs_gr hS10799 pl_2156 ts_2156 rfl ?_
    refine qs_gr hS10799 pl_2235 ts_2235 rfl ?_
    refine qs_gr hS10799 pl_2156 ts_2156 rfl ?_
    refine qs_zi hS10799 pl_2208 ts_2208 ?_
    refine qs_bp (qz_X14_done hS10799 hM10799 k_m1) (fun v10804 S10804 w10804 h10804 hS10804 hM10804 => ?_)
    refine qs_si hS10804 hM10804 (pa_p hS10804 pl_2247 ts_2247) k_1 (by decide) h10804 (fun S10805 M10805 hS10805 hM10805 => ?_)
    refine qs_gr hS10805 pl_2156 ts_2156 rfl ?_
    refine qs_gr hS10805 pl_2235 ts_2235 rfl ?_
    refine qs_zi hS10805 pl_2156 ts_2156 ?_
    refine qs_bp (qz_X18_smokes hS10805 hM10805 k_m1) (fun v10809 S10809 w10809 h10809 hS10809 hM10809 => ?_)
    refine qs_si hS10809 hM10809 (pa_p hS10809 pl_2247 ts_2247) k_2 (by decide) h10809 (fun S10810 M10810 hS10810 hM10810 => ?_)
    refine qs_gr hS10810 pl_2156 ts_2156 rfl ?_
    refine qs_gr hS10810 pl_2235 ts_2235 rfl ?_
    refine qs_gr hS10810 pl_2156 ts_2156 rfl ?_
    refine qs_zi hS10810 pl_2270 ts_2270 ?_
    refine qs_bp (qz_X13_many hS10810 hM10810 ) (fun v10815 S10815 w10815 h10815 hS10815 hM10815 => ?_)
    refine qs_si hS10815 hM10815 (pa_p hS10815 pl_2247 ts_2247) k_3 (by decide) h10815 (fun S10816 M10816 hS10816 hM10816 => ?_)
    refine qs_gr hS10816 pl_2156 ts_2156 rfl ?_
    refine qs_gi hS10816 hM10816 pl_2156 ts_2156 (z := 2) rfl rfl (fun v10818 h10818 => ?_)
    refine qs_pi hS10816 hM10816 pl_2235 ts_2235 (z := 14) rfl rfl (p_div h10818 k_60 (by decide)) (fun S10819 M10819 hS10819 hM10819 => ?_)
    refine qs_gr hS10819 pl_2156 ts_2156 rfl ?_
    refine qs_zi hS10819 pl_2235 ts_2235 ?_
    refine qs_b (qz_X17_tick hS10819 hM10819 ) (fun v10822 S10822 w10822 M10822 h10822 hS10822 hM10822 => ?_)
    refine qs_zi hS10822 pl_2156 ts_2156 ?_
    refine qs_b (qz_X18_line_ hS10822 hM10822 ) (fun v10824 S10824 w10824 M10824 h10824 hS10824 hM10824 => ?_)
    refine qs_lr (qz_X18_second_L186 20000 hS10824 hM10824 k_0) ?_ ?_
    · intro v10826 S10826 w10826 M10826 h10826 hS10826 hM10826
      dsimp only
      exact qs_tr h10826 hS10826 hM10826
    · intro v10826 S10826 w10826 M10826 h10826 hS10826 hM10826
      dsimp only
      refine qs_gr hS10826 pl_2156 ts_2156 rfl ?_
      refine qs_zi hS10826 pl_2208 ts_2208 ?_
      refine qs_bp (qz_X14_done hS10826 hM10826 k_4) (fun v10829 S10829 w10829 h10829 hS10829 hM10829 => ?_)
      refine qs_ite (c_le h10829 k_0) ?_ ?_
      · exact qs_tr (show vu _ _ from trivial) hS10829 hM10829
      · refine qs_zi hS10829 pl_2156 ts_2156 ?_
        refine qs_b (qz_X18_leave hS10829 hM10829 ) (fun v10831 S10831 w10831 M10831 h10831 hS10831 hM10831 => ?_)
        exact qs_tr (show vu _ _ from trivial) hS10831 hM10831
set_option maxRecDepth 20000 in
theorem qz_X18_second {P : Nat → Nat} {S : zm_S} {M : qm}  (hS : Sh L xs P S) (hM : qM P S = M)  : qs (zf_X18_second 20000 2156 S) (qf_X18_second 20000 M) (tO (rr L xs P vu)) := by
  unfold zf_X18_second qf_X18_second
  refine qs_gi hS hM pl_2156 ts_2156 (z := 2) rfl rfl (fun v10832 h10832 => ?_)
  refine qs_pi hS hM pl_2156 ts_2156 (z := 2) rfl rfl (p_add h10832 k_1) (fun S10833 M10833 hS10833 hM10833 => ?_)
  refine qs_gr hS10833 pl_2156 ts_2156 rfl ?_
  refine qs_gi hS10833 hM10833 pl_2156 ts_2156 (z := 2) rfl rfl (fun v10835 h10835 => ?_)
  refine qs_pi hS10833 hM10833 pl_2208 ts_2208 (z := 1) rfl rfl h10835 (fun S10836 M10836 hS10836 hM10836 => ?_)
  refine qs_gr hS10836 pl_2156 ts_2156 rfl ?_
  refine qs_gi hS10836 hM10836 pl_2156 ts_2156 (z := 2) rfl rfl (fun v10838 h10838 => ?_)
  refine qs_pi hS10836 hM10836 pl_2270 ts_2270 (z := 12) rfl rfl h10838 (fun S10839 M10839 hS10839 hM10839 => ?_)
  refine qs_gi hS10839 hM10839 pl_2156 ts_2156 (z := 2) rfl rfl (fun v10840 h10840 => ?_)
  refine qs_ite (c_eq (p_mod h10840 k_10) k_0) ?_ ?_
  · refine qs_zi hS10839 pl_2156 ts_2156 ?_
    refine qs_b (qz_X18_spread hS10839 hM10839 ) (fun v10842 S10842 w10842 M10842 h10842 hS10842 hM10842 => ?_)
    exact (qz_X18_second_J46 hS10842 hM10842 )
  · exact (qz_X18_second_J46 hS10839 hM10839 )
set_option maxRecDepth 20000 in
theorem qz_X18_pass_L51_b (n : Nat) {P : Nat → Nat} {S : zm_S} {M : qm} {i1 : Int32} {qi1 : Int} {i2 : Int32} {qi2 : Int} (hS : Sh L xs P S) (hM : qM P S = M) (ei1 : i1.toInt = qi1) (ei2 : i2.toInt = qi2) : qs (zf_X18_pass_L51 20000 (n + 1) 2156 i1 i2 S) (qf_X18_pass_L51_b 20000 qi1 qi2 M) (tk (vs (rr L xs P vi) (rr L xs P vu)) (qc_X18_pass_L51 L xs P (zf_X18_pass_L51 20000 n))) := by
  refine qs_eq (zf_X18_pass_L51.eq_2 ..) ?_
  unfold qf_X18_pass_L51_b
  refine qs_ite (c_le ei1 ei2) ?_ ?_
  · exact qs_tr2 (show vu _ _ from trivial) hS hM
  · refine qs_zi hS pl_2156 ts_2156 ?_
    refine qs_b (qz_X18_second hS hM ) (fun v10844 S10844 w10844 M10844 h10844 hS10844 hM10844 => ?_)
    exact qs_tk ⟨_, _, _, rfl, ei1, (p_add ei2 k_1), hS10844, hM10844⟩
theorem qz_X18_pass_L51 (n : Nat) : ∀ {P : Nat → Nat} {S : zm_S} {M : qm} {i1 : Int32} {qi1 : Int} {i2 : Int32} {qi2 : Int} (hS : Sh L xs P S) (hM : qM P S = M) (ei1 : i1.toInt = qi1) (ei2 : i2.toInt = qi2), qs (zf_X18_pass_L51 20000 n 2156 i1 i2 S) (qf_X18_pass_L51 20000 n qi1 qi2 M) (tO (vs (rr L xs P vi) (rr L xs P vu))) := by
  induction n with
  | zero =>
    intros
    exact qs_none
  | succ n ih =>
    intro P S M i1 qi1 i2 qi2 hS hM ei1 ei2
    unfold qf_X18_pass_L51
    refine qs_loop (C := (qc_X18_pass_L51 L xs P (zf_X18_pass_L51 20000 n))) (qz_X18_pass_L51_b n hS hM ei1 ei2) ?_
    rintro x s ⟨_, _, _, rfl, u0, u1, hS2, hM2⟩
    exact ih hS2 hM2 u0 u1
set_option maxRecDepth 20000 in
theorem qz_X18_pass_J41 {P : Nat → Nat} {S : zm_S} {M : qm} {i1 : Int32} {qi1 : Int} {t1 : Int32} {qt1 : Int} {t2 : Int32} {qt2 : Int} (hS : Sh L xs P S) (hM : qM P S = M) (ei1 : i1.toInt = qi1) (et1 : t1.toInt = qt1) (et2 : t2.toInt = qt2) : qs (zf_X18_pass_J41 20000 2156 i1 2156 t1 t2 S) (qf_X18_pass_J41 20000 qi1 qt1 qt2 M) (tO (rr L xs P vi)) := by
  unfold zf_X18_pass_J41 qf_X18_pass_J41
  refine qs_zi hS pl_2156 ts_2156 ?_
  refine qs_b (qz_X18_goes hS hM et1 et2) (fun v10846 S10846 w10846 M10846 h10846 hS10846 hM10846 => ?_)
  refine qs_ite (c_eq h10846 k_0) ?_ ?_
  · exact qs_tr (show vi _ _ from k_0) hS10846 hM10846
  · refine qs_lr (qz_X18_pass_L51 20000 hS10846 hM10846 ei1 k_0) ?_ ?_
    · intro v10848 S10848 w10848 M10848 h10848 hS10848 hM10848
      dsimp only
      exact qs_tr h10848 hS10848 hM10848
    · intro v10848 S10848 w10848 M10848 h10848 hS10848 hM10848
      dsimp only
      refine qs_gi hS10848 hM10848 pl_2156 ts_2156 (z := 2) rfl rfl (fun v10849 h10849 => ?_)
      exact qs_tr (show vi _ _ from h10849) hS10848 hM10848
set_option maxRecDepth 20000 in
theorem qz_X18_pass_J40 {P : Nat → Nat} {S : zm_S} {M : qm} {i1 : Int32} {qi1 : Int} {t1 : Int32} {qt1 : Int} (hS : Sh L xs P S) (hM : qM P S = M) (ei1 : i1.toInt = qi1) (et1 : t1.toInt = qt1) : qs (zf_X18_pass_J40 20000 2156 i1 2156 t1 S) (qf_X18_pass_J40 20000 qi1 qt1 M) (tO (rr L xs P vi)) := by
  unfold zf_X18_pass_J40 qf_X18_pass_J40
  exact (qz_X18_pass_J41 hS hM ei1 et1 k_0)
set_option maxRecDepth 20000 in
theorem qz_X18_pass_J17 {P : Nat → Nat} {S : zm_S} {M : qm} {i1 : Int32} {qi1 : Int} {t1 : Int32} {qt1 : Int} (hS : Sh L xs P S) (hM : qM P S = M) (ei1 : i1.toInt = qi1) (et1 : t1.toInt = qt1) : qs (zf_X18_pass_J17 20000 2156 i1 2156 t1 S) (qf_X18_pass_J17 20000 qi1 qt1 M) (tO (rr L xs P vi)) := by
  unfold zf_X18_pass_J17 qf_X18_pass_J17
  refine qs_gi hS hM pl_2156 ts_2156 (z := 1) rfl rfl (fun v10850 h10850 => ?_)
  refine qs_ite (c_eq h10850 k_0) ?_ ?_
  · exact (qz_X18_pass_J40 hS hM ei1 et1)
  · refine qs_gi hS hM pl_2156 ts_2156 (z := 2) rfl rfl (fun v10851 h10851 => ?_)
    refine qs_ite (c_lt k_6000 (p_add h10851 ei1)) ?_ ?_
    · exact (qz_X18_pass_J40 hS hM ei1 et1)
    · exact (qz_X18_pass_J41 hS hM ei1 et1 k_1)
set_option maxRecDepth 20000 in
theorem qz_X18_pass_J16 {P : Nat → Nat} {S : zm_S} {M : qm} {i1 : Int32} {qi1 : Int} (hS : Sh L xs P S) (hM : qM P S = M) (ei1 : i1.toInt = qi1) : qs (zf_X18_pass_J16 20000 2156 i1 2156 S) (qf_X18_pass_J16 20000 qi1 M) (tO (rr L xs P vi)) := by
  unfold zf_X18_pass_J16 qf_X18_pass_J16
  exact (qz_X18_pass_J17 hS hM ei1 k_0)
set_option maxRecDepth 20000 in
theorem qz_X18_pass {P : Nat → Nat} {S : zm_S} {M : qm} {i1 : Int32} {qi1 : Int} (hS : Sh L xs P S) (hM : qM P S = M) (ei1 : i1.toInt = qi1) : qs (zf_X18_pass 20000 2156 i1 S) (qf_X18_pass 20000 qi1 M) (tO (rr L xs P vi)) := by
  unfold zf_X18_pass qf_X18_pass
  refine qs_ite (c_lt ei1 k_1) ?_ ?_
  · exact (qz_X18_pass_J16 hS hM ei1)
  · refine qs_ite (c_lt k_60 ei1) ?_ ?_
    · exact (qz_X18_pass_J16 hS hM ei1)
    · exact (qz_X18_pass_J17 hS hM ei1 k_1)
set_option maxRecDepth 20000 in
theorem qz_X11_told_J64 {P : Nat → Nat} {S : zm_S} {M : qm}  (hS : Sh L xs P S) (hM : qM P S = M)  : qs (zf_X11_told_J64 20000 6 S) (qf_X11_told_J64 20000 M) (tO (rp L xs P M (vs vi ve))) := by
  unfold zf_X11_told_J64 qf_X11_told_J64
  refine qs_gr hS pl_6 ts_6 rfl ?_
  refine qs_gi hS hM pl_824 ts_824 (z := 3) rfl rfl (fun v10853 h10853 => ?_)
  exact qs_tp (show (vs vi ve) _ _ from h10853) hS hM
set_option maxRecDepth 20000 in
theorem qz_X11_told_J72 {P : Nat → Nat} {S : zm_S} {M : qm}  (hS : Sh L xs P S) (hM : qM P S = M)  : qs (zf_X11_told_J72 20000 6 S) (qf_X11_told_J72 20000 M) (tO (rp L xs P M (vs vi ve))) := by
  unfold zf_X11_told_J72 qf_X11_told_J72
  refine qs_gr hS pl_6 ts_6 rfl ?_
  refine qs_zi hS pl_756 ts_756 ?_
  refine qs_bp (qz_X10_countFreeInside hS hM ) (fun v10856 S10856 w10856 h10856 hS10856 hM10856 => ?_)
  exact qs_tp (show (vs vi ve) _ _ from h10856) hS10856 hM10856
set_option maxRecDepth 20000 in
theorem qz_X11_told_J80 {P : Nat → Nat} {S : zm_S} {M : qm}  (hS : Sh L xs P S) (hM : qM P S = M)  : qs (zf_X11_told_J80 20000 6 S) (qf_X11_told_J80 20000 M) (tO (rp L xs P M (vs vi ve))) := by
  unfold zf_X11_told_J80 qf_X11_told_J80
  refine qs_gr hS pl_6 ts_6 rfl ?_
  refine qs_zi hS pl_1172 ts_1172 ?_
  refine qs_bp (qz_X4_countDone hS hM ) (fun v10859 S10859 w10859 h10859 hS10859 hM10859 => ?_)
  exact qs_tp (show (vs vi ve) _ _ from h10859) hS10859 hM10859
set_option maxRecDepth 20000 in
theorem qz_X11_told_J88 {P : Nat → Nat} {S : zm_S} {M : qm}  (hS : Sh L xs P S) (hM : qM P S = M)  : qs (zf_X11_told_J88 20000 6 S) (qf_X11_told_J88 20000 M) (tO (rp L xs P M (vs vi ve))) := by
  unfold zf_X11_told_J88 qf_X11_told_J88
  refine qs_gr hS pl_6 ts_6 rfl ?_
  refine qs_gi hS hM pl_756 ts_756 (z := 4) rfl rfl (fun v10861 h10861 => ?_)
  exact qs_tp (show (vs vi ve) _ _ from h10861) hS hM
set_option maxRecDepth 20000 in
theorem qz_X11_told_J96 {P : Nat → Nat} {S : zm_S} {M : qm}  (hS : Sh L xs P S) (hM : qM P S = M)  : qs (zf_X11_told_J96 20000 6 S) (qf_X11_told_J96 20000 M) (tO (rp L xs P M (vs vi ve))) := by
  unfold zf_X11_told_J96 qf_X11_told_J96
  refine qs_gr hS pl_6 ts_6 rfl ?_
  refine qs_gi hS hM pl_1337 ts_1337 (z := 4) rfl rfl (fun v10863 h10863 => ?_)
  exact qs_tp (show (vs vi ve) _ _ from h10863) hS hM
set_option maxRecDepth 20000 in
theorem qz_X11_told_J104 {P : Nat → Nat} {S : zm_S} {M : qm}  (hS : Sh L xs P S) (hM : qM P S = M)  : qs (zf_X11_told_J104 20000 6 S) (qf_X11_told_J104 20000 M) (tO (rp L xs P M (vs vi ve))) := by
  unfold zf_X11_told_J104 qf_X11_told_J104
  refine qs_zi hS pl_6 ts_6 ?_
  refine qs_bp (qz_X11_isReleased hS hM ) (fun v10865 S10865 w10865 h10865 hS10865 hM10865 => ?_)
  refine qs_ite (c_eq h10865 k_0) ?_ ?_
  · exact qs_tp (show (vs vi ve) _ _ from k_0) hS10865 hM10865
  · exact qs_tp (show (vs vi ve) _ _ from k_1) hS10865 hM10865
set_option maxRecDepth 20000 in
theorem qz_X11_told_J117 {P : Nat → Nat} {S : zm_S} {M : qm}  (hS : Sh L xs P S) (hM : qM P S = M)  : qs (zf_X11_told_J117 20000 6 S) (qf_X11_told_J117 20000 M) (tO (rp L xs P M (vs vi ve))) := by
  unfold zf_X11_told_J117 qf_X11_told_J117
  refine qs_zi hS pl_6 ts_6 ?_
  refine qs_bp (qz_X11_isHome hS hM ) (fun v10867 S10867 w10867 h10867 hS10867 hM10867 => ?_)
  refine qs_ite (c_eq h10867 k_0) ?_ ?_
  · exact qs_tp (show (vs vi ve) _ _ from k_0) hS10867 hM10867
  · exact qs_tp (show (vs vi ve) _ _ from k_1) hS10867 hM10867
set_option maxRecDepth 20000 in
theorem qz_X11_told_J130 {P : Nat → Nat} {S : zm_S} {M : qm}  (hS : Sh L xs P S) (hM : qM P S = M)  : qs (zf_X11_told_J130 20000 6 S) (qf_X11_told_J130 20000 M) (tO (rp L xs P M (vs vi ve))) := by
  unfold zf_X11_told_J130 qf_X11_told_J130
  refine qs_zi hS pl_6 ts_6 ?_
  refine qs_bp (qz_X11_doPersonsLeave hS hM ) (fun v10869 S10869 w10869 h10869 hS10869 hM10869 => ?_)
  refine qs_ite (c_eq h10869 k_0) ?_ ?_
  · exact qs_tp (show (vs vi ve) _ _ from k_0) hS10869 hM10869
  · exact qs_tp (show (vs vi ve) _ _ from k_1) hS10869 hM10869
set_option maxRecDepth 20000 in
theorem qz_X11_told {P : Nat → Nat} {S : zm_S} {M : qm} {i1 : Int32} {qi1 : Int} (hS : Sh L xs P S) (hM : qM P S = M) (ei1 : i1.toInt = qi1) : qs (zf_X11_told 20000 6 i1 S) (qf_X11_told 20000 qi1 M) (tO (rp L xs P M (vs vi ve))) := by
  unfold zf_X11_told qf_X11_told
  refine qs_bp (qz_X11_isWithin hS hM ei1 k_0 k_8) (fun v10870 S10870 w10870 h10870 hS10870 hM10870 => ?_)
  refine qs_xp (qz_X11_needArgument hS10870 hM10870 h10870) ?_ ?_
  · intro v10872 S10872 w10872 h10872 hS10872 hM10872
    dsimp only
    refine qs_gi hS10872 hM10872 pl_6 ts_6 (z := 11) rfl rfl (fun v10873 h10873 => ?_)
    refine qs_xp (qz_X11_needState hS10872 hM10872 h10873) ?_ ?_
    · intro v10875 S10875 w10875 h10875 hS10875 hM10875
      dsimp only
      refine qs_ite (z_eq ei1) ?_ ?_
      · exact (qz_X11_told_J64 hS10875 hM10875 )
      · refine qs_ite (z_eq ei1) ?_ ?_
        · exact (qz_X11_told_J72 hS10875 hM10875 )
        · refine qs_ite (z_eq ei1) ?_ ?_
          · exact (qz_X11_told_J80 hS10875 hM10875 )
          · refine qs_ite (z_eq ei1) ?_ ?_
            · exact (qz_X11_told_J88 hS10875 hM10875 )
            · refine qs_ite (z_eq ei1) ?_ ?_
              · exact (qz_X11_told_J96 hS10875 hM10875 )
              · refine qs_ite (z_eq ei1) ?_ ?_
                · exact (qz_X11_told_J104 hS10875 hM10875 )
                · refine qs_ite (z_eq ei1) ?_ ?_
                  · exact (qz_X11_told_J117 hS10875 hM10875 )
                  · refine qs_ite (z_eq ei1) ?_ ?_
                    · exact (qz_X11_told_J130 hS10875 hM10875 )
                    · refine qs_gi hS10875 hM10875 pl_6 ts_6 (z := 12) rfl rfl (fun v10876 h10876 => ?_)
                      exact qs_tp (show (vs vi ve) _ _ from h10876) hS10875 hM10875
    · intro v10875 S10875 hS10875 hM10875
      dsimp only
      exact qs_tp (show (vs vi ve) _ _ from rfl) hS10875 hM10875
  · intro v10872 S10872 hS10872 hM10872
    dsimp only
    exact qs_tp (show (vs vi ve) _ _ from rfl) hS10872 hM10872
set_option maxRecDepth 20000 in
theorem qz_L_told {P : Nat → Nat} {S : zm_S} {M : qm} {i1 : Int32} {qi1 : Int} (hS : Sh L xs P S) (hM : qM P S = M) (ei1 : i1.toInt = qi1) : qs (zf_L_told 20000 6 i1 2332 S) (qf_L_told 20000 qi1 M) (tO (rr L xs P vi)) := by
  unfold zf_L_told qf_L_told
  refine qs_zi hS pl_6 ts_6 ?_
  refine qs_xp (qz_X11_told hS hM ei1) ?_ ?_
  · intro v10879 S10879 w10879 h10879 hS10879 hM10879
    dsimp only
    refine qs_sl hS10879 hM10879 (pa_p hS10879 pl_2332 ts_2332) k_0 (by decide) (p_64 h10879) (fun S10880 M10880 hS10880 hM10880 => ?_)
    exact qs_tr (show vi _ _ from k_0) hS10880 hM10880
  · intro v10879 S10879 hS10879 hM10879
    dsimp only
    refine qs_ite Iff.rfl ?_ ?_
    · exact qs_tr (show vi _ _ from k_1) hS10879 hM10879
    · refine qs_ite Iff.rfl ?_ ?_
      · exact qs_tr (show vi _ _ from k_2) hS10879 hM10879
      · exact qs_none
set_option maxRecDepth 20000 in
theorem qz_X18_told_J78 {P : Nat → Nat} {S : zm_S} {M : qm}  (hS : Sh L xs P S) (hM : qM P S = M)  : qs (zf_X18_told_J78 20000 2156 S) (qf_X18_told_J78 20000 M) (tO (rr L xs P vi)) := by
  unfold zf_X18_told_J78 qf_X18_told_J78
  refine qs_gr hS pl_2156 ts_2156 rfl ?_
  refine qs_zi hS pl_2208 ts_2208 ?_
  refine qs_bp (qz_X14_done hS hM k_m1) (fun v10883 S10883 w10883 h10883 hS10883 hM10883 => ?_)
  exact qs_tr (show vi _ _ from h10883) hS10883 hM10883
set_option maxRecDepth 20000 in
theorem qz_X18_told_J87 {P : Nat → Nat} {S : zm_S} {M : qm}  (hS : Sh L xs P S) (hM : qM P S = M)  : qs (zf_X18_told_J87 20000 2156 S) (qf_X18_told_J87 20000 M) (tO (rr L xs P vi)) := by
  unfold zf_X18_told_J87 qf_X18_told_J87
  refine qs_zi hS pl_2156 ts_2156 ?_
  refine qs_bp (qz_X18_smokes hS hM k_m1) (fun v10885 S10885 w10885 h10885 hS10885 hM10885 => ?_)
  exact qs_tr (show vi _ _ from h10885) hS10885 hM10885
set_option maxRecDepth 20000 in
theorem qz_X18_told_J93 {P : Nat → Nat} {S : zm_S} {M : qm}  (hS : Sh L xs P S) (hM : qM P S = M)  : qs (zf_X18_told_J93 20000 2156 S) (qf_X18_told_J93 20000 M) (tO (rr L xs P vi)) := by
  unfold zf_X18_told_J93 qf_X18_told_J93
  refine qs_gr hS pl_2156 ts_2156 rfl ?_
  refine qs_zi hS pl_2270 ts_2270 ?_
  refine qs_bp (qz_X13_many hS hM ) (fun v10888 S10888 w10888 h10888 hS10888 hM10888 => ?_)
  exact qs_tr (show vi _ _ from h10888) hS10888 hM10888
set_option maxRecDepth 20000 in
theorem qz_X18_told_J101 {P : Nat → Nat} {S : zm_S} {M : qm}  (hS : Sh L xs P S) (hM : qM P S = M)  : qs (zf_X18_told_J101 20000 2156 S) (qf_X18_told_J101 20000 M) (tO (rr L xs P vi)) := by
  unfold zf_X18_told_J101 qf_X18_told_J101
  refine qs_zi hS pl_2156 ts_2156 ?_
  refine qs_bp (qz_X18_isReleased hS hM ) (fun v10890 S10890 w10890 h10890 hS10890 hM10890 => ?_)
  refine qs_ite (c_eq h10890 k_0) ?_ ?_
  · exact qs_tr (show vi _ _ from k_0) hS10890 hM10890
  · exact qs_tr (show vi _ _ from k_1) hS10890 hM10890
set_option maxRecDepth 20000 in
theorem qz_X18_told_J114 {P : Nat → Nat} {S : zm_S} {M : qm}  (hS : Sh L xs P S) (hM : qM P S = M)  : qs (zf_X18_told_J114 20000 2156 S) (qf_X18_told_J114 20000 M) (tO (rr L xs P vi)) := by
  unfold zf_X18_told_J114 qf_X18_told_J114
  refine qs_gr hS pl_2156 ts_2156 rfl ?_
  refine qs_zi hS pl_2208 ts_2208 ?_
  refine qs_bp (qz_X14_done hS hM k_1) (fun v10893 S10893 w10893 h10893 hS10893 hM10893 => ?_)
  refine qs_ite (c_le h10893 k_0) ?_ ?_
  · exact qs_tr (show vi _ _ from k_0) hS10893 hM10893
  · exact qs_tr (show vi _ _ from k_1) hS10893 hM10893
set_option maxRecDepth 20000 in
theorem qz_X18_told_J131 {P : Nat → Nat} {S : zm_S} {M : qm}  (hS : Sh L xs P S) (hM : qM P S = M)  : qs (zf_X18_told_J131 20000 2156 S) (qf_X18_told_J131 20000 M) (tO (rr L xs P vi)) := by
  unfold zf_X18_told_J131 qf_X18_told_J131
  refine qs_gr hS pl_2156 ts_2156 rfl ?_
  refine qs_zi hS pl_2208 ts_2208 ?_
  refine qs_bp (qz_X14_done hS hM k_4) (fun v10896 S10896 w10896 h10896 hS10896 hM10896 => ?_)
  refine qs_ite (c_le h10896 k_0) ?_ ?_
  · exact qs_tr (show vi _ _ from k_0) hS10896 hM10896
  · exact qs_tr (show vi _ _ from k_1) hS10896 hM10896
set_option maxRecDepth 20000 in
theorem qz_X18_told {P : Nat → Nat} {S : zm_S} {M : qm} {i1 : Int32} {qi1 : Int} (hS : Sh L xs P S) (hM : qM P S = M) (ei1 : i1.toInt = qi1) : qs (zf_X18_told 20000 2156 i1 S) (qf_X18_told 20000 qi1 M) (tO (rr L xs P vi)) := by
  unfold zf_X18_told qf_X18_told
  refine qs_bp (qz_X18_isIn hS hM ei1 k_9) (fun v10897 S10897 w10897 h10897 hS10897 hM10897 => ?_)
  refine qs_gi hS10897 hM10897 pl_2156 ts_2156 (z := 1) rfl rfl (fun v10898 h10898 => ?_)
  refine qs_zi hS10897 pl_2156 ts_2156 ?_
  refine qs_b (qz_X18_goes hS10897 hM10897 h10897 h10898) (fun v10900 S10900 w10900 M10900 h10900 hS10900 hM10900 => ?_)
  refine qs_ite (c_eq h10900 k_0) ?_ ?_
  · exact qs_tr (show vi _ _ from k_0) hS10900 hM10900
  · refine qs_ite (z_eq ei1) ?_ ?_
    · refine qs_gi hS10900 hM10900 pl_2156 ts_2156 (z := 10) rfl rfl (fun v10901 h10901 => ?_)
      exact qs_tr (show vi _ _ from h10901) hS10900 hM10900
    · refine qs_ite (z_eq ei1) ?_ ?_
      · refine qs_zi hS10900 pl_2156 ts_2156 ?_
        refine qs_bp (qz_X18_inSpaces hS10900 hM10900 ) (fun v10903 S10903 w10903 h10903 hS10903 hM10903 => ?_)
        exact qs_tr (show vi _ _ from h10903) hS10903 hM10903
      · refine qs_ite (z_eq ei1) ?_ ?_
        · exact (qz_X18_told_J78 hS10900 hM10900 )
        · refine qs_ite (z_eq ei1) ?_ ?_
          · exact (qz_X18_told_J87 hS10900 hM10900 )
          · refine qs_ite (z_eq ei1) ?_ ?_
            · exact (qz_X18_told_J93 hS10900 hM10900 )
            · refine qs_ite (z_eq ei1) ?_ ?_
              · exact (qz_X18_told_J101 hS10900 hM10900 )
              · refine qs_ite (z_eq ei1) ?_ ?_
                · exact (qz_X18_told_J114 hS10900 hM10900 )
                · refine qs_ite (z_eq ei1) ?_ ?_
                  · exact (qz_X18_told_J131 hS10900 hM10900 )
                  · refine qs_gi hS10900 hM10900 pl_2156 ts_2156 (z := 2) rfl rfl (fun v10904 h10904 => ?_)
                    exact qs_tr (show vi _ _ from h10904) hS10900 hM10900
end QZ
