/-! ===== frames, by program (wip/tools/q/genfr.py) ===== -/
theorem fr_X8_setEnds {N : Nat} {i1 i2 i3 i4 i5 : Int} {M M0 : qm} (h : Fg 8 M0 M) : qP (qf_X8_setEnds N i1 i2 i3 i4 i5 M) (fun r => Fg 8 M0 r.2) := by
  unfold qf_X8_setEnds
  refine qP_ite ?_ ?_
  · refine qP_bnd (m0 := _) (Fg_wa (k := 3) h rfl rfl) (fun M1 h1 => ?_)
    refine qP_bnd (m0 := _) (Fg_wa (k := 3) h1 rfl rfl) (fun M2 h2 => ?_)
    refine qP_bnd (m0 := _) (Fg_wa (k := 3) h2 rfl rfl) (fun M3 h3 => ?_)
    refine qP_bnd (m0 := _) (Fg_wa (k := 3) h3 rfl rfl) (fun M4 h4 => ?_)
    exact qP_some h4
  · exact qP_none
theorem fr_X8_addLine {N : Nat} {i1 i2 i3 i4 : Int} {M M0 : qm} (h : Fg 12 M0 M) : qP (qf_X8_addLine N i1 i2 i3 i4 M) (fun r => Fg 12 M0 r.2) := by
  unfold qf_X8_addLine
  refine qP_ite ?_ ?_
  · exact qP_some h
  · refine qP_pure (fun r1 => ?_)
    refine qP_ite ?_ ?_
    · refine qP_bind (fr_X8_setEnds Fg_refl) (fun r2 k2 => ?_)
      have h2 := Fg_tr h (Fg_mono k2 rfl)
      refine qP_bnd (m0 := _) (Fg_w h2 rfl) (fun M3 h3 => ?_)
      exact qP_some h3
    · exact qP_some h
theorem fr_X11_line_J81 {N : Nat} {i1 i2 i3 i4 t0 : Int} {M M0 : qm} (h : Fg 140 M0 M) : qP (qf_X11_line_J81 N i1 i2 i3 i4 t0 M) (fun r => Fg 140 M0 r.2) := by
  unfold qf_X11_line_J81
  refine qP_pure (fun r1 => ?_)
  rcases r1 with x2 | x2
  · refine qP_bind (fr_X8_addLine Fg_refl) (fun r3 k3 => ?_)
    have h3 := Fg_tr h (Fg_mono k3 rfl)
    refine qP_ite ?_ ?_
    · exact qP_some h3
    · refine qP_bnd (m0 := _) (Fg_w h3 rfl) (fun M4 h4 => ?_)
      exact qP_some h4
  · exact qP_some h
theorem fr_X11_line_J80 {N : Nat} {i1 i2 i3 i4 : Int} {M M0 : qm} (h : Fg 140 M0 M) : qP (qf_X11_line_J80 N i1 i2 i3 i4 M) (fun r => Fg 140 M0 r.2) := by
  unfold qf_X11_line_J80
  exact (fr_X11_line_J81 h)
theorem fr_X11_line_J54 {N : Nat} {i1 i2 i3 i4 t0 : Int} {M M0 : qm} (h : Fg 140 M0 M) : qP (qf_X11_line_J54 N i1 i2 i3 i4 t0 M) (fun r => Fg 140 M0 r.2) := by
  unfold qf_X11_line_J54
  refine qP_pure (fun r1 => ?_)
  rcases r1 with x2 | x2
  · refine qP_ite ?_ ?_
    · refine qP_ite ?_ ?_
      · exact (fr_X11_line_J80 h)
      · exact (fr_X11_line_J81 h)
    · exact (fr_X11_line_J80 h)
  · exact qP_some h
theorem fr_X11_line_J46 {N : Nat} {i1 i2 i3 i4 t0 t1 : Int} {M M0 : qm} (h : Fg 140 M0 M) : qP (qf_X11_line_J46 N i1 i2 i3 i4 t0 t1 M) (fun r => Fg 140 M0 r.2) := by
  unfold qf_X11_line_J46
  refine qP_ite ?_ ?_
  · exact (fr_X11_line_J54 h)
  · exact (fr_X11_line_J54 h)
theorem fr_X11_line_J35 {N : Nat} {i1 i2 i3 i4 t0 : Int} {M M0 : qm} (h : Fg 140 M0 M) : qP (qf_X11_line_J35 N i1 i2 i3 i4 t0 M) (fun r => Fg 140 M0 r.2) := by
  unfold qf_X11_line_J35
  refine qP_ite ?_ ?_
  · exact (fr_X11_line_J46 h)
  · exact (fr_X11_line_J46 h)
theorem fr_X11_line_J22 {N : Nat} {i1 i2 i3 i4 t0 : Int} {M M0 : qm} (h : Fg 140 M0 M) : qP (qf_X11_line_J22 N i1 i2 i3 i4 t0 M) (fun r => Fg 140 M0 r.2) := by
  unfold qf_X11_line_J22
  refine qP_pure (fun r1 => ?_)
  rcases r1 with x2 | x2
  · refine qP_ite ?_ ?_
    · exact (fr_X11_line_J35 h)
    · exact (fr_X11_line_J35 h)
  · exact qP_some h
theorem fr_X11_line_J21 {N : Nat} {i1 i2 i3 i4 : Int} {M M0 : qm} (h : Fg 140 M0 M) : qP (qf_X11_line_J21 N i1 i2 i3 i4 M) (fun r => Fg 140 M0 r.2) := by
  unfold qf_X11_line_J21
  exact (fr_X11_line_J22 h)
theorem fr_X11_line {N : Nat} {i1 i2 i3 i4 : Int} {M M0 : qm} (h : Fg 140 M0 M) : qP (qf_X11_line N i1 i2 i3 i4 M) (fun r => Fg 140 M0 r.2) := by
  unfold qf_X11_line
  refine qP_pure (fun r1 => ?_)
  refine qP_ite ?_ ?_
  · exact (fr_X11_line_J21 h)
  · refine qP_pure (fun r2 => ?_)
    refine qP_ite ?_ ?_
    · exact (fr_X11_line_J21 h)
    · exact (fr_X11_line_J22 h)
theorem fr_L_line {N : Nat} {i1 i2 i3 i4 : Int} {M M0 : qm} (h : Fg 165263992197562149737978827008192759957101170741070304821162198818601447809077836456297302609928821211897803006255839576204 M0 M) : qP (qf_L_line N i1 i2 i3 i4 M) (fun r => Fg 165263992197562149737978827008192759957101170741070304821162198818601447809077836456297302609928821211897803006255839576204 M0 r.2) := by
  unfold qf_L_line
  refine qP_bind (fr_X11_line Fg_refl) (fun r1 k1 => ?_)
  have h1 := Fg_tr h (Fg_mono k1 rfl)
  obtain ⟨x1, m1⟩ := r1
  rcases x1 with x1 | x1
  · have h1 : Fg _ _ m1 := h1
    refine qP_bnd (m0 := _) (Fg_wa (k := 406) h1 rfl rfl) (fun M2 h2 => ?_)
    exact qP_some h2
  · have h1 : Fg _ _ m1 := h1
    refine qP_ite ?_ ?_
    · exact qP_some h1
    · refine qP_ite ?_ ?_
      · exact qP_some h1
      · exact qP_none
theorem fr_X18_goes_J18 {N : Nat} {t1 : Int} {M M0 : qm} (h : Fg 1461501637330902918203684832716283019655932542976 M0 M) : qP (qf_X18_goes_J18 N t1 M) (fun r => Fg 1461501637330902918203684832716283019655932542976 M0 r.2) := by
  unfold qf_X18_goes_J18
  refine qP_bnd (m0 := _) (Fg_w h rfl) (fun M1 h1 => ?_)
  refine qP_ite ?_ ?_
  · exact qP_some h1
  · exact qP_some h1
theorem fr_X18_goes {N : Nat} {i1 i2 : Int} {M M0 : qm} (h : Fg 1461501637330902918203684832716283019655932542976 M0 M) : qP (qf_X18_goes N i1 i2 M) (fun r => Fg 1461501637330902918203684832716283019655932542976 M0 r.2) := by
  unfold qf_X18_goes
  refine qP_ite ?_ ?_
  · exact (fr_X18_goes_J18 h)
  · refine qP_ite ?_ ?_
    · exact (fr_X18_goes_J18 h)
    · exact (fr_X18_goes_J18 h)
theorem fr_X16_line_J59 {N : Nat} {i1 i2 i3 i4 t1 t2 : Int} {M M0 : qm} (h : Fg 1520250542315728015937362656665793724887910485955373432832 M0 M) : qP (qf_X16_line_J59 N i1 i2 i3 i4 t1 t2 M) (fun r => Fg 1520250542315728015937362656665793724887910485955373432832 M0 r.2) := by
  unfold qf_X16_line_J59
  refine qP_ite ?_ ?_
  · refine qP_bnd (m0 := _) (Fg_wa (k := 187) h rfl rfl) (fun M1 h1 => ?_)
    refine qP_ite ?_ ?_
    · refine qP_ite ?_ ?_
      · refine qP_ite ?_ ?_
        · refine qP_bnd (m0 := _) (Fg_wa (k := 188) h1 rfl rfl) (fun M2 h2 => ?_)
          refine qP_ite ?_ ?_
          · refine qP_bnd (m0 := _) (Fg_wa (k := 189) h2 rfl rfl) (fun M3 h3 => ?_)
            refine qP_pure (fun r4 => ?_)
            refine qP_ite ?_ ?_
            · exact qP_some h3
            · refine qP_bnd (m0 := _) (Fg_w h3 rfl) (fun M5 h5 => ?_)
              refine qP_bnd (m0 := _) (Fg_w h5 rfl) (fun M6 h6 => ?_)
              exact qP_some h6
          · exact qP_none
        · exact qP_none
      · exact qP_none
    · exact qP_none
  · exact qP_none
theorem fr_X16_line_J39 {N : Nat} {i1 i2 i3 i4 t1 t2 : Int} {M M0 : qm} (h : Fg 1520250542315728015937362656665793724887910485955373432832 M0 M) : qP (qf_X16_line_J39 N i1 i2 i3 i4 t1 t2 M) (fun r => Fg 1520250542315728015937362656665793724887910485955373432832 M0 r.2) := by
  unfold qf_X16_line_J39
  refine qP_ite ?_ ?_
  · refine qP_bnd (m0 := _) (Fg_wa (k := 186) h rfl rfl) (fun M1 h1 => ?_)
    refine qP_ite ?_ ?_
    · exact (fr_X16_line_J59 h1)
    · exact (fr_X16_line_J59 h1)
  · exact qP_none
theorem fr_X16_line_J18 {N : Nat} {i1 i2 i3 i4 t1 t2 : Int} {M M0 : qm} (h : Fg 1520250542315728015937362656665793724887910485955373432832 M0 M) : qP (qf_X16_line_J18 N i1 i2 i3 i4 t1 t2 M) (fun r => Fg 1520250542315728015937362656665793724887910485955373432832 M0 r.2) := by
  unfold qf_X16_line_J18
  refine qP_ite ?_ ?_
  · refine qP_bnd (m0 := _) (Fg_wa (k := 185) h rfl rfl) (fun M1 h1 => ?_)
    refine qP_ite ?_ ?_
    · exact (fr_X16_line_J39 h1)
    · exact (fr_X16_line_J39 h1)
  · exact qP_none
theorem fr_X16_line {N : Nat} {i1 i2 i3 i4 : Int} {M M0 : qm} (h : Fg 1520250542315728015937362656665793724887910485955373432832 M0 M) : qP (qf_X16_line N i1 i2 i3 i4 M) (fun r => Fg 1520250542315728015937362656665793724887910485955373432832 M0 r.2) := by
  unfold qf_X16_line
  refine qP_ite ?_ ?_
  · exact (fr_X16_line_J18 h)
  · exact (fr_X16_line_J18 h)
theorem fr_X18_line_J83 {N : Nat} {i1 i2 i3 i4 t1 t2 : Int} {M M0 : qm} (h : Fg 1520250543777229653268265574869478557604193505611305975808 M0 M) : qP (qf_X18_line_J83 N i1 i2 i3 i4 t1 t2 M) (fun r => Fg 1520250543777229653268265574869478557604193505611305975808 M0 r.2) := by
  unfold qf_X18_line_J83
  refine qP_bind (fr_X18_goes Fg_refl) (fun r1 k1 => ?_)
  have h1 := Fg_tr h (Fg_mono k1 rfl)
  refine qP_ite ?_ ?_
  · exact qP_some h1
  · refine qP_bind (fr_X16_line Fg_refl) (fun r2 k2 => ?_)
    have h2 := Fg_tr h1 (Fg_mono k2 rfl)
    exact qP_some h2
theorem fr_X18_line_J82 {N : Nat} {i1 i2 i3 i4 t1 : Int} {M M0 : qm} (h : Fg 1520250543777229653268265574869478557604193505611305975808 M0 M) : qP (qf_X18_line_J82 N i1 i2 i3 i4 t1 M) (fun r => Fg 1520250543777229653268265574869478557604193505611305975808 M0 r.2) := by
  unfold qf_X18_line_J82
  exact (fr_X18_line_J83 h)
theorem fr_X18_line_J54 {N : Nat} {i1 i2 i3 i4 t0 : Int} {M M0 : qm} (h : Fg 1520250543777229653268265574869478557604193505611305975808 M0 M) : qP (qf_X18_line_J54 N i1 i2 i3 i4 t0 M) (fun r => Fg 1520250543777229653268265574869478557604193505611305975808 M0 r.2) := by
  unfold qf_X18_line_J54
  refine qP_ite ?_ ?_
  · refine qP_ite ?_ ?_
    · exact (fr_X18_line_J82 h)
    · exact (fr_X18_line_J83 h)
  · exact (fr_X18_line_J82 h)
theorem fr_X18_line_J53 {N : Nat} {i1 i2 i3 i4 : Int} {M M0 : qm} (h : Fg 1520250543777229653268265574869478557604193505611305975808 M0 M) : qP (qf_X18_line_J53 N i1 i2 i3 i4 M) (fun r => Fg 1520250543777229653268265574869478557604193505611305975808 M0 r.2) := by
  unfold qf_X18_line_J53
  exact (fr_X18_line_J54 h)
theorem fr_X18_line_J49 {N : Nat} {i1 i2 i3 i4 : Int} {M M0 : qm} (h : Fg 1520250543777229653268265574869478557604193505611305975808 M0 M) : qP (qf_X18_line_J49 N i1 i2 i3 i4 M) (fun r => Fg 1520250543777229653268265574869478557604193505611305975808 M0 r.2) := by
  unfold qf_X18_line_J49
  exact (fr_X18_line_J54 h)
theorem fr_X18_line {N : Nat} {i1 i2 i3 i4 : Int} {M M0 : qm} (h : Fg 1520250543777229653268265574869478557604193505611305975808 M0 M) : qP (qf_X18_line N i1 i2 i3 i4 M) (fun r => Fg 1520250543777229653268265574869478557604193505611305975808 M0 r.2) := by
  unfold qf_X18_line
  refine qP_pure (fun r1 => ?_)
  refine qP_ite ?_ ?_
  · exact (fr_X18_line_J53 h)
  · refine qP_pure (fun r2 => ?_)
    refine qP_ite ?_ ?_
    · exact (fr_X18_line_J53 h)
    · refine qP_pure (fun r3 => ?_)
      refine qP_ite ?_ ?_
      · exact (fr_X18_line_J53 h)
      · refine qP_pure (fun r4 => ?_)
        refine qP_ite ?_ ?_
        · exact (fr_X18_line_J53 h)
        · refine qP_ite ?_ ?_
          · refine qP_ite ?_ ?_
            · exact (fr_X18_line_J53 h)
            · exact (fr_X18_line_J49 h)
          · refine qP_ite ?_ ?_
            · exact (fr_X18_line_J49 h)
            · exact (fr_X18_line_J53 h)
theorem fr_X8_moveLine {N : Nat} {i1 i2 i3 : Int} {M M0 : qm} (h : Fg 8 M0 M) : qP (qf_X8_moveLine N i1 i2 i3 M) (fun r => Fg 8 M0 r.2) := by
  unfold qf_X8_moveLine
  refine qP_ite ?_ ?_
  · refine qP_pure (fun r1 => ?_)
    refine qP_ite ?_ ?_
    · refine qP_bind (fr_X8_setEnds Fg_refl) (fun r2 k2 => ?_)
      have h2 := Fg_tr h (Fg_mono k2 rfl)
      exact qP_some h2
    · exact qP_some h
  · exact qP_none
theorem fr_X11_move_J41 {N : Nat} {i1 i2 i3 t0 : Int} {M M0 : qm} (h : Fg 136 M0 M) : qP (qf_X11_move_J41 N i1 i2 i3 t0 M) (fun r => Fg 136 M0 r.2) := by
  unfold qf_X11_move_J41
  refine qP_pure (fun r1 => ?_)
  rcases r1 with x2 | x2
  · refine qP_bind (fr_X8_moveLine Fg_refl) (fun r3 k3 => ?_)
    have h3 := Fg_tr h (Fg_mono k3 rfl)
    refine qP_ite ?_ ?_
    · refine qP_ite ?_ ?_
      · exact qP_some h3
      · exact qP_none
    · refine qP_bnd (m0 := _) (Fg_w h3 rfl) (fun M4 h4 => ?_)
      refine qP_ite ?_ ?_
      · exact qP_some h4
      · exact qP_none
  · exact qP_some h
theorem fr_X11_move_J26 {N : Nat} {i1 i2 i3 t0 : Int} {M M0 : qm} (h : Fg 136 M0 M) : qP (qf_X11_move_J26 N i1 i2 i3 t0 M) (fun r => Fg 136 M0 r.2) := by
  unfold qf_X11_move_J26
  refine qP_pure (fun r1 => ?_)
  rcases r1 with x2 | x2
  · refine qP_ite ?_ ?_
    · exact (fr_X11_move_J41 h)
    · exact (fr_X11_move_J41 h)
  · exact qP_some h
theorem fr_X11_move_J25 {N : Nat} {i1 i2 i3 : Int} {M M0 : qm} (h : Fg 136 M0 M) : qP (qf_X11_move_J25 N i1 i2 i3 M) (fun r => Fg 136 M0 r.2) := by
  unfold qf_X11_move_J25
  exact (fr_X11_move_J26 h)
theorem fr_X11_move {N : Nat} {i1 i2 i3 : Int} {M M0 : qm} (h : Fg 136 M0 M) : qP (qf_X11_move N i1 i2 i3 M) (fun r => Fg 136 M0 r.2) := by
  unfold qf_X11_move
  refine qP_pure (fun r1 => ?_)
  refine qP_ite ?_ ?_
  · exact (fr_X11_move_J25 h)
  · refine qP_pure (fun r2 => ?_)
    refine qP_ite ?_ ?_
    · exact (fr_X11_move_J25 h)
    · exact (fr_X11_move_J26 h)
theorem fr_L_move_J18 {N : Nat} {t1 t2 : Int} {M M0 : qm} (h : Fg 165263992197562149737978827008192759957101170741070304821162198818601447809077836456297302609928821211897803006255839576200 M0 M) : qP (qf_L_move_J18 N t1 t2 M) (fun r => Fg 165263992197562149737978827008192759957101170741070304821162198818601447809077836456297302609928821211897803006255839576200 M0 r.2) := by
  unfold qf_L_move_J18
  refine qP_ite ?_ ?_
  · refine qP_bnd (m0 := _) (Fg_wa (k := 406) h rfl rfl) (fun M1 h1 => ?_)
    exact qP_some h1
  · exact qP_none
theorem fr_L_move {N : Nat} {i1 i2 i3 : Int} {M M0 : qm} (h : Fg 165263992197562149737978827008192759957101170741070304821162198818601447809077836456297302609928821211897803006255839576200 M0 M) : qP (qf_L_move N i1 i2 i3 M) (fun r => Fg 165263992197562149737978827008192759957101170741070304821162198818601447809077836456297302609928821211897803006255839576200 M0 r.2) := by
  unfold qf_L_move
  refine qP_bind (fr_X11_move Fg_refl) (fun r1 k1 => ?_)
  have h1 := Fg_tr h (Fg_mono k1 rfl)
  obtain ⟨x1, m1⟩ := r1
  rcases x1 with x1 | x1
  · have h1 : Fg _ _ m1 := h1
    refine qP_ite ?_ ?_
    · exact (fr_L_move_J18 h1)
    · exact (fr_L_move_J18 h1)
  · have h1 : Fg _ _ m1 := h1
    refine qP_ite ?_ ?_
    · exact qP_some h1
    · refine qP_ite ?_ ?_
      · exact qP_some h1
      · exact qP_none
theorem fr_X16_move_J82 {N : Nat} {i4 : Int} {M M0 : qm} (h : Fg 147131544544538345159107239192579293417895977129017868288 M0 M) : qP (qf_X16_move_J82 N i4 M) (fun r => Fg 147131544544538345159107239192579293417895977129017868288 M0 r.2) := by
  unfold qf_X16_move_J82
  refine qP_bnd (m0 := _) (Fg_w h rfl) (fun M1 h1 => ?_)
  refine qP_ite ?_ ?_
  · exact qP_some h1
  · exact qP_none
theorem fr_X16_move_J63 {N : Nat} {i4 t1 t2 t3 : Int} {M M0 : qm} (h : Fg 147131544544538345159107239192579293417895977129017868288 M0 M) : qP (qf_X16_move_J63 N i4 t1 t2 t3 M) (fun r => Fg 147131544544538345159107239192579293417895977129017868288 M0 r.2) := by
  unfold qf_X16_move_J63
  refine qP_ite ?_ ?_
  · refine qP_bnd (m0 := _) (Fg_wa (k := 186) h rfl rfl) (fun M1 h1 => ?_)
    refine qP_ite ?_ ?_
    · exact (fr_X16_move_J82 h1)
    · refine qP_ite ?_ ?_
      · refine qP_bnd (m0 := _) (Fg_w h1 rfl) (fun M2 h2 => ?_)
        refine qP_ite ?_ ?_
        · exact qP_some h2
        · exact qP_none
      · exact (fr_X16_move_J82 h1)
  · exact qP_none
theorem fr_X16_move_J44 {N : Nat} {i1 i3 i4 t1 t2 t3 : Int} {M M0 : qm} (h : Fg 147131544544538345159107239192579293417895977129017868288 M0 M) : qP (qf_X16_move_J44 N i1 i3 i4 t1 t2 t3 M) (fun r => Fg 147131544544538345159107239192579293417895977129017868288 M0 r.2) := by
  unfold qf_X16_move_J44
  refine qP_ite ?_ ?_
  · refine qP_bnd (m0 := _) (Fg_wa (k := 185) h rfl rfl) (fun M1 h1 => ?_)
    refine qP_ite ?_ ?_
    · refine qP_ite ?_ ?_
      · exact (fr_X16_move_J63 h1)
      · exact (fr_X16_move_J63 h1)
    · exact qP_none
  · exact qP_none
theorem fr_X16_move {N : Nat} {i1 i2 i3 : Int} {M M0 : qm} (h : Fg 147131544544538345159107239192579293417895977129017868288 M0 M) : qP (qf_X16_move N i1 i2 i3 M) (fun r => Fg 147131544544538345159107239192579293417895977129017868288 M0 r.2) := by
  unfold qf_X16_move
  refine qP_ite ?_ ?_
  · refine qP_ite ?_ ?_
    · refine qP_bnd (m0 := _) (Fg_wa (k := 185) h rfl rfl) (fun M1 h1 => ?_)
      refine qP_ite ?_ ?_
      · refine qP_ite ?_ ?_
        · refine qP_bnd (m0 := _) (Fg_wa (k := 186) h1 rfl rfl) (fun M2 h2 => ?_)
          refine qP_pure (fun r3 => ?_)
          refine qP_ite ?_ ?_
          · refine qP_ite ?_ ?_
            · exact (fr_X16_move_J44 h2)
            · exact (fr_X16_move_J44 h2)
          · exact qP_none
        · exact qP_none
      · exact qP_none
    · exact qP_none
  · exact qP_none
theorem fr_X18_move_J45 {N : Nat} {i1 i2 i3 t1 t2 : Int} {M M0 : qm} (h : Fg 147131546006039982490010157396264126134178996784950411264 M0 M) : qP (qf_X18_move_J45 N i1 i2 i3 t1 t2 M) (fun r => Fg 147131546006039982490010157396264126134178996784950411264 M0 r.2) := by
  unfold qf_X18_move_J45
  refine qP_bind (fr_X18_goes Fg_refl) (fun r1 k1 => ?_)
  have h1 := Fg_tr h (Fg_mono k1 rfl)
  refine qP_ite ?_ ?_
  · exact qP_some h1
  · refine qP_bind (fr_X16_move Fg_refl) (fun r2 k2 => ?_)
    have h2 := Fg_tr h1 (Fg_mono k2 rfl)
    refine qP_ite ?_ ?_
    · exact qP_some h2
    · exact qP_some h2
theorem fr_X18_move_J33 {N : Nat} {i1 i2 i3 t1 : Int} {M M0 : qm} (h : Fg 147131546006039982490010157396264126134178996784950411264 M0 M) : qP (qf_X18_move_J33 N i1 i2 i3 t1 M) (fun r => Fg 147131546006039982490010157396264126134178996784950411264 M0 r.2) := by
  unfold qf_X18_move_J33
  refine qP_ite ?_ ?_
  · exact (fr_X18_move_J45 h)
  · exact (fr_X18_move_J45 h)
theorem fr_X18_move_J32 {N : Nat} {i1 i2 i3 : Int} {M M0 : qm} (h : Fg 147131546006039982490010157396264126134178996784950411264 M0 M) : qP (qf_X18_move_J32 N i1 i2 i3 M) (fun r => Fg 147131546006039982490010157396264126134178996784950411264 M0 r.2) := by
  unfold qf_X18_move_J32
  exact (fr_X18_move_J33 h)
theorem fr_X18_move {N : Nat} {i1 i2 i3 : Int} {M M0 : qm} (h : Fg 147131546006039982490010157396264126134178996784950411264 M0 M) : qP (qf_X18_move N i1 i2 i3 M) (fun r => Fg 147131546006039982490010157396264126134178996784950411264 M0 r.2) := by
  unfold qf_X18_move
  refine qP_pure (fun r1 => ?_)
  refine qP_ite ?_ ?_
  · exact (fr_X18_move_J32 h)
  · refine qP_pure (fun r2 => ?_)
    refine qP_ite ?_ ?_
    · exact (fr_X18_move_J32 h)
    · exact (fr_X18_move_J33 h)
theorem fr_X8_addDoor_J66 {N : Nat} {i1 : Int} {M M0 : qm} (h : Fg 48 M0 M) : qP (qf_X8_addDoor_J66 N i1 M) (fun r => Fg 48 M0 r.2) := by
  unfold qf_X8_addDoor_J66
  refine qP_ite ?_ ?_
  · exact qP_some h
  · exact qP_none
theorem fr_X8_addDoor {N : Nat} {i1 i2 i3 i4 : Int} {M M0 : qm} (h : Fg 48 M0 M) : qP (qf_X8_addDoor N i1 i2 i3 i4 M) (fun r => Fg 48 M0 r.2) := by
  unfold qf_X8_addDoor
  refine qP_ite ?_ ?_
  · refine qP_ite ?_ ?_
    · exact (fr_X8_addDoor_J66 h)
    · refine qP_ite ?_ ?_
      · refine qP_ite ?_ ?_
        · refine qP_ite ?_ ?_
          · refine qP_bnd (m0 := _) (Fg_wa (k := 5) h rfl rfl) (fun M1 h1 => ?_)
            refine qP_ite ?_ ?_
            · refine qP_ite ?_ ?_
              · refine qP_bnd (m0 := _) (Fg_wa (k := 5) h1 rfl rfl) (fun M2 h2 => ?_)
                refine qP_ite ?_ ?_
                · refine qP_ite ?_ ?_
                  · refine qP_bnd (m0 := _) (Fg_wa (k := 5) h2 rfl rfl) (fun M3 h3 => ?_)
                    refine qP_ite ?_ ?_
                    · refine qP_ite ?_ ?_
                      · refine qP_bnd (m0 := _) (Fg_wa (k := 4) h3 rfl rfl) (fun M4 h4 => ?_)
                        exact (fr_X8_addDoor_J66 h4)
                      · exact qP_none
                    · exact qP_none
                  · exact qP_none
                · exact qP_none
              · exact qP_none
            · exact qP_none
          · exact qP_none
        · exact qP_none
      · exact qP_none
  · exact qP_none
theorem fr_X11_door_J81 {N : Nat} {i1 i2 i3 i4 t0 : Int} {M M0 : qm} (h : Fg 48 M0 M) : qP (qf_X11_door_J81 N i1 i2 i3 i4 t0 M) (fun r => Fg 48 M0 r.2) := by
  unfold qf_X11_door_J81
  refine qP_pure (fun r1 => ?_)
  rcases r1 with x2 | x2
  · refine qP_bind (fr_X8_addDoor Fg_refl) (fun r3 k3 => ?_)
    have h3 := Fg_tr h (Fg_mono k3 rfl)
    exact qP_some h3
  · exact qP_some h
theorem fr_X11_door_J80 {N : Nat} {i1 i2 i3 i4 : Int} {M M0 : qm} (h : Fg 48 M0 M) : qP (qf_X11_door_J80 N i1 i2 i3 i4 M) (fun r => Fg 48 M0 r.2) := by
  unfold qf_X11_door_J80
  exact (fr_X11_door_J81 h)
theorem fr_X11_door_J52 {N : Nat} {i1 i2 i3 i4 t0 : Int} {M M0 : qm} (h : Fg 48 M0 M) : qP (qf_X11_door_J52 N i1 i2 i3 i4 t0 M) (fun r => Fg 48 M0 r.2) := by
  unfold qf_X11_door_J52
  refine qP_pure (fun r1 => ?_)
  rcases r1 with x2 | x2
  · refine qP_ite ?_ ?_
    · refine qP_ite ?_ ?_
      · refine qP_ite ?_ ?_
        · exact (fr_X11_door_J80 h)
        · exact (fr_X11_door_J81 h)
      · exact qP_none
    · exact (fr_X11_door_J80 h)
  · exact qP_some h
theorem fr_X11_door_J51 {N : Nat} {i1 i2 i3 i4 : Int} {M M0 : qm} (h : Fg 48 M0 M) : qP (qf_X11_door_J51 N i1 i2 i3 i4 M) (fun r => Fg 48 M0 r.2) := by
  unfold qf_X11_door_J51
  exact (fr_X11_door_J52 h)
theorem fr_X11_door_J23 {N : Nat} {i1 i2 i3 i4 t0 : Int} {M M0 : qm} (h : Fg 48 M0 M) : qP (qf_X11_door_J23 N i1 i2 i3 i4 t0 M) (fun r => Fg 48 M0 r.2) := by
  unfold qf_X11_door_J23
  refine qP_pure (fun r1 => ?_)
  rcases r1 with x2 | x2
  · refine qP_ite ?_ ?_
    · exact (fr_X11_door_J51 h)
    · refine qP_ite ?_ ?_
      · exact (fr_X11_door_J51 h)
      · refine qP_pure (fun r3 => ?_)
        refine qP_ite ?_ ?_
        · exact (fr_X11_door_J51 h)
        · exact (fr_X11_door_J52 h)
  · exact qP_some h
theorem fr_X11_door_J22 {N : Nat} {i1 i2 i3 i4 : Int} {M M0 : qm} (h : Fg 48 M0 M) : qP (qf_X11_door_J22 N i1 i2 i3 i4 M) (fun r => Fg 48 M0 r.2) := by
  unfold qf_X11_door_J22
  exact (fr_X11_door_J23 h)
theorem fr_X11_door {N : Nat} {i1 i2 i3 i4 : Int} {M M0 : qm} (h : Fg 48 M0 M) : qP (qf_X11_door N i1 i2 i3 i4 M) (fun r => Fg 48 M0 r.2) := by
  unfold qf_X11_door
  refine qP_pure (fun r1 => ?_)
  refine qP_ite ?_ ?_
  · exact (fr_X11_door_J22 h)
  · refine qP_pure (fun r2 => ?_)
    refine qP_ite ?_ ?_
    · exact (fr_X11_door_J22 h)
    · exact (fr_X11_door_J23 h)
theorem fr_L_door {N : Nat} {i1 i2 i3 i4 : Int} {M M0 : qm} (h : Fg 165263992197562149737978827008192759957101170741070304821162198818601447809077836456297302609928821211897803006255839576112 M0 M) : qP (qf_L_door N i1 i2 i3 i4 M) (fun r => Fg 165263992197562149737978827008192759957101170741070304821162198818601447809077836456297302609928821211897803006255839576112 M0 r.2) := by
  unfold qf_L_door
  refine qP_bind (fr_X11_door Fg_refl) (fun r1 k1 => ?_)
  have h1 := Fg_tr h (Fg_mono k1 rfl)
  obtain ⟨x1, m1⟩ := r1
  rcases x1 with x1 | x1
  · have h1 : Fg _ _ m1 := h1
    refine qP_bnd (m0 := _) (Fg_wa (k := 406) h1 rfl rfl) (fun M2 h2 => ?_)
    exact qP_some h2
  · have h1 : Fg _ _ m1 := h1
    refine qP_ite ?_ ?_
    · exact qP_some h1
    · refine qP_ite ?_ ?_
      · exact qP_some h1
      · exact qP_none
theorem fr_X16_door {N : Nat} {i1 i2 i3 i4 : Int} {M M0 : qm} (h : Fg 11769565753850026432192105168514374530191916458370064711680 M0 M) : qP (qf_X16_door N i1 i2 i3 i4 M) (fun r => Fg 11769565753850026432192105168514374530191916458370064711680 M0 r.2) := by
  unfold qf_X16_door
  refine qP_ite ?_ ?_
  · refine qP_ite ?_ ?_
    · refine qP_bnd (m0 := _) (Fg_wa (k := 190) h rfl rfl) (fun M1 h1 => ?_)
      refine qP_ite ?_ ?_
      · refine qP_ite ?_ ?_
        · refine qP_bnd (m0 := _) (Fg_wa (k := 191) h1 rfl rfl) (fun M2 h2 => ?_)
          refine qP_ite ?_ ?_
          · refine qP_ite ?_ ?_
            · refine qP_bnd (m0 := _) (Fg_wa (k := 192) h2 rfl rfl) (fun M3 h3 => ?_)
              refine qP_ite ?_ ?_
              · refine qP_ite ?_ ?_
                · refine qP_bnd (m0 := _) (Fg_wa (k := 189) h3 rfl rfl) (fun M4 h4 => ?_)
                  refine qP_ite ?_ ?_
                  · exact qP_some h4
                  · exact qP_none
                · exact qP_none
              · exact qP_none
            · exact qP_none
          · exact qP_none
        · exact qP_none
      · exact qP_none
    · exact qP_none
  · exact qP_none
theorem fr_X18_door_J88 {N : Nat} {i1 i2 i3 i4 t1 t2 : Int} {M M0 : qm} (h : Fg 11769565755311528069523008086718059362908199478025997254656 M0 M) : qP (qf_X18_door_J88 N i1 i2 i3 i4 t1 t2 M) (fun r => Fg 11769565755311528069523008086718059362908199478025997254656 M0 r.2) := by
  unfold qf_X18_door_J88
  refine qP_bind (fr_X18_goes Fg_refl) (fun r1 k1 => ?_)
  have h1 := Fg_tr h (Fg_mono k1 rfl)
  refine qP_ite ?_ ?_
  · exact qP_some h1
  · refine qP_bind (fr_X16_door Fg_refl) (fun r2 k2 => ?_)
    have h2 := Fg_tr h1 (Fg_mono k2 rfl)
    exact qP_some h2
theorem fr_X18_door_J83 {N : Nat} {i1 i2 i3 i4 t1 : Int} {M M0 : qm} (h : Fg 11769565755311528069523008086718059362908199478025997254656 M0 M) : qP (qf_X18_door_J83 N i1 i2 i3 i4 t1 M) (fun r => Fg 11769565755311528069523008086718059362908199478025997254656 M0 r.2) := by
  unfold qf_X18_door_J83
  exact (fr_X18_door_J88 h)
theorem fr_X18_door_J87 {N : Nat} {i1 i2 i3 i4 t1 : Int} {M M0 : qm} (h : Fg 11769565755311528069523008086718059362908199478025997254656 M0 M) : qP (qf_X18_door_J87 N i1 i2 i3 i4 t1 M) (fun r => Fg 11769565755311528069523008086718059362908199478025997254656 M0 r.2) := by
  unfold qf_X18_door_J87
  exact (fr_X18_door_J88 h)
theorem fr_X18_door_J52 {N : Nat} {i1 i2 i3 i4 t0 : Int} {M M0 : qm} (h : Fg 11769565755311528069523008086718059362908199478025997254656 M0 M) : qP (qf_X18_door_J52 N i1 i2 i3 i4 t0 M) (fun r => Fg 11769565755311528069523008086718059362908199478025997254656 M0 r.2) := by
  unfold qf_X18_door_J52
  refine qP_ite ?_ ?_
  · refine qP_ite ?_ ?_
    · exact (fr_X18_door_J83 h)
    · refine qP_ite ?_ ?_
      · refine qP_ite ?_ ?_
        · exact (fr_X18_door_J87 h)
        · exact (fr_X18_door_J83 h)
      · exact qP_none
  · exact (fr_X18_door_J87 h)
theorem fr_X18_door_J51 {N : Nat} {i1 i2 i3 i4 : Int} {M M0 : qm} (h : Fg 11769565755311528069523008086718059362908199478025997254656 M0 M) : qP (qf_X18_door_J51 N i1 i2 i3 i4 M) (fun r => Fg 11769565755311528069523008086718059362908199478025997254656 M0 r.2) := by
  unfold qf_X18_door_J51
  exact (fr_X18_door_J52 h)
theorem fr_X18_door {N : Nat} {i1 i2 i3 i4 : Int} {M M0 : qm} (h : Fg 11769565755311528069523008086718059362908199478025997254656 M0 M) : qP (qf_X18_door N i1 i2 i3 i4 M) (fun r => Fg 11769565755311528069523008086718059362908199478025997254656 M0 r.2) := by
  unfold qf_X18_door
  refine qP_pure (fun r1 => ?_)
  refine qP_ite ?_ ?_
  · exact (fr_X18_door_J51 h)
  · refine qP_ite ?_ ?_
    · exact (fr_X18_door_J51 h)
    · refine qP_ite ?_ ?_
      · exact (fr_X18_door_J51 h)
      · refine qP_pure (fun r2 => ?_)
        refine qP_ite ?_ ?_
        · exact (fr_X18_door_J51 h)
        · refine qP_ite ?_ ?_
          · exact (fr_X18_door_J51 h)
          · refine qP_ite ?_ ?_
            · exact (fr_X18_door_J51 h)
            · exact (fr_X18_door_J52 h)
theorem fr_X2_swapBefore {N : Nat} {M M0 : qm} (h : Fg 122880 M0 M) : qP (qf_X2_swapBefore N M) (fun r => Fg 122880 M0 r.2) := by
  unfold qf_X2_swapBefore
  exact qP_some (Fg_sw (k := 16) (k2 := 15) (Fg_sw (k := 14) (k2 := 13) h (fun _ => rfl) rfl (fun _ => rfl) rfl) (fun _ => rfl) rfl (fun _ => rfl) rfl)
theorem fr_X2_drawWalls_J116 {N : Nat} {i1 i2 i3 i4 i5 t0 t1 t2 t3 : Int} {M M0 : qm} (h : Fg 2048 M0 M) : qP (qf_X2_drawWalls_J116 N i1 i2 i3 i4 i5 t0 t1 t2 t3 M) (pU (pU (fun r => Fg 2048 M0 r.2) (fun r => Fg 2048 M0 r.2)) (fun r => Fg 2048 M0 r.2.2.2.2.2)) := by
  unfold qf_X2_drawWalls_J116
  refine qP_ite ?_ ?_
  · refine qP_bnd (m0 := _) (Fg_wa (k := 11) h rfl rfl) (fun M1 h1 => ?_)
    exact qP_some h1
  · exact qP_none
theorem fr_X2_drawWalls_J102 {N : Nat} {i1 i2 i3 i4 i5 t1 : Int} {M M0 : qm} (h : Fg 2048 M0 M) : qP (qf_X2_drawWalls_J102 N i1 i2 i3 i4 i5 t1 M) (pU (pU (fun r => Fg 2048 M0 r.2) (fun r => Fg 2048 M0 r.2)) (fun r => Fg 2048 M0 r.2.2.2.2.2)) := by
  unfold qf_X2_drawWalls_J102
  refine qP_ite ?_ ?_
  · refine qP_ite ?_ ?_
    · exact (fr_X2_drawWalls_J116 h)
    · exact (fr_X2_drawWalls_J116 h)
  · exact qP_none
theorem fr_X2_drawWalls_L82_b {N : Nat} {i1 i2 i3 i4 i5 : Int} {M M0 : qm} (h : Fg 2048 M0 M) : qP (qf_X2_drawWalls_L82_b N i1 i2 i3 i4 i5 M) (pU (pU (fun r => Fg 2048 M0 r.2) (fun r => Fg 2048 M0 r.2)) (fun r => Fg 2048 M0 r.2.2.2.2.2)) := by
  unfold qf_X2_drawWalls_L82_b
  refine qP_ite ?_ ?_
  · exact qP_some h
  · refine qP_ite ?_ ?_
    · exact (fr_X2_drawWalls_J102 h)
    · exact (fr_X2_drawWalls_J102 h)
theorem fr_X2_drawWalls_L82 (n : Nat) {N : Nat} {i1 i2 i3 i4 i5 : Int} {M M0 : qm} (h : Fg 2048 M0 M) : qP (qf_X2_drawWalls_L82 N n i1 i2 i3 i4 i5 M) (pU (fun r => Fg 2048 M0 r.2) (fun r => Fg 2048 M0 r.2)) := by
  unfold qf_X2_drawWalls_L82
  exact qP_loop (I := fun s => Fg 2048 M0 s.2.2.2.2.2) (fun s hs => fr_X2_drawWalls_L82_b hs) n _ h
theorem fr_X2_drawWalls_L22_b {N : Nat} {i1 : Int} {M M0 : qm} (h : Fg 2048 M0 M) : qP (qf_X2_drawWalls_L22_b N i1 M) (pU (pU (fun r => Fg 2048 M0 r.2) (fun r => Fg 2048 M0 r.2)) (fun r => Fg 2048 M0 r.2)) := by
  unfold qf_X2_drawWalls_L22_b
  refine qP_ite ?_ ?_
  · exact qP_some h
  · refine qP_pure (fun r1 => ?_)
    refine qP_ite ?_ ?_
    · refine qP_ite ?_ ?_
      · refine qP_pure (fun r2 => ?_)
        refine qP_bind (fr_X2_drawWalls_L82 _ h) (fun r3 k3 => ?_)
        rcases r3 with x3 | x3
        · exact qP_some k3
        · obtain ⟨y3_0, y3_1⟩ := x3
          have h3 : Fg _ _ y3_1 := k3
          exact qP_some h3
      · exact qP_none
    · exact qP_none
theorem fr_X2_drawWalls_L22 (n : Nat) {N : Nat} {i1 : Int} {M M0 : qm} (h : Fg 2048 M0 M) : qP (qf_X2_drawWalls_L22 N n i1 M) (pU (fun r => Fg 2048 M0 r.2) (fun r => Fg 2048 M0 r.2)) := by
  unfold qf_X2_drawWalls_L22
  exact qP_loop (I := fun s => Fg 2048 M0 s.2) (fun s hs => fr_X2_drawWalls_L22_b hs) n _ h
theorem fr_X2_drawWalls {N : Nat} {M M0 : qm} (h : Fg 2048 M0 M) : qP (qf_X2_drawWalls N M) (fun r => Fg 2048 M0 r.2) := by
  unfold qf_X2_drawWalls
  refine qP_bnd (m0 := _) (Fg_f2 (k := 11) h (fun _ => rfl) rfl) (fun M1 h1 => ?_)
  refine qP_bnd (m0 := _) (Fg_f2 (k := 11) h1 (fun _ => rfl) rfl) (fun M2 h2 => ?_)
  refine qP_bind (fr_X2_drawWalls_L22 _ h2) (fun r3 k3 => ?_)
  rcases r3 with x3 | x3
  · exact qP_some k3
  · obtain ⟨y3_0, y3_1⟩ := x3
    have h3 : Fg _ _ y3_1 := k3
    exact qP_some h3
theorem fr_X2_markPoints_J96 {N : Nat} {i1 i2 t1 : Int} {M M0 : qm} (h : Fg 4096 M0 M) : qP (qf_X2_markPoints_J96 N i1 i2 t1 M) (pU (pU (fun r => Fg 4096 M0 r.2) (fun r => Fg 4096 M0 r.2)) (fun r => Fg 4096 M0 r.2.2)) := by
  unfold qf_X2_markPoints_J96
  refine qP_ite ?_ ?_
  · refine qP_bnd (m0 := _) (Fg_wa (k := 12) h rfl rfl) (fun M1 h1 => ?_)
    exact qP_some h1
  · exact qP_none
theorem fr_X2_markPoints_J71 {N : Nat} {i1 i2 i3 t0 : Int} {M M0 : qm} (h : Fg 4096 M0 M) : qP (qf_X2_markPoints_J71 N i1 i2 i3 t0 M) (pU (pU (fun r => Fg 4096 M0 r.2) (fun r => Fg 4096 M0 r.2)) (fun r => Fg 4096 M0 r.2.2)) := by
  unfold qf_X2_markPoints_J71
  refine qP_ite ?_ ?_
  · exact (fr_X2_markPoints_J96 h)
  · refine qP_ite ?_ ?_
    · exact (fr_X2_markPoints_J96 h)
    · refine qP_ite ?_ ?_
      · refine qP_bnd (m0 := _) (Fg_wa (k := 12) h rfl rfl) (fun M1 h1 => ?_)
        exact qP_some h1
      · exact qP_none
theorem fr_X2_markPoints_J66 {N : Nat} {i1 i2 i3 : Int} {M M0 : qm} (h : Fg 4096 M0 M) : qP (qf_X2_markPoints_J66 N i1 i2 i3 M) (pU (pU (fun r => Fg 4096 M0 r.2) (fun r => Fg 4096 M0 r.2)) (fun r => Fg 4096 M0 r.2.2)) := by
  unfold qf_X2_markPoints_J66
  exact (fr_X2_markPoints_J71 h)
theorem fr_X2_markPoints_J43 {N : Nat} {i1 i2 t0 : Int} {M M0 : qm} (h : Fg 4096 M0 M) : qP (qf_X2_markPoints_J43 N i1 i2 t0 M) (pU (pU (fun r => Fg 4096 M0 r.2) (fun r => Fg 4096 M0 r.2)) (fun r => Fg 4096 M0 r.2.2)) := by
  unfold qf_X2_markPoints_J43
  refine qP_pure (fun r1 => ?_)
  refine qP_ite ?_ ?_
  · refine qP_pure (fun r2 => ?_)
    refine qP_ite ?_ ?_
    · exact (fr_X2_markPoints_J71 h)
    · exact (fr_X2_markPoints_J66 h)
  · exact (fr_X2_markPoints_J66 h)
theorem fr_X2_markPoints_J38 {N : Nat} {i1 i2 : Int} {M M0 : qm} (h : Fg 4096 M0 M) : qP (qf_X2_markPoints_J38 N i1 i2 M) (pU (pU (fun r => Fg 4096 M0 r.2) (fun r => Fg 4096 M0 r.2)) (fun r => Fg 4096 M0 r.2.2)) := by
  unfold qf_X2_markPoints_J38
  exact (fr_X2_markPoints_J43 h)
theorem fr_X2_markPoints_L10_b {N : Nat} {i1 i2 : Int} {M M0 : qm} (h : Fg 4096 M0 M) : qP (qf_X2_markPoints_L10_b N i1 i2 M) (pU (pU (fun r => Fg 4096 M0 r.2) (fun r => Fg 4096 M0 r.2)) (fun r => Fg 4096 M0 r.2.2)) := by
  unfold qf_X2_markPoints_L10_b
  refine qP_ite ?_ ?_
  · exact qP_some h
  · refine qP_pure (fun r1 => ?_)
    refine qP_ite ?_ ?_
    · refine qP_pure (fun r2 => ?_)
      refine qP_ite ?_ ?_
      · exact (fr_X2_markPoints_J43 h)
      · exact (fr_X2_markPoints_J38 h)
    · exact (fr_X2_markPoints_J38 h)
theorem fr_X2_markPoints_L10 (n : Nat) {N : Nat} {i1 i2 : Int} {M M0 : qm} (h : Fg 4096 M0 M) : qP (qf_X2_markPoints_L10 N n i1 i2 M) (pU (fun r => Fg 4096 M0 r.2) (fun r => Fg 4096 M0 r.2)) := by
  unfold qf_X2_markPoints_L10
  exact qP_loop (I := fun s => Fg 4096 M0 s.2.2) (fun s hs => fr_X2_markPoints_L10_b hs) n _ h
theorem fr_X2_markPoints_L2_b {N : Nat} {i1 : Int} {M M0 : qm} (h : Fg 4096 M0 M) : qP (qf_X2_markPoints_L2_b N i1 M) (pU (pU (fun r => Fg 4096 M0 r.2) (fun r => Fg 4096 M0 r.2)) (fun r => Fg 4096 M0 r.2)) := by
  unfold qf_X2_markPoints_L2_b
  refine qP_ite ?_ ?_
  · exact qP_some h
  · refine qP_bind (fr_X2_markPoints_L10 _ h) (fun r1 k1 => ?_)
    rcases r1 with x1 | x1
    · exact qP_some k1
    · obtain ⟨y1_0, y1_1⟩ := x1
      have h1 : Fg _ _ y1_1 := k1
      exact qP_some h1
theorem fr_X2_markPoints_L2 (n : Nat) {N : Nat} {i1 : Int} {M M0 : qm} (h : Fg 4096 M0 M) : qP (qf_X2_markPoints_L2 N n i1 M) (pU (fun r => Fg 4096 M0 r.2) (fun r => Fg 4096 M0 r.2)) := by
  unfold qf_X2_markPoints_L2
  exact qP_loop (I := fun s => Fg 4096 M0 s.2) (fun s hs => fr_X2_markPoints_L2_b hs) n _ h
theorem fr_X2_markPoints_L112_b {N : Nat} {i1 : Int} {M M0 : qm} (h : Fg 4096 M0 M) : qP (qf_X2_markPoints_L112_b N i1 M) (pU (pU (fun r => Fg 4096 M0 r.2) (fun r => Fg 4096 M0 r.2)) (fun r => Fg 4096 M0 r.2)) := by
  unfold qf_X2_markPoints_L112_b
  refine qP_ite ?_ ?_
  · exact qP_some h
  · refine qP_ite ?_ ?_
    · refine qP_ite ?_ ?_
      · refine qP_bnd (m0 := _) (Fg_wa (k := 12) h rfl rfl) (fun M1 h1 => ?_)
        refine qP_ite ?_ ?_
        · refine qP_bnd (m0 := _) (Fg_wa (k := 12) h1 rfl rfl) (fun M2 h2 => ?_)
          exact qP_some h2
        · exact qP_none
      · exact qP_none
    · exact qP_none
theorem fr_X2_markPoints_L112 (n : Nat) {N : Nat} {i1 : Int} {M M0 : qm} (h : Fg 4096 M0 M) : qP (qf_X2_markPoints_L112 N n i1 M) (pU (fun r => Fg 4096 M0 r.2) (fun r => Fg 4096 M0 r.2)) := by
  unfold qf_X2_markPoints_L112
  exact qP_loop (I := fun s => Fg 4096 M0 s.2) (fun s hs => fr_X2_markPoints_L112_b hs) n _ h
theorem fr_X2_markPoints {N : Nat} {M M0 : qm} (h : Fg 4096 M0 M) : qP (qf_X2_markPoints N M) (fun r => Fg 4096 M0 r.2) := by
  unfold qf_X2_markPoints
  refine qP_bind (fr_X2_markPoints_L2 _ h) (fun r1 k1 => ?_)
  rcases r1 with x1 | x1
  · exact qP_some k1
  · obtain ⟨y1_0, y1_1⟩ := x1
    have h1 : Fg _ _ y1_1 := k1
    refine qP_bind (fr_X2_markPoints_L112 _ h1) (fun r2 k2 => ?_)
    rcases r2 with x2 | x2
    · exact qP_some k2
    · obtain ⟨y2_0, y2_1⟩ := x2
      have h2 : Fg _ _ y2_1 := k2
      exact qP_some h2
theorem fr_X2_fill_J77 {N : Nat} {i2 i3 i4 i5 i6 t0 : Int} {M M0 : qm} (h : Fg 4202496 M0 M) : qP (qf_X2_fill_J77 N i2 i3 i4 i5 i6 t0 M) (pU (pU (fun r => Fg 4202496 M0 r.2) (fun r => Fg 4202496 M0 r.2)) (fun r => Fg 4202496 M0 r.2.2.2.2)) := by
  unfold qf_X2_fill_J77
  refine qP_ite ?_ ?_
  · exact qP_some h
  · refine qP_ite ?_ ?_
    · refine qP_ite ?_ ?_
      · refine qP_ite ?_ ?_
        · exact qP_some h
        · refine qP_ite ?_ ?_
          · refine qP_bnd (m0 := _) (Fg_wa (k := 13) h rfl rfl) (fun M1 h1 => ?_)
            refine qP_ite ?_ ?_
            · refine qP_bnd (m0 := _) (Fg_wa (k := 22) h1 rfl rfl) (fun M2 h2 => ?_)
              exact qP_some h2
            · exact qP_none
          · exact qP_none
      · exact qP_some h
    · exact qP_none
theorem fr_X2_fill_J76 {N : Nat} {i2 i3 i4 i5 i6 : Int} {M M0 : qm} (h : Fg 4202496 M0 M) : qP (qf_X2_fill_J76 N i2 i3 i4 i5 i6 M) (pU (pU (fun r => Fg 4202496 M0 r.2) (fun r => Fg 4202496 M0 r.2)) (fun r => Fg 4202496 M0 r.2.2.2.2)) := by
  unfold qf_X2_fill_J76
  exact (fr_X2_fill_J77 h)
theorem fr_X2_fill_L28_b {N : Nat} {i2 i3 i4 i5 : Int} {M M0 : qm} (h : Fg 4202496 M0 M) : qP (qf_X2_fill_L28_b N i2 i3 i4 i5 M) (pU (pU (fun r => Fg 4202496 M0 r.2) (fun r => Fg 4202496 M0 r.2)) (fun r => Fg 4202496 M0 r.2.2.2.2)) := by
  unfold qf_X2_fill_L28_b
  refine qP_ite ?_ ?_
  · exact qP_some h
  · refine qP_ite ?_ ?_
    · refine qP_pure (fun r1 => ?_)
      refine qP_ite ?_ ?_
      · exact (fr_X2_fill_J76 h)
      · refine qP_ite ?_ ?_
        · refine qP_pure (fun r2 => ?_)
          refine qP_ite ?_ ?_
          · exact (fr_X2_fill_J77 h)
          · exact (fr_X2_fill_J76 h)
        · exact qP_none
    · exact qP_none
theorem fr_X2_fill_L28 (n : Nat) {N : Nat} {i2 i3 i4 i5 : Int} {M M0 : qm} (h : Fg 4202496 M0 M) : qP (qf_X2_fill_L28 N n i2 i3 i4 i5 M) (pU (fun r => Fg 4202496 M0 r.2) (fun r => Fg 4202496 M0 r.2)) := by
  unfold qf_X2_fill_L28
  exact qP_loop (I := fun s => Fg 4202496 M0 s.2.2.2.2) (fun s hs => fr_X2_fill_L28_b hs) n _ h
theorem fr_X2_fill_L19_b {N : Nat} {i2 i3 i4 : Int} {M M0 : qm} (h : Fg 4202496 M0 M) : qP (qf_X2_fill_L19_b N i2 i3 i4 M) (pU (pU (fun r => Fg 4202496 M0 r.2) (fun r => Fg 4202496 M0 r.2)) (fun r => Fg 4202496 M0 r.2.2.2)) := by
  unfold qf_X2_fill_L19_b
  refine qP_ite ?_ ?_
  · exact qP_some h
  · refine qP_bind (fr_X2_fill_L28 _ h) (fun r1 k1 => ?_)
    rcases r1 with x1 | x1
    · exact qP_some k1
    · obtain ⟨y1_0, y1_1⟩ := x1
      have h1 : Fg _ _ y1_1 := k1
      exact qP_some h1
theorem fr_X2_fill_L19 (n : Nat) {N : Nat} {i2 i3 i4 : Int} {M M0 : qm} (h : Fg 4202496 M0 M) : qP (qf_X2_fill_L19 N n i2 i3 i4 M) (pU (fun r => Fg 4202496 M0 r.2) (fun r => Fg 4202496 M0 r.2)) := by
  unfold qf_X2_fill_L19
  exact qP_loop (I := fun s => Fg 4202496 M0 s.2.2.2) (fun s hs => fr_X2_fill_L19_b hs) n _ h
theorem fr_X2_fill {N : Nat} {i1 i2 : Int} {M M0 : qm} (h : Fg 4202496 M0 M) : qP (qf_X2_fill N i1 i2 M) (fun r => Fg 4202496 M0 r.2) := by
  unfold qf_X2_fill
  refine qP_ite ?_ ?_
  · refine qP_bnd (m0 := _) (Fg_wa (k := 13) h rfl rfl) (fun M1 h1 => ?_)
    refine qP_bnd (m0 := _) (Fg_wa (k := 22) h1 rfl rfl) (fun M2 h2 => ?_)
    refine qP_bind (fr_X2_fill_L19 _ h2) (fun r3 k3 => ?_)
    rcases r3 with x3 | x3
    · exact qP_some k3
    · obtain ⟨y3_0, y3_1⟩ := x3
      have h3 : Fg _ _ y3_1 := k3
      exact qP_some h3
  · exact qP_none
theorem fr_X2_fillFromEdge {N : Nat} {i1 i2 : Int} {M M0 : qm} (h : Fg 4202496 M0 M) : qP (qf_X2_fillFromEdge N i1 i2 M) (fun r => Fg 4202496 M0 r.2) := by
  unfold qf_X2_fillFromEdge
  refine qP_ite ?_ ?_
  · refine qP_ite ?_ ?_
    · refine qP_pure (fun r1 => ?_)
      refine qP_ite ?_ ?_
      · refine qP_bind (fr_X2_fill Fg_refl) (fun r2 k2 => ?_)
        have h2 := Fg_tr h (Fg_mono k2 rfl)
        exact qP_some h2
      · exact qP_some h
    · exact qP_some h
  · exact qP_none
theorem fr_X2_fillSpaces_L11_b {N : Nat} {i1 : Int} {M M0 : qm} (h : Fg 4333824 M0 M) : qP (qf_X2_fillSpaces_L11_b N i1 M) (pU (pU (fun r => Fg 4333824 M0 r.2) (fun r => Fg 4333824 M0 r.2)) (fun r => Fg 4333824 M0 r.2)) := by
  unfold qf_X2_fillSpaces_L11_b
  refine qP_ite ?_ ?_
  · exact qP_some h
  · refine qP_pure (fun r1 => ?_)
    refine qP_bind (fr_X2_fillFromEdge Fg_refl) (fun r2 k2 => ?_)
    have h2 := Fg_tr h (Fg_mono k2 rfl)
    refine qP_pure (fun r3 => ?_)
    refine qP_bind (fr_X2_fillFromEdge Fg_refl) (fun r4 k4 => ?_)
    have h4 := Fg_tr h2 (Fg_mono k4 rfl)
    refine qP_pure (fun r5 => ?_)
    refine qP_bind (fr_X2_fillFromEdge Fg_refl) (fun r6 k6 => ?_)
    have h6 := Fg_tr h4 (Fg_mono k6 rfl)
    refine qP_pure (fun r7 => ?_)
    refine qP_bind (fr_X2_fillFromEdge Fg_refl) (fun r8 k8 => ?_)
    have h8 := Fg_tr h6 (Fg_mono k8 rfl)
    exact qP_some h8
theorem fr_X2_fillSpaces_L11 (n : Nat) {N : Nat} {i1 : Int} {M M0 : qm} (h : Fg 4333824 M0 M) : qP (qf_X2_fillSpaces_L11 N n i1 M) (pU (fun r => Fg 4333824 M0 r.2) (fun r => Fg 4333824 M0 r.2)) := by
  unfold qf_X2_fillSpaces_L11
  exact qP_loop (I := fun s => Fg 4333824 M0 s.2) (fun s hs => fr_X2_fillSpaces_L11_b hs) n _ h
theorem fr_X2_fillSpaces_L72_b {N : Nat} {i1 : Int} {M M0 : qm} (h : Fg 4333824 M0 M) : qP (qf_X2_fillSpaces_L72_b N i1 M) (pU (pU (fun r => Fg 4333824 M0 r.2) (fun r => Fg 4333824 M0 r.2)) (fun r => Fg 4333824 M0 r.2)) := by
  unfold qf_X2_fillSpaces_L72_b
  refine qP_ite ?_ ?_
  · exact qP_some h
  · refine qP_ite ?_ ?_
    · refine qP_ite ?_ ?_
      · refine qP_ite ?_ ?_
        · exact qP_some h
        · refine qP_bind (fr_X2_fill Fg_refl) (fun r1 k1 => ?_)
          have h1 := Fg_tr h (Fg_mono k1 rfl)
          refine qP_ite ?_ ?_
          · refine qP_bnd (m0 := _) (Fg_wa (k := 17) h1 rfl rfl) (fun M2 h2 => ?_)
            refine qP_bnd (m0 := _) (Fg_w h2 rfl) (fun M3 h3 => ?_)
            exact qP_some h3
          · exact qP_none
      · exact qP_some h
    · exact qP_none
theorem fr_X2_fillSpaces_L72 (n : Nat) {N : Nat} {i1 : Int} {M M0 : qm} (h : Fg 4333824 M0 M) : qP (qf_X2_fillSpaces_L72 N n i1 M) (pU (fun r => Fg 4333824 M0 r.2) (fun r => Fg 4333824 M0 r.2)) := by
  unfold qf_X2_fillSpaces_L72
  exact qP_loop (I := fun s => Fg 4333824 M0 s.2) (fun s hs => fr_X2_fillSpaces_L72_b hs) n _ h
theorem fr_X2_fillSpaces {N : Nat} {M M0 : qm} (h : Fg 4333824 M0 M) : qP (qf_X2_fillSpaces N M) (fun r => Fg 4333824 M0 r.2) := by
  unfold qf_X2_fillSpaces
  refine qP_bnd (m0 := _) (Fg_f1 (k := 13) h (fun _ => rfl) rfl) (fun M1 h1 => ?_)
  refine qP_bind (fr_X2_fillSpaces_L11 _ h1) (fun r2 k2 => ?_)
  rcases r2 with x2 | x2
  · exact qP_some k2
  · obtain ⟨y2_0, y2_1⟩ := x2
    have h2 : Fg _ _ y2_1 := k2
    refine qP_bnd (m0 := _) (Fg_w h2 rfl) (fun M3 h3 => ?_)
    refine qP_bind (fr_X2_fillSpaces_L72 _ h3) (fun r4 k4 => ?_)
    rcases r4 with x4 | x4
    · exact qP_some k4
    · obtain ⟨y4_0, y4_1⟩ := x4
      have h4 : Fg _ _ y4_1 := k4
      exact qP_some h4
theorem fr_X2_traceRings_L12_b {N : Nat} {i1 : Int} {M M0 : qm} (h : Fg 3933696 M0 M) : qP (qf_X2_traceRings_L12_b N i1 M) (pU (pU (fun r => Fg 3933696 M0 r.2) (fun r => Fg 3933696 M0 r.2)) (fun r => Fg 3933696 M0 r.2)) := by
  unfold qf_X2_traceRings_L12_b
  refine qP_ite ?_ ?_
  · exact qP_some h
  · refine qP_ite ?_ ?_
    · refine qP_bnd (m0 := _) (Fg_wa (k := 21) h rfl rfl) (fun M1 h1 => ?_)
      exact qP_some h1
    · exact qP_none
theorem fr_X2_traceRings_L12 (n : Nat) {N : Nat} {i1 : Int} {M M0 : qm} (h : Fg 3933696 M0 M) : qP (qf_X2_traceRings_L12 N n i1 M) (pU (fun r => Fg 3933696 M0 r.2) (fun r => Fg 3933696 M0 r.2)) := by
  unfold qf_X2_traceRings_L12
  exact qP_loop (I := fun s => Fg 3933696 M0 s.2) (fun s hs => fr_X2_traceRings_L12_b hs) n _ h
theorem fr_X2_noteSide {N : Nat} {i1 i2 i3 i4 : Int} {M M0 : qm} (h : Fg 1049600 M0 M) : qP (qf_X2_noteSide N i1 i2 i3 i4 M) (fun r => Fg 1049600 M0 r.2) := by
  unfold qf_X2_noteSide
  refine qP_ite ?_ ?_
  · exact qP_some h
  · refine qP_ite ?_ ?_
    · refine qP_pure (fun r1 => ?_)
      refine qP_bnd (m0 := _) (Fg_wa (k := 20) h rfl rfl) (fun M2 h2 => ?_)
      refine qP_bnd (m0 := _) (Fg_wa (k := 20) h2 rfl rfl) (fun M3 h3 => ?_)
      refine qP_bnd (m0 := _) (Fg_wa (k := 20) h3 rfl rfl) (fun M4 h4 => ?_)
      refine qP_ite ?_ ?_
      · refine qP_bnd (m0 := _) (Fg_wa (k := 20) h4 rfl rfl) (fun M5 h5 => ?_)
        refine qP_ite ?_ ?_
        · refine qP_bnd (m0 := _) (Fg_wa (k := 20) h5 rfl rfl) (fun M6 h6 => ?_)
          refine qP_pure (fun r7 => ?_)
          refine qP_bnd (m0 := _) (Fg_wa (k := 20) h6 rfl rfl) (fun M8 h8 => ?_)
          refine qP_bnd (m0 := _) (Fg_w h8 rfl) (fun M9 h9 => ?_)
          exact qP_some h9
        · exact qP_none
      · exact qP_none
    · exact qP_none
theorem fr_X2_traceRing_L37_b {N : Nat} {i3 i4 i5 i6 i7 i8 i9 : Int} {M M0 : qm} (h : Fg 3933696 M0 M) : qP (qf_X2_traceRing_L37_b N i3 i4 i5 i6 i7 i8 i9 M) (pU (pU (fun r => Fg 3933696 M0 r.2) (fun r => Fg 3933696 M0 r.2)) (fun r => Fg 3933696 M0 r.2.2.2.2.2.2.2)) := by
  unfold qf_X2_traceRing_L37_b
  refine qP_ite ?_ ?_
  · exact qP_some h
  · refine qP_ite ?_ ?_
    · refine qP_ite ?_ ?_
      · refine qP_ite ?_ ?_
        · refine qP_bnd (m0 := _) (Fg_wa (k := 21) h rfl rfl) (fun M1 h1 => ?_)
          refine qP_pure (fun r2 => ?_)
          refine qP_bind (fr_X2_noteSide Fg_refl) (fun r3 k3 => ?_)
          have h3 := Fg_tr h1 (Fg_mono k3 rfl)
          refine qP_ite ?_ ?_
          · refine qP_ite ?_ ?_
            · refine qP_pure (fun r4 => ?_)
              exact qP_some h3
            · exact qP_none
          · exact qP_none
        · exact qP_none
      · exact qP_some h
    · exact qP_none
theorem fr_X2_traceRing_L37 (n : Nat) {N : Nat} {i3 i4 i5 i6 i7 i8 i9 : Int} {M M0 : qm} (h : Fg 3933696 M0 M) : qP (qf_X2_traceRing_L37 N n i3 i4 i5 i6 i7 i8 i9 M) (pU (fun r => Fg 3933696 M0 r.2) (fun r => Fg 3933696 M0 r.2)) := by
  unfold qf_X2_traceRing_L37
  exact qP_loop (I := fun s => Fg 3933696 M0 s.2.2.2.2.2.2.2) (fun s hs => fr_X2_traceRing_L37_b hs) n _ h
theorem fr_X2_traceRing_J155 {N : Nat} {i6 i7 i8 : Int} {M M0 : qm} (h : Fg 3933696 M0 M) : qP (qf_X2_traceRing_J155 N i6 i7 i8 M) (fun r => Fg 3933696 M0 r.2) := by
  unfold qf_X2_traceRing_J155
  refine qP_ite ?_ ?_
  · refine qP_bnd (m0 := _) (Fg_wa (k := 19) h rfl rfl) (fun M1 h1 => ?_)
    refine qP_bnd (m0 := _) (Fg_wa (k := 19) h1 rfl rfl) (fun M2 h2 => ?_)
    refine qP_bnd (m0 := _) (Fg_wa (k := 19) h2 rfl rfl) (fun M3 h3 => ?_)
    refine qP_bnd (m0 := _) (Fg_w h3 rfl) (fun M4 h4 => ?_)
    refine qP_ite ?_ ?_
    · exact qP_some h4
    · refine qP_ite ?_ ?_
      · refine qP_ite ?_ ?_
        · refine qP_bnd (m0 := _) (Fg_wa (k := 18) h4 rfl rfl) (fun M5 h5 => ?_)
          exact qP_some h5
        · exact qP_none
      · exact qP_none
  · exact qP_none
theorem fr_X2_traceRing {N : Nat} {i1 i2 : Int} {M M0 : qm} (h : Fg 3933696 M0 M) : qP (qf_X2_traceRing N i1 i2 M) (fun r => Fg 3933696 M0 r.2) := by
  unfold qf_X2_traceRing
  refine qP_pure (fun r1 => ?_)
  refine qP_bind (fr_X2_traceRing_L37 _ h) (fun r2 k2 => ?_)
  rcases r2 with x2 | x2
  · exact qP_some k2
  · obtain ⟨y2_0, y2_1⟩ := x2
    have h2 : Fg _ _ y2_1 := k2
    exact (fr_X2_traceRing_J155 h2)
theorem fr_X2_traceRings_J89 {N : Nat} {i1 i2 t0 : Int} {M M0 : qm} (h : Fg 3933696 M0 M) : qP (qf_X2_traceRings_J89 N i1 i2 t0 M) (pU (pU (fun r => Fg 3933696 M0 r.2) (fun r => Fg 3933696 M0 r.2)) (fun r => Fg 3933696 M0 r.2.2)) := by
  unfold qf_X2_traceRings_J89
  refine qP_ite ?_ ?_
  · exact qP_some h
  · refine qP_ite ?_ ?_
    · refine qP_ite ?_ ?_
      · refine qP_ite ?_ ?_
        · exact qP_some h
        · refine qP_bind (fr_X2_traceRing Fg_refl) (fun r1 k1 => ?_)
          have h1 := Fg_tr h (Fg_mono k1 rfl)
          exact qP_some h1
      · exact qP_some h
    · exact qP_none
theorem fr_X2_traceRings_J88 {N : Nat} {i1 i2 : Int} {M M0 : qm} (h : Fg 3933696 M0 M) : qP (qf_X2_traceRings_J88 N i1 i2 M) (pU (pU (fun r => Fg 3933696 M0 r.2) (fun r => Fg 3933696 M0 r.2)) (fun r => Fg 3933696 M0 r.2.2)) := by
  unfold qf_X2_traceRings_J88
  exact (fr_X2_traceRings_J89 h)
theorem fr_X2_traceRings_L53_b {N : Nat} {i1 i2 : Int} {M M0 : qm} (h : Fg 3933696 M0 M) : qP (qf_X2_traceRings_L53_b N i1 i2 M) (pU (pU (fun r => Fg 3933696 M0 r.2) (fun r => Fg 3933696 M0 r.2)) (fun r => Fg 3933696 M0 r.2.2)) := by
  unfold qf_X2_traceRings_L53_b
  refine qP_ite ?_ ?_
  · exact qP_some h
  · refine qP_ite ?_ ?_
    · refine qP_ite ?_ ?_
      · exact (fr_X2_traceRings_J88 h)
      · refine qP_pure (fun r1 => ?_)
        refine qP_ite ?_ ?_
        · exact (fr_X2_traceRings_J88 h)
        · exact (fr_X2_traceRings_J89 h)
    · exact qP_none
theorem fr_X2_traceRings_L53 (n : Nat) {N : Nat} {i1 i2 : Int} {M M0 : qm} (h : Fg 3933696 M0 M) : qP (qf_X2_traceRings_L53 N n i1 i2 M) (pU (fun r => Fg 3933696 M0 r.2) (fun r => Fg 3933696 M0 r.2)) := by
  unfold qf_X2_traceRings_L53
  exact qP_loop (I := fun s => Fg 3933696 M0 s.2.2) (fun s hs => fr_X2_traceRings_L53_b hs) n _ h
theorem fr_X2_traceRings_L44_b {N : Nat} {i1 : Int} {M M0 : qm} (h : Fg 3933696 M0 M) : qP (qf_X2_traceRings_L44_b N i1 M) (pU (pU (fun r => Fg 3933696 M0 r.2) (fun r => Fg 3933696 M0 r.2)) (fun r => Fg 3933696 M0 r.2)) := by
  unfold qf_X2_traceRings_L44_b
  refine qP_ite ?_ ?_
  · exact qP_some h
  · refine qP_bind (fr_X2_traceRings_L53 _ h) (fun r1 k1 => ?_)
    rcases r1 with x1 | x1
    · exact qP_some k1
    · obtain ⟨y1_0, y1_1⟩ := x1
      have h1 : Fg _ _ y1_1 := k1
      exact qP_some h1
theorem fr_X2_traceRings_L44 (n : Nat) {N : Nat} {i1 : Int} {M M0 : qm} (h : Fg 3933696 M0 M) : qP (qf_X2_traceRings_L44 N n i1 M) (pU (fun r => Fg 3933696 M0 r.2) (fun r => Fg 3933696 M0 r.2)) := by
  unfold qf_X2_traceRings_L44
  exact qP_loop (I := fun s => Fg 3933696 M0 s.2) (fun s hs => fr_X2_traceRings_L44_b hs) n _ h
theorem fr_X2_traceRings {N : Nat} {M M0 : qm} (h : Fg 3933696 M0 M) : qP (qf_X2_traceRings N M) (fun r => Fg 3933696 M0 r.2) := by
  unfold qf_X2_traceRings
  refine qP_bnd (m0 := _) (Fg_w h rfl) (fun M1 h1 => ?_)
  refine qP_bnd (m0 := _) (Fg_w h1 rfl) (fun M2 h2 => ?_)
  refine qP_bind (fr_X2_traceRings_L12 _ h2) (fun r3 k3 => ?_)
  rcases r3 with x3 | x3
  · exact qP_some k3
  · obtain ⟨y3_0, y3_1⟩ := x3
    have h3 : Fg _ _ y3_1 := k3
    refine qP_bnd (m0 := _) (Fg_f1 (k := 18) h3 (fun _ => rfl) rfl) (fun M4 h4 => ?_)
    refine qP_bind (fr_X2_traceRings_L44 _ h4) (fun r5 k5 => ?_)
    rcases r5 with x5 | x5
    · exact qP_some k5
    · obtain ⟨y5_0, y5_1⟩ := x5
      have h5 : Fg _ _ y5_1 := k5
      exact qP_some h5
theorem fr_X2_giveNameOn_L13_b {N : Nat} {i1 i2 : Int} {M M0 : qm} (h : Fg 12615680 M0 M) : qP (qf_X2_giveNameOn_L13_b N i1 i2 M) (pU (pU (fun r => Fg 12615680 M0 r.2) (fun r => Fg 12615680 M0 r.2)) (fun r => Fg 12615680 M0 r.2.2)) := by
  unfold qf_X2_giveNameOn_L13_b
  refine qP_ite ?_ ?_
  · exact qP_some h
  · refine qP_ite ?_ ?_
    · refine qP_ite ?_ ?_
      · refine qP_ite ?_ ?_
        · refine qP_ite ?_ ?_
          · exact qP_some h
          · refine qP_ite ?_ ?_
            · refine qP_ite ?_ ?_
              · refine qP_ite ?_ ?_
                · refine qP_bnd (m0 := _) (Fg_wa (k := 22) h rfl rfl) (fun M1 h1 => ?_)
                  exact qP_some h1
                · exact qP_none
              · exact qP_none
            · exact qP_none
        · exact qP_none
      · exact qP_some h
    · exact qP_none
theorem fr_X2_giveNameOn_L13 (n : Nat) {N : Nat} {i1 i2 : Int} {M M0 : qm} (h : Fg 12615680 M0 M) : qP (qf_X2_giveNameOn_L13 N n i1 i2 M) (pU (fun r => Fg 12615680 M0 r.2) (fun r => Fg 12615680 M0 r.2)) := by
  unfold qf_X2_giveNameOn_L13
  exact qP_loop (I := fun s => Fg 12615680 M0 s.2.2) (fun s hs => fr_X2_giveNameOn_L13_b hs) n _ h
theorem fr_X2_giveNameOn {N : Nat} {i1 : Int} {M M0 : qm} (h : Fg 12615680 M0 M) : qP (qf_X2_giveNameOn N i1 M) (fun r => Fg 12615680 M0 r.2) := by
  unfold qf_X2_giveNameOn
  refine qP_bnd (m0 := _) (Fg_f1 (k := 22) h (fun _ => rfl) rfl) (fun M1 h1 => ?_)
  refine qP_bind (fr_X2_giveNameOn_L13 _ h1) (fun r2 k2 => ?_)
  rcases r2 with x2 | x2
  · exact qP_some k2
  · obtain ⟨y2_0, y2_1⟩ := x2
    have h2 : Fg _ _ y2_1 := k2
    refine qP_pure (fun r3 => ?_)
    rcases r3 with x4 | x4
    · exact qP_some h2
    · refine qP_ite ?_ ?_
      · refine qP_ite ?_ ?_
        · refine qP_ite ?_ ?_
          · exact qP_some h2
          · refine qP_ite ?_ ?_
            · refine qP_ite ?_ ?_
              · refine qP_bnd (m0 := _) (Fg_wa (k := 23) h2 rfl rfl) (fun M5 h5 => ?_)
                refine qP_ite ?_ ?_
                · refine qP_ite ?_ ?_
                  · refine qP_bnd (m0 := _) (Fg_wa (k := 15) h5 rfl rfl) (fun M6 h6 => ?_)
                    exact qP_some h6
                  · exact qP_none
                · exact qP_none
              · exact qP_none
            · exact qP_none
        · exact qP_none
      · exact qP_none
theorem fr_X2_giveNamesOn_L18_b {N : Nat} {i1 i2 : Int} {M M0 : qm} (h : Fg 12615680 M0 M) : qP (qf_X2_giveNamesOn_L18_b N i1 i2 M) (pU (pU (fun r => Fg 12615680 M0 r.2) (fun r => Fg 12615680 M0 r.2)) (fun r => Fg 12615680 M0 r.2.2)) := by
  unfold qf_X2_giveNamesOn_L18_b
  refine qP_ite ?_ ?_
  · exact qP_some h
  · refine qP_ite ?_ ?_
    · refine qP_ite ?_ ?_
      · exact qP_some h
      · refine qP_bind (fr_X2_giveNameOn Fg_refl) (fun r1 k1 => ?_)
        have h1 := Fg_tr h (Fg_mono k1 rfl)
        exact qP_some h1
    · exact qP_none
theorem fr_X2_giveNamesOn_L18 (n : Nat) {N : Nat} {i1 i2 : Int} {M M0 : qm} (h : Fg 12615680 M0 M) : qP (qf_X2_giveNamesOn_L18 N n i1 i2 M) (pU (fun r => Fg 12615680 M0 r.2) (fun r => Fg 12615680 M0 r.2)) := by
  unfold qf_X2_giveNamesOn_L18
  exact qP_loop (I := fun s => Fg 12615680 M0 s.2.2) (fun s hs => fr_X2_giveNamesOn_L18_b hs) n _ h
theorem fr_X2_giveNamesOn {N : Nat} {i1 : Int} {M M0 : qm} (h : Fg 12615680 M0 M) : qP (qf_X2_giveNamesOn N i1 M) (fun r => Fg 12615680 M0 r.2) := by
  unfold qf_X2_giveNamesOn
  refine qP_bnd (m0 := _) (Fg_f1 (k := 15) h (fun _ => rfl) rfl) (fun M1 h1 => ?_)
  refine qP_bnd (m0 := _) (Fg_f1 (k := 23) h1 (fun _ => rfl) rfl) (fun M2 h2 => ?_)
  refine qP_bind (fr_X2_giveNamesOn_L18 _ h2) (fun r3 k3 => ?_)
  rcases r3 with x3 | x3
  · exact qP_some k3
  · obtain ⟨y3_0, y3_1⟩ := x3
    have h3 : Fg _ _ y3_1 := k3
    exact qP_some h3
theorem fr_X2_findSpaces {N : Nat} {M M0 : qm} (h : Fg 16777152 M0 M) : qP (qf_X2_findSpaces N M) (fun r => Fg 16777152 M0 r.2) := by
  unfold qf_X2_findSpaces
  refine qP_bind (fr_X2_swapBefore Fg_refl) (fun r1 k1 => ?_)
  have h1 := Fg_tr h (Fg_mono k1 rfl)
  refine qP_bind (fr_X2_drawWalls Fg_refl) (fun r2 k2 => ?_)
  have h2 := Fg_tr h1 (Fg_mono k2 rfl)
  refine qP_bind (fr_X2_markPoints Fg_refl) (fun r3 k3 => ?_)
  have h3 := Fg_tr h2 (Fg_mono k3 rfl)
  refine qP_bind (fr_X2_fillSpaces Fg_refl) (fun r4 k4 => ?_)
  have h4 := Fg_tr h3 (Fg_mono k4 rfl)
  refine qP_bind (fr_X2_traceRings Fg_refl) (fun r5 k5 => ?_)
  have h5 := Fg_tr h4 (Fg_mono k5 rfl)
  refine qP_bind (fr_X2_giveNamesOn Fg_refl) (fun r6 k6 => ?_)
  have h6 := Fg_tr h5 (Fg_mono k6 rfl)
  refine qP_bnd (m0 := _) (Fg_w h6 rfl) (fun M7 h7 => ?_)
  refine qP_bnd (m0 := _) (Fg_w h7 rfl) (fun M8 h8 => ?_)
  exact qP_some h8
theorem fr_X11_find_J24 {N : Nat} {t0 : Int} {M M0 : qm} (h : Fg 16777152 M0 M) : qP (qf_X11_find_J24 N t0 M) (fun r => Fg 16777152 M0 r.2) := by
  unfold qf_X11_find_J24
  refine qP_pure (fun r1 => ?_)
  rcases r1 with x2 | x2
  · refine qP_bind (fr_X2_findSpaces Fg_refl) (fun r3 k3 => ?_)
    have h3 := Fg_tr h (Fg_mono k3 rfl)
    exact qP_some h3
  · exact qP_some h
theorem fr_X11_find_J23 {N : Nat} {M M0 : qm} (h : Fg 16777152 M0 M) : qP (qf_X11_find_J23 N M) (fun r => Fg 16777152 M0 r.2) := by
  unfold qf_X11_find_J23
  exact (fr_X11_find_J24 h)
theorem fr_X11_find {N : Nat} {M M0 : qm} (h : Fg 16777152 M0 M) : qP (qf_X11_find N M) (fun r => Fg 16777152 M0 r.2) := by
  unfold qf_X11_find
  refine qP_ite ?_ ?_
  · refine qP_ite ?_ ?_
    · exact (fr_X11_find_J23 h)
    · exact (fr_X11_find_J24 h)
  · exact (fr_X11_find_J23 h)
theorem fr_L_find {N : Nat} {M M0 : qm} (h : Fg 165263992197562149737978827008192759957101170741070304821162198818601447809077836456297302609928821211897803006255856353216 M0 M) : qP (qf_L_find N M) (fun r => Fg 165263992197562149737978827008192759957101170741070304821162198818601447809077836456297302609928821211897803006255856353216 M0 r.2) := by
  unfold qf_L_find
  refine qP_bind (fr_X11_find Fg_refl) (fun r1 k1 => ?_)
  have h1 := Fg_tr h (Fg_mono k1 rfl)
  obtain ⟨x1, m1⟩ := r1
  rcases x1 with x1 | x1
  · have h1 : Fg _ _ m1 := h1
    refine qP_bnd (m0 := _) (Fg_wa (k := 406) h1 rfl rfl) (fun M2 h2 => ?_)
    exact qP_some h2
  · have h1 : Fg _ _ m1 := h1
    refine qP_ite ?_ ?_
    · exact qP_some h1
    · exact qP_none
theorem fr_X18_stays {N : Nat} {i1 : Int} {M M0 : qm} (h : Fg 1461501637330902918203684832716283019655932542976 M0 M) : qP (qf_X18_stays N i1 M) (fun r => Fg 1461501637330902918203684832716283019655932542976 M0 r.2) := by
  unfold qf_X18_stays
  refine qP_ite ?_ ?_
  · refine qP_bnd (m0 := _) (Fg_w h rfl) (fun M1 h1 => ?_)
    refine qP_ite ?_ ?_
    · exact qP_some h1
    · exact qP_none
  · refine qP_bnd (m0 := _) (Fg_w h rfl) (fun M2 h2 => ?_)
    refine qP_ite ?_ ?_
    · exact qP_some h2
    · exact qP_none
theorem fr_X16_turn {N : Nat} {M M0 : qm} (h : Fg 3201327631905485436639471449637261685871639846948365790085120 M0 M) : qP (qf_X16_turn N M) (fun r => Fg 3201327631905485436639471449637261685871639846948365790085120 M0 r.2) := by
  unfold qf_X16_turn
  refine qP_bnd (m0 := _) (Fg_sw (k := 200) (k2 := 199) (Fg_sw (k := 198) (k2 := 195) (Fg_sw (k := 197) (k2 := 194) (Fg_sw (k := 196) (k2 := 193) h (fun _ => rfl) rfl (fun _ => rfl) rfl) (fun _ => rfl) rfl (fun _ => rfl) rfl) (fun _ => rfl) rfl (fun _ => rfl) rfl) (fun _ => rfl) rfl (fun _ => rfl) rfl) (fun M1 h1 => ?_)
  refine qP_bnd (m0 := _) (Fg_w h1 rfl) (fun M2 h2 => ?_)
  refine qP_bnd (m0 := _) (Fg_w h2 rfl) (fun M3 h3 => ?_)
  refine qP_bnd (m0 := _) (Fg_w h3 rfl) (fun M4 h4 => ?_)
  refine qP_ite ?_ ?_
  · refine qP_bnd (m0 := _) (Fg_w h4 rfl) (fun M5 h5 => ?_)
    exact qP_some h5
  · exact qP_none
theorem fr_X16_insert_L37_b {N : Nat} {i1 i2 i3 i4 : Int} {M M0 : qm} (h : Fg 37662610412320084583014736539245998496614132666784207077376 M0 M) : qP (qf_X16_insert_L37_b N i1 i2 i3 i4 M) (pU (pU (fun r => Fg 37662610412320084583014736539245998496614132666784207077376 M0 r.2) (fun r => Fg 37662610412320084583014736539245998496614132666784207077376 M0 r.2)) (fun r => Fg 37662610412320084583014736539245998496614132666784207077376 M0 r.2.2.2.2)) := by
  unfold qf_X16_insert_L37_b
  refine qP_ite ?_ ?_
  · exact qP_some h
  · refine qP_ite ?_ ?_
    · refine qP_ite ?_ ?_
      · refine qP_bnd (m0 := _) (Fg_wa (k := 193) h rfl rfl) (fun M1 h1 => ?_)
        exact qP_some h1
      · exact qP_none
    · exact qP_none
theorem fr_X16_insert_L37 (n : Nat) {N : Nat} {i1 i2 i3 i4 : Int} {M M0 : qm} (h : Fg 37662610412320084583014736539245998496614132666784207077376 M0 M) : qP (qf_X16_insert_L37 N n i1 i2 i3 i4 M) (pU (fun r => Fg 37662610412320084583014736539245998496614132666784207077376 M0 r.2) (fun r => Fg 37662610412320084583014736539245998496614132666784207077376 M0 r.2)) := by
  unfold qf_X16_insert_L37
  exact qP_loop (I := fun s => Fg 37662610412320084583014736539245998496614132666784207077376 M0 s.2.2.2.2) (fun s hs => fr_X16_insert_L37_b hs) n _ h
theorem fr_X16_insert_J34 {N : Nat} {i1 i2 i3 : Int} {M M0 : qm} (h : Fg 37662610412320084583014736539245998496614132666784207077376 M0 M) : qP (qf_X16_insert_J34 N i1 i2 i3 M) (fun r => Fg 37662610412320084583014736539245998496614132666784207077376 M0 r.2) := by
  unfold qf_X16_insert_J34
  refine qP_bind (fr_X16_insert_L37 _ h) (fun r1 k1 => ?_)
  rcases r1 with x1 | x1
  · exact qP_some k1
  · obtain ⟨y1_0, y1_1⟩ := x1
    have h1 : Fg _ _ y1_1 := k1
    refine qP_ite ?_ ?_
    · refine qP_bnd (m0 := _) (Fg_wa (k := 193) h1 rfl rfl) (fun M2 h2 => ?_)
      exact qP_some h2
    · exact qP_none
theorem fr_X16_insert_J20 {N : Nat} {i1 i2 i3 : Int} {M M0 : qm} (h : Fg 37662610412320084583014736539245998496614132666784207077376 M0 M) : qP (qf_X16_insert_J20 N i1 i2 i3 M) (fun r => Fg 37662610412320084583014736539245998496614132666784207077376 M0 r.2) := by
  unfold qf_X16_insert_J20
  refine qP_ite ?_ ?_
  · exact (fr_X16_insert_J34 h)
  · refine qP_ite ?_ ?_
    · refine qP_ite ?_ ?_
      · exact qP_some h
      · exact (fr_X16_insert_J34 h)
    · exact qP_none
theorem fr_X16_insert {N : Nat} {i1 i2 : Int} {M M0 : qm} (h : Fg 37662610412320084583014736539245998496614132666784207077376 M0 M) : qP (qf_X16_insert N i1 i2 M) (fun r => Fg 37662610412320084583014736539245998496614132666784207077376 M0 r.2) := by
  unfold qf_X16_insert
  refine qP_pure (fun r1 => ?_)
  rcases r1 with x2 | x2
  · exact qP_some h
  · exact (fr_X16_insert_J20 h)
theorem fr_X16_insert_L37_s1_b {N : Nat} {i1 i2 i3 i4 : Int} {M M0 : qm} (h : Fg 37662610412320084583014736539245998496614132666784207077376 M0 M) : qP (qf_X16_insert_L37_s1_b N i1 i2 i3 i4 M) (pU (pU (fun r => Fg 37662610412320084583014736539245998496614132666784207077376 M0 r.2) (fun r => Fg 37662610412320084583014736539245998496614132666784207077376 M0 r.2)) (fun r => Fg 37662610412320084583014736539245998496614132666784207077376 M0 r.2.2.2.2)) := by
  unfold qf_X16_insert_L37_s1_b
  refine qP_ite ?_ ?_
  · exact qP_some h
  · refine qP_ite ?_ ?_
    · refine qP_ite ?_ ?_
      · refine qP_bnd (m0 := _) (Fg_wa (k := 194) h rfl rfl) (fun M1 h1 => ?_)
        exact qP_some h1
      · exact qP_none
    · exact qP_none
theorem fr_X16_insert_L37_s1 (n : Nat) {N : Nat} {i1 i2 i3 i4 : Int} {M M0 : qm} (h : Fg 37662610412320084583014736539245998496614132666784207077376 M0 M) : qP (qf_X16_insert_L37_s1 N n i1 i2 i3 i4 M) (pU (fun r => Fg 37662610412320084583014736539245998496614132666784207077376 M0 r.2) (fun r => Fg 37662610412320084583014736539245998496614132666784207077376 M0 r.2)) := by
  unfold qf_X16_insert_L37_s1
  exact qP_loop (I := fun s => Fg 37662610412320084583014736539245998496614132666784207077376 M0 s.2.2.2.2) (fun s hs => fr_X16_insert_L37_s1_b hs) n _ h
theorem fr_X16_insert_J34_s1 {N : Nat} {i1 i2 i3 : Int} {M M0 : qm} (h : Fg 37662610412320084583014736539245998496614132666784207077376 M0 M) : qP (qf_X16_insert_J34_s1 N i1 i2 i3 M) (fun r => Fg 37662610412320084583014736539245998496614132666784207077376 M0 r.2) := by
  unfold qf_X16_insert_J34_s1
  refine qP_bind (fr_X16_insert_L37_s1 _ h) (fun r1 k1 => ?_)
  rcases r1 with x1 | x1
  · exact qP_some k1
  · obtain ⟨y1_0, y1_1⟩ := x1
    have h1 : Fg _ _ y1_1 := k1
    refine qP_ite ?_ ?_
    · refine qP_bnd (m0 := _) (Fg_wa (k := 194) h1 rfl rfl) (fun M2 h2 => ?_)
      exact qP_some h2
    · exact qP_none
theorem fr_X16_insert_J20_s1 {N : Nat} {i1 i2 i3 : Int} {M M0 : qm} (h : Fg 37662610412320084583014736539245998496614132666784207077376 M0 M) : qP (qf_X16_insert_J20_s1 N i1 i2 i3 M) (fun r => Fg 37662610412320084583014736539245998496614132666784207077376 M0 r.2) := by
  unfold qf_X16_insert_J20_s1
  refine qP_ite ?_ ?_
  · exact (fr_X16_insert_J34_s1 h)
  · refine qP_ite ?_ ?_
    · refine qP_ite ?_ ?_
      · exact qP_some h
      · exact (fr_X16_insert_J34_s1 h)
    · exact qP_none
theorem fr_X16_insert_s1 {N : Nat} {i1 i2 : Int} {M M0 : qm} (h : Fg 37662610412320084583014736539245998496614132666784207077376 M0 M) : qP (qf_X16_insert_s1 N i1 i2 M) (fun r => Fg 37662610412320084583014736539245998496614132666784207077376 M0 r.2) := by
  unfold qf_X16_insert_s1
  refine qP_pure (fun r1 => ?_)
  rcases r1 with x2 | x2
  · exact qP_some h
  · exact (fr_X16_insert_J20_s1 h)
theorem fr_X16_run_L26_b {N : Nat} {i1 : Int} {M M0 : qm} (h : Fg 3290996609472812307950346782649997170367727507107412008807432192 M0 M) : qP (qf_X16_run_L26_b N i1 M) (pU (pU (fun r => Fg 3290996609472812307950346782649997170367727507107412008807432192 M0 r.2) (fun r => Fg 3290996609472812307950346782649997170367727507107412008807432192 M0 r.2)) (fun r => Fg 3290996609472812307950346782649997170367727507107412008807432192 M0 r.2)) := by
  unfold qf_X16_run_L26_b
  refine qP_ite ?_ ?_
  · exact qP_some h
  · refine qP_ite ?_ ?_
    · refine qP_bind (fr_X16_insert Fg_refl) (fun r1 k1 => ?_)
      have h1 := Fg_tr h (Fg_mono k1 rfl)
      refine qP_bnd (m0 := _) (Fg_w h1 rfl) (fun M2 h2 => ?_)
      refine qP_pure (fun r3 => ?_)
      refine qP_bind (fr_X16_insert Fg_refl) (fun r4 k4 => ?_)
      have h4 := Fg_tr h2 (Fg_mono k4 rfl)
      refine qP_bnd (m0 := _) (Fg_w h4 rfl) (fun M5 h5 => ?_)
      refine qP_ite ?_ ?_
      · refine qP_bind (fr_X16_insert_s1 Fg_refl) (fun r6 k6 => ?_)
        have h6 := Fg_tr h5 (Fg_mono k6 rfl)
        refine qP_bnd (m0 := _) (Fg_w h6 rfl) (fun M7 h7 => ?_)
        refine qP_pure (fun r8 => ?_)
        refine qP_bind (fr_X16_insert_s1 Fg_refl) (fun r9 k9 => ?_)
        have h9 := Fg_tr h7 (Fg_mono k9 rfl)
        refine qP_bnd (m0 := _) (Fg_w h9 rfl) (fun M10 h10 => ?_)
        exact qP_some h10
      · exact qP_none
    · exact qP_none
theorem fr_X16_run_L26 (n : Nat) {N : Nat} {i1 : Int} {M M0 : qm} (h : Fg 3290996609472812307950346782649997170367727507107412008807432192 M0 M) : qP (qf_X16_run_L26 N n i1 M) (pU (fun r => Fg 3290996609472812307950346782649997170367727507107412008807432192 M0 r.2) (fun r => Fg 3290996609472812307950346782649997170367727507107412008807432192 M0 r.2)) := by
  unfold qf_X16_run_L26
  exact qP_loop (I := fun s => Fg 3290996609472812307950346782649997170367727507107412008807432192 M0 s.2) (fun s hs => fr_X16_run_L26_b hs) n _ h
theorem fr_X16_fill_L2_b {N : Nat} {i1 : Int} {M M0 : qm} (h : Fg 50216813883093446110686315385661331328818843555712276103168 M0 M) : qP (qf_X16_fill_L2_b N i1 M) (pU (pU (fun r => Fg 50216813883093446110686315385661331328818843555712276103168 M0 r.2) (fun r => Fg 50216813883093446110686315385661331328818843555712276103168 M0 r.2)) (fun r => Fg 50216813883093446110686315385661331328818843555712276103168 M0 r.2)) := by
  unfold qf_X16_fill_L2_b
  refine qP_ite ?_ ?_
  · exact qP_some h
  · refine qP_ite ?_ ?_
    · refine qP_bnd (m0 := _) (Fg_wa (k := 195) h rfl rfl) (fun M1 h1 => ?_)
      exact qP_some h1
    · exact qP_none
theorem fr_X16_fill_L2 (n : Nat) {N : Nat} {i1 : Int} {M M0 : qm} (h : Fg 50216813883093446110686315385661331328818843555712276103168 M0 M) : qP (qf_X16_fill_L2 N n i1 M) (pU (fun r => Fg 50216813883093446110686315385661331328818843555712276103168 M0 r.2) (fun r => Fg 50216813883093446110686315385661331328818843555712276103168 M0 r.2)) := by
  unfold qf_X16_fill_L2
  exact qP_loop (I := fun s => Fg 50216813883093446110686315385661331328818843555712276103168 M0 s.2) (fun s hs => fr_X16_fill_L2_b hs) n _ h
theorem fr_X16_fill_J135 {N : Nat} {i2 i3 t0 t1 : Int} {M M0 : qm} (h : Fg 50216813883093446110686315385661331328818843555712276103168 M0 M) : qP (qf_X16_fill_J135 N i2 i3 t0 t1 M) (pU (pU (fun r => Fg 50216813883093446110686315385661331328818843555712276103168 M0 r.2) (fun r => Fg 50216813883093446110686315385661331328818843555712276103168 M0 r.2)) (fun r => Fg 50216813883093446110686315385661331328818843555712276103168 M0 r.2.2.2)) := by
  unfold qf_X16_fill_J135
  exact qP_some h
theorem fr_X16_fill_J134 {N : Nat} {i2 i3 t0 : Int} {M M0 : qm} (h : Fg 50216813883093446110686315385661331328818843555712276103168 M0 M) : qP (qf_X16_fill_J134 N i2 i3 t0 M) (pU (pU (fun r => Fg 50216813883093446110686315385661331328818843555712276103168 M0 r.2) (fun r => Fg 50216813883093446110686315385661331328818843555712276103168 M0 r.2)) (fun r => Fg 50216813883093446110686315385661331328818843555712276103168 M0 r.2.2.2)) := by
  unfold qf_X16_fill_J134
  exact (fr_X16_fill_J135 h)
theorem fr_X16_join_J51 {N : Nat} {i1 i2 i3 t0 : Int} {M M0 : qm} (h : Fg 50216813883093446110686315385661331328818843555712276103168 M0 M) : qP (qf_X16_join_J51 N i1 i2 i3 t0 M) (fun r => Fg 50216813883093446110686315385661331328818843555712276103168 M0 r.2) := by
  unfold qf_X16_join_J51
  refine qP_ite ?_ ?_
  · refine qP_bnd (m0 := _) (Fg_wa (k := 195) h rfl rfl) (fun M1 h1 => ?_)
    refine qP_ite ?_ ?_
    · refine qP_bnd (m0 := _) (Fg_wa (k := 195) h1 rfl rfl) (fun M2 h2 => ?_)
      refine qP_ite ?_ ?_
      · exact qP_some h2
      · exact qP_none
    · exact qP_none
  · exact qP_none
theorem fr_X16_join_J30 {N : Nat} {i1 i2 t0 : Int} {M M0 : qm} (h : Fg 50216813883093446110686315385661331328818843555712276103168 M0 M) : qP (qf_X16_join_J30 N i1 i2 t0 M) (fun r => Fg 50216813883093446110686315385661331328818843555712276103168 M0 r.2) := by
  unfold qf_X16_join_J30
  refine qP_ite ?_ ?_
  · refine qP_ite ?_ ?_
    · refine qP_ite ?_ ?_
      · exact (fr_X16_join_J51 h)
      · exact (fr_X16_join_J51 h)
    · exact qP_none
  · exact qP_none
theorem fr_X16_join {N : Nat} {i1 i2 : Int} {M M0 : qm} (h : Fg 50216813883093446110686315385661331328818843555712276103168 M0 M) : qP (qf_X16_join N i1 i2 M) (fun r => Fg 50216813883093446110686315385661331328818843555712276103168 M0 r.2) := by
  unfold qf_X16_join
  refine qP_ite ?_ ?_
  · refine qP_ite ?_ ?_
    · refine qP_ite ?_ ?_
      · refine qP_ite ?_ ?_
        · exact (fr_X16_join_J30 h)
        · exact qP_none
      · refine qP_ite ?_ ?_
        · exact (fr_X16_join_J30 h)
        · exact qP_none
    · exact qP_none
  · exact qP_none
theorem fr_X16_fill_J95 {N : Nat} {i2 i3 i4 t0 t1 : Int} {M M0 : qm} (h : Fg 50216813883093446110686315385661331328818843555712276103168 M0 M) : qP (qf_X16_fill_J95 N i2 i3 i4 t0 t1 M) (pU (pU (fun r => Fg 50216813883093446110686315385661331328818843555712276103168 M0 r.2) (fun r => Fg 50216813883093446110686315385661331328818843555712276103168 M0 r.2)) (fun r => Fg 50216813883093446110686315385661331328818843555712276103168 M0 r.2.2.2)) := by
  unfold qf_X16_fill_J95
  refine qP_ite ?_ ?_
  · exact (fr_X16_fill_J134 h)
  · refine qP_pure (fun r1 => ?_)
    refine qP_ite ?_ ?_
    · refine qP_bind (fr_X16_join Fg_refl) (fun r2 k2 => ?_)
      have h2 := Fg_tr h (Fg_mono k2 rfl)
      refine qP_ite ?_ ?_
      · exact (fr_X16_fill_J134 h2)
      · exact (fr_X16_fill_J135 h2)
    · exact (fr_X16_fill_J134 h)
theorem fr_X16_fill_J94 {N : Nat} {i2 i3 i4 t0 : Int} {M M0 : qm} (h : Fg 50216813883093446110686315385661331328818843555712276103168 M0 M) : qP (qf_X16_fill_J94 N i2 i3 i4 t0 M) (pU (pU (fun r => Fg 50216813883093446110686315385661331328818843555712276103168 M0 r.2) (fun r => Fg 50216813883093446110686315385661331328818843555712276103168 M0 r.2)) (fun r => Fg 50216813883093446110686315385661331328818843555712276103168 M0 r.2.2.2)) := by
  unfold qf_X16_fill_J94
  exact (fr_X16_fill_J95 h)
theorem fr_X16_fill_L42_b {N : Nat} {i1 i2 i3 : Int} {M M0 : qm} (h : Fg 50216813883093446110686315385661331328818843555712276103168 M0 M) : qP (qf_X16_fill_L42_b N i1 i2 i3 M) (pU (pU (fun r => Fg 50216813883093446110686315385661331328818843555712276103168 M0 r.2) (fun r => Fg 50216813883093446110686315385661331328818843555712276103168 M0 r.2)) (fun r => Fg 50216813883093446110686315385661331328818843555712276103168 M0 r.2.2.2)) := by
  unfold qf_X16_fill_L42_b
  refine qP_ite ?_ ?_
  · exact qP_some h
  · refine qP_ite ?_ ?_
    · exact (fr_X16_fill_J94 h)
    · refine qP_pure (fun r1 => ?_)
      refine qP_ite ?_ ?_
      · refine qP_bind (fr_X16_join Fg_refl) (fun r2 k2 => ?_)
        have h2 := Fg_tr h (Fg_mono k2 rfl)
        refine qP_ite ?_ ?_
        · exact (fr_X16_fill_J94 h2)
        · exact (fr_X16_fill_J95 h2)
      · exact (fr_X16_fill_J94 h)
theorem fr_X16_fill_L42 (n : Nat) {N : Nat} {i1 i2 i3 : Int} {M M0 : qm} (h : Fg 50216813883093446110686315385661331328818843555712276103168 M0 M) : qP (qf_X16_fill_L42 N n i1 i2 i3 M) (pU (fun r => Fg 50216813883093446110686315385661331328818843555712276103168 M0 r.2) (fun r => Fg 50216813883093446110686315385661331328818843555712276103168 M0 r.2)) := by
  unfold qf_X16_fill_L42
  exact qP_loop (I := fun s => Fg 50216813883093446110686315385661331328818843555712276103168 M0 s.2.2.2) (fun s hs => fr_X16_fill_L42_b hs) n _ h
theorem fr_X16_fill_L32_b {N : Nat} {i1 i2 : Int} {M M0 : qm} (h : Fg 50216813883093446110686315385661331328818843555712276103168 M0 M) : qP (qf_X16_fill_L32_b N i1 i2 M) (pU (pU (fun r => Fg 50216813883093446110686315385661331328818843555712276103168 M0 r.2) (fun r => Fg 50216813883093446110686315385661331328818843555712276103168 M0 r.2)) (fun r => Fg 50216813883093446110686315385661331328818843555712276103168 M0 r.2.2)) := by
  unfold qf_X16_fill_L32_b
  refine qP_ite ?_ ?_
  · exact qP_some h
  · refine qP_bind (fr_X16_fill_L42 _ h) (fun r1 k1 => ?_)
    rcases r1 with x1 | x1
    · exact qP_some k1
    · obtain ⟨y1_0, y1_1⟩ := x1
      have h1 : Fg _ _ y1_1 := k1
      exact qP_some h1
theorem fr_X16_fill_L32 (n : Nat) {N : Nat} {i1 i2 : Int} {M M0 : qm} (h : Fg 50216813883093446110686315385661331328818843555712276103168 M0 M) : qP (qf_X16_fill_L32 N n i1 i2 M) (pU (fun r => Fg 50216813883093446110686315385661331328818843555712276103168 M0 r.2) (fun r => Fg 50216813883093446110686315385661331328818843555712276103168 M0 r.2)) := by
  unfold qf_X16_fill_L32
  exact qP_loop (I := fun s => Fg 50216813883093446110686315385661331328818843555712276103168 M0 s.2.2) (fun s hs => fr_X16_fill_L32_b hs) n _ h
theorem fr_X16_fill_L24_b {N : Nat} {i1 : Int} {M M0 : qm} (h : Fg 50216813883093446110686315385661331328818843555712276103168 M0 M) : qP (qf_X16_fill_L24_b N i1 M) (pU (pU (fun r => Fg 50216813883093446110686315385661331328818843555712276103168 M0 r.2) (fun r => Fg 50216813883093446110686315385661331328818843555712276103168 M0 r.2)) (fun r => Fg 50216813883093446110686315385661331328818843555712276103168 M0 r.2)) := by
  unfold qf_X16_fill_L24_b
  refine qP_ite ?_ ?_
  · exact qP_some h
  · refine qP_bind (fr_X16_fill_L32 _ h) (fun r1 k1 => ?_)
    rcases r1 with x1 | x1
    · exact qP_some k1
    · obtain ⟨y1_0, y1_1⟩ := x1
      have h1 : Fg _ _ y1_1 := k1
      exact qP_some h1
theorem fr_X16_fill_L24 (n : Nat) {N : Nat} {i1 : Int} {M M0 : qm} (h : Fg 50216813883093446110686315385661331328818843555712276103168 M0 M) : qP (qf_X16_fill_L24 N n i1 M) (pU (fun r => Fg 50216813883093446110686315385661331328818843555712276103168 M0 r.2) (fun r => Fg 50216813883093446110686315385661331328818843555712276103168 M0 r.2)) := by
  unfold qf_X16_fill_L24
  exact qP_loop (I := fun s => Fg 50216813883093446110686315385661331328818843555712276103168 M0 s.2) (fun s hs => fr_X16_fill_L24_b hs) n _ h
theorem fr_X16_fill {N : Nat} {M M0 : qm} (h : Fg 50216813883093446110686315385661331328818843555712276103168 M0 M) : qP (qf_X16_fill N M) (fun r => Fg 50216813883093446110686315385661331328818843555712276103168 M0 r.2) := by
  unfold qf_X16_fill
  refine qP_bind (fr_X16_fill_L2 _ h) (fun r1 k1 => ?_)
  rcases r1 with x1 | x1
  · exact qP_some k1
  · obtain ⟨y1_0, y1_1⟩ := x1
    have h1 : Fg _ _ y1_1 := k1
    refine qP_bind (fr_X16_fill_L24 _ h1) (fun r2 k2 => ?_)
    rcases r2 with x2 | x2
    · exact qP_some k2
    · obtain ⟨y2_0, y2_1⟩ := x2
      have h2 : Fg _ _ y2_1 := k2
      exact qP_some h2
theorem fr_X16_point_J59 {N : Nat} {i1 i2 i3 : Int} {M M0 : qm} (h : Fg 9641634395536105116807205987435084216369952437653245746216960 M0 M) : qP (qf_X16_point_J59 N i1 i2 i3 M) (pU (pU (fun r => Fg 9641634395536105116807205987435084216369952437653245746216960 M0 r.2) (fun r => Fg 9641634395536105116807205987435084216369952437653245746216960 M0 r.2)) (fun r => Fg 9641634395536105116807205987435084216369952437653245746216960 M0 r.2.2.2)) := by
  unfold qf_X16_point_J59
  refine qP_ite ?_ ?_
  · refine qP_ite ?_ ?_
    · refine qP_bnd (m0 := _) (Fg_wa (k := 201) h rfl rfl) (fun M1 h1 => ?_)
      refine qP_ite ?_ ?_
      · refine qP_ite ?_ ?_
        · refine qP_bnd (m0 := _) (Fg_wa (k := 202) h1 rfl rfl) (fun M2 h2 => ?_)
          exact qP_some h2
        · exact qP_none
      · exact qP_none
    · exact qP_none
  · exact qP_none
theorem fr_X16_point_L19_b {N : Nat} {i1 i2 i3 : Int} {M M0 : qm} (h : Fg 9641634395536105116807205987435084216369952437653245746216960 M0 M) : qP (qf_X16_point_L19_b N i1 i2 i3 M) (pU (pU (fun r => Fg 9641634395536105116807205987435084216369952437653245746216960 M0 r.2) (fun r => Fg 9641634395536105116807205987435084216369952437653245746216960 M0 r.2)) (fun r => Fg 9641634395536105116807205987435084216369952437653245746216960 M0 r.2.2.2)) := by
  unfold qf_X16_point_L19_b
  refine qP_ite ?_ ?_
  · exact qP_some h
  · refine qP_ite ?_ ?_
    · refine qP_ite ?_ ?_
      · exact (fr_X16_point_J59 h)
      · refine qP_ite ?_ ?_
        · refine qP_ite ?_ ?_
          · refine qP_ite ?_ ?_
            · refine qP_ite ?_ ?_
              · exact qP_some h
              · exact (fr_X16_point_J59 h)
            · exact qP_none
          · exact qP_some h
        · exact qP_none
    · exact qP_none
theorem fr_X16_point_L19 (n : Nat) {N : Nat} {i1 i2 i3 : Int} {M M0 : qm} (h : Fg 9641634395536105116807205987435084216369952437653245746216960 M0 M) : qP (qf_X16_point_L19 N n i1 i2 i3 M) (pU (fun r => Fg 9641634395536105116807205987435084216369952437653245746216960 M0 r.2) (fun r => Fg 9641634395536105116807205987435084216369952437653245746216960 M0 r.2)) := by
  unfold qf_X16_point_L19
  exact qP_loop (I := fun s => Fg 9641634395536105116807205987435084216369952437653245746216960 M0 s.2.2.2) (fun s hs => fr_X16_point_L19_b hs) n _ h
theorem fr_X16_point_J93 {N : Nat} {i1 i2 i3 : Int} {M M0 : qm} (h : Fg 9641634395536105116807205987435084216369952437653245746216960 M0 M) : qP (qf_X16_point_J93 N i1 i2 i3 M) (fun r => Fg 9641634395536105116807205987435084216369952437653245746216960 M0 r.2) := by
  unfold qf_X16_point_J93
  refine qP_ite ?_ ?_
  · refine qP_bnd (m0 := _) (Fg_wa (k := 201) h rfl rfl) (fun M1 h1 => ?_)
    refine qP_ite ?_ ?_
    · refine qP_bnd (m0 := _) (Fg_wa (k := 202) h1 rfl rfl) (fun M2 h2 => ?_)
      refine qP_bnd (m0 := _) (Fg_w h2 rfl) (fun M3 h3 => ?_)
      exact qP_some h3
    · exact qP_none
  · exact qP_none
theorem fr_X16_point {N : Nat} {i1 i2 : Int} {M M0 : qm} (h : Fg 9641634395536105116807205987435084216369952437653245746216960 M0 M) : qP (qf_X16_point N i1 i2 M) (fun r => Fg 9641634395536105116807205987435084216369952437653245746216960 M0 r.2) := by
  unfold qf_X16_point
  refine qP_pure (fun r1 => ?_)
  refine qP_ite ?_ ?_
  · refine qP_bind (fr_X16_point_L19 _ h) (fun r2 k2 => ?_)
    rcases r2 with x2 | x2
    · exact qP_some k2
    · obtain ⟨y2_0, y2_1⟩ := x2
      have h2 : Fg _ _ y2_1 := k2
      exact (fr_X16_point_J93 h2)
  · exact qP_some h
theorem fr_X16_findPoints_L47_b {N : Nat} {i1 i2 : Int} {M M0 : qm} (h : Fg 99630177134003887474267950025316407160086789039402621991911424 M0 M) : qP (qf_X16_findPoints_L47_b N i1 i2 M) (pU (pU (fun r => Fg 99630177134003887474267950025316407160086789039402621991911424 M0 r.2) (fun r => Fg 99630177134003887474267950025316407160086789039402621991911424 M0 r.2)) (fun r => Fg 99630177134003887474267950025316407160086789039402621991911424 M0 r.2.2)) := by
  unfold qf_X16_findPoints_L47_b
  refine qP_ite ?_ ?_
  · exact qP_some h
  · refine qP_ite ?_ ?_
    · refine qP_ite ?_ ?_
      · exact qP_some h
      · refine qP_ite ?_ ?_
        · refine qP_ite ?_ ?_
          · refine qP_ite ?_ ?_
            · refine qP_ite ?_ ?_
              · refine qP_pure (fun r1 => ?_)
                refine qP_ite ?_ ?_
                · exact qP_some h
                · refine qP_ite ?_ ?_
                  · refine qP_ite ?_ ?_
                    · refine qP_pure (fun r2 => ?_)
                      refine qP_ite ?_ ?_
                      · exact qP_some h
                      · refine qP_ite ?_ ?_
                        · refine qP_ite ?_ ?_
                          · refine qP_bind (fr_X16_point Fg_refl) (fun r3 k3 => ?_)
                            have h3 := Fg_tr h (Fg_mono k3 rfl)
                            exact qP_some h3
                          · exact qP_none
                        · exact qP_none
                    · exact qP_none
                  · exact qP_none
              · exact qP_none
            · exact qP_none
          · exact qP_some h
        · exact qP_none
    · exact qP_none
theorem fr_X16_findPoints_L47 (n : Nat) {N : Nat} {i1 i2 : Int} {M M0 : qm} (h : Fg 99630177134003887474267950025316407160086789039402621991911424 M0 M) : qP (qf_X16_findPoints_L47 N n i1 i2 M) (pU (fun r => Fg 99630177134003887474267950025316407160086789039402621991911424 M0 r.2) (fun r => Fg 99630177134003887474267950025316407160086789039402621991911424 M0 r.2)) := by
  unfold qf_X16_findPoints_L47
  exact qP_loop (I := fun s => Fg 99630177134003887474267950025316407160086789039402621991911424 M0 s.2.2) (fun s hs => fr_X16_findPoints_L47_b hs) n _ h
theorem fr_X16_findPoints_L7_b {N : Nat} {i1 : Int} {M M0 : qm} (h : Fg 99630177134003887474267950025316407160086789039402621991911424 M0 M) : qP (qf_X16_findPoints_L7_b N i1 M) (pU (pU (fun r => Fg 99630177134003887474267950025316407160086789039402621991911424 M0 r.2) (fun r => Fg 99630177134003887474267950025316407160086789039402621991911424 M0 r.2)) (fun r => Fg 99630177134003887474267950025316407160086789039402621991911424 M0 r.2)) := by
  unfold qf_X16_findPoints_L7_b
  refine qP_ite ?_ ?_
  · exact qP_some h
  · refine qP_ite ?_ ?_
    · refine qP_ite ?_ ?_
      · refine qP_bind (fr_X16_point Fg_refl) (fun r1 k1 => ?_)
        have h1 := Fg_tr h (Fg_mono k1 rfl)
        refine qP_pure (fun r2 => ?_)
        refine qP_pure (fun r3 => ?_)
        refine qP_bind (fr_X16_point Fg_refl) (fun r4 k4 => ?_)
        have h4 := Fg_tr h1 (Fg_mono k4 rfl)
        refine qP_bind (fr_X16_findPoints_L47 _ h4) (fun r5 k5 => ?_)
        rcases r5 with x5 | x5
        · exact qP_some k5
        · obtain ⟨y5_0, y5_1⟩ := x5
          have h5 : Fg _ _ y5_1 := k5
          exact qP_some h5
      · exact qP_none
    · exact qP_none
theorem fr_X16_findPoints_L7 (n : Nat) {N : Nat} {i1 : Int} {M M0 : qm} (h : Fg 99630177134003887474267950025316407160086789039402621991911424 M0 M) : qP (qf_X16_findPoints_L7 N n i1 M) (pU (fun r => Fg 99630177134003887474267950025316407160086789039402621991911424 M0 r.2) (fun r => Fg 99630177134003887474267950025316407160086789039402621991911424 M0 r.2)) := by
  unfold qf_X16_findPoints_L7
  exact qP_loop (I := fun s => Fg 99630177134003887474267950025316407160086789039402621991911424 M0 s.2) (fun s hs => fr_X16_findPoints_L7_b hs) n _ h
theorem fr_X16_findPoints_J232 {N : Nat} {i1 i3 : Int} {M M0 : qm} (h : Fg 99630177134003887474267950025316407160086789039402621991911424 M0 M) : qP (qf_X16_findPoints_J232 N i1 i3 M) (pU (pU (fun r => Fg 99630177134003887474267950025316407160086789039402621991911424 M0 r.2) (fun r => Fg 99630177134003887474267950025316407160086789039402621991911424 M0 r.2)) (fun r => Fg 99630177134003887474267950025316407160086789039402621991911424 M0 r.2.2.2)) := by
  unfold qf_X16_findPoints_J232
  exact qP_some h
theorem fr_X16_findPoints_L160_b {N : Nat} {i1 i2 i3 : Int} {M M0 : qm} (h : Fg 99630177134003887474267950025316407160086789039402621991911424 M0 M) : qP (qf_X16_findPoints_L160_b N i1 i2 i3 M) (pU (pU (fun r => Fg 99630177134003887474267950025316407160086789039402621991911424 M0 r.2) (fun r => Fg 99630177134003887474267950025316407160086789039402621991911424 M0 r.2)) (fun r => Fg 99630177134003887474267950025316407160086789039402621991911424 M0 r.2.2.2)) := by
  unfold qf_X16_findPoints_L160_b
  refine qP_ite ?_ ?_
  · exact qP_some h
  · refine qP_ite ?_ ?_
    · refine qP_ite ?_ ?_
      · refine qP_pure (fun r1 => ?_)
        refine qP_ite ?_ ?_
        · exact qP_some h
        · refine qP_ite ?_ ?_
          · exact (fr_X16_findPoints_J232 h)
          · refine qP_ite ?_ ?_
            · refine qP_bnd (m0 := _) (Fg_wa (k := 203) h rfl rfl) (fun M2 h2 => ?_)
              refine qP_ite ?_ ?_
              · refine qP_bnd (m0 := _) (Fg_wa (k := 204) h2 rfl rfl) (fun M3 h3 => ?_)
                refine qP_ite ?_ ?_
                · refine qP_bnd (m0 := _) (Fg_wa (k := 205) h3 rfl rfl) (fun M4 h4 => ?_)
                  refine qP_bnd (m0 := _) (Fg_w h4 rfl) (fun M5 h5 => ?_)
                  exact (fr_X16_findPoints_J232 h5)
                · exact qP_none
              · exact qP_none
            · exact qP_none
      · exact qP_none
    · exact qP_none
theorem fr_X16_findPoints_L160 (n : Nat) {N : Nat} {i1 i2 i3 : Int} {M M0 : qm} (h : Fg 99630177134003887474267950025316407160086789039402621991911424 M0 M) : qP (qf_X16_findPoints_L160 N n i1 i2 i3 M) (pU (fun r => Fg 99630177134003887474267950025316407160086789039402621991911424 M0 r.2) (fun r => Fg 99630177134003887474267950025316407160086789039402621991911424 M0 r.2)) := by
  unfold qf_X16_findPoints_L160
  exact qP_loop (I := fun s => Fg 99630177134003887474267950025316407160086789039402621991911424 M0 s.2.2.2) (fun s hs => fr_X16_findPoints_L160_b hs) n _ h
theorem fr_X16_findPoints_L148_b {N : Nat} {i1 : Int} {M M0 : qm} (h : Fg 99630177134003887474267950025316407160086789039402621991911424 M0 M) : qP (qf_X16_findPoints_L148_b N i1 M) (pU (pU (fun r => Fg 99630177134003887474267950025316407160086789039402621991911424 M0 r.2) (fun r => Fg 99630177134003887474267950025316407160086789039402621991911424 M0 r.2)) (fun r => Fg 99630177134003887474267950025316407160086789039402621991911424 M0 r.2)) := by
  unfold qf_X16_findPoints_L148_b
  refine qP_ite ?_ ?_
  · exact qP_some h
  · refine qP_bind (fr_X16_findPoints_L160 _ h) (fun r1 k1 => ?_)
    rcases r1 with x1 | x1
    · exact qP_some k1
    · obtain ⟨y1_0, y1_1⟩ := x1
      have h1 : Fg _ _ y1_1 := k1
      exact qP_some h1
theorem fr_X16_findPoints_L148 (n : Nat) {N : Nat} {i1 : Int} {M M0 : qm} (h : Fg 99630177134003887474267950025316407160086789039402621991911424 M0 M) : qP (qf_X16_findPoints_L148 N n i1 M) (pU (fun r => Fg 99630177134003887474267950025316407160086789039402621991911424 M0 r.2) (fun r => Fg 99630177134003887474267950025316407160086789039402621991911424 M0 r.2)) := by
  unfold qf_X16_findPoints_L148
  exact qP_loop (I := fun s => Fg 99630177134003887474267950025316407160086789039402621991911424 M0 s.2) (fun s hs => fr_X16_findPoints_L148_b hs) n _ h
theorem fr_X16_findPoints {N : Nat} {M M0 : qm} (h : Fg 99630177134003887474267950025316407160086789039402621991911424 M0 M) : qP (qf_X16_findPoints N M) (fun r => Fg 99630177134003887474267950025316407160086789039402621991911424 M0 r.2) := by
  unfold qf_X16_findPoints
  refine qP_bnd (m0 := _) (Fg_w h rfl) (fun M1 h1 => ?_)
  refine qP_bind (fr_X16_findPoints_L7 _ h1) (fun r2 k2 => ?_)
  rcases r2 with x2 | x2
  · exact qP_some k2
  · obtain ⟨y2_0, y2_1⟩ := x2
    have h2 : Fg _ _ y2_1 := k2
    refine qP_bnd (m0 := _) (Fg_w h2 rfl) (fun M3 h3 => ?_)
    refine qP_bind (fr_X16_findPoints_L148 _ h3) (fun r4 k4 => ?_)
    rcases r4 with x4 | x4
    · exact qP_some k4
    · obtain ⟨y4_0, y4_1⟩ := x4
      have h4 : Fg _ _ y4_1 := k4
      exact qP_some h4
theorem fr_X16_findRings_L7_b {N : Nat} {i1 : Int} {M M0 : qm} (h : Fg 719908268347956297297020751102393280334893879114517145152651264 M0 M) : qP (qf_X16_findRings_L7_b N i1 M) (pU (pU (fun r => Fg 719908268347956297297020751102393280334893879114517145152651264 M0 r.2) (fun r => Fg 719908268347956297297020751102393280334893879114517145152651264 M0 r.2)) (fun r => Fg 719908268347956297297020751102393280334893879114517145152651264 M0 r.2)) := by
  unfold qf_X16_findRings_L7_b
  refine qP_ite ?_ ?_
  · exact qP_some h
  · refine qP_ite ?_ ?_
    · refine qP_bnd (m0 := _) (Fg_wa (k := 206) h rfl rfl) (fun M1 h1 => ?_)
      exact qP_some h1
    · exact qP_none
theorem fr_X16_findRings_L7 (n : Nat) {N : Nat} {i1 : Int} {M M0 : qm} (h : Fg 719908268347956297297020751102393280334893879114517145152651264 M0 M) : qP (qf_X16_findRings_L7 N n i1 M) (pU (fun r => Fg 719908268347956297297020751102393280334893879114517145152651264 M0 r.2) (fun r => Fg 719908268347956297297020751102393280334893879114517145152651264 M0 r.2)) := by
  unfold qf_X16_findRings_L7
  exact qP_loop (I := fun s => Fg 719908268347956297297020751102393280334893879114517145152651264 M0 s.2) (fun s hs => fr_X16_findRings_L7_b hs) n _ h
theorem fr_X16_findRings_L87_b {N : Nat} {i1 i2 i3 : Int} {M M0 : qm} (h : Fg 719908268347956297297020751102393280334893879114517145152651264 M0 M) : qP (qf_X16_findRings_L87_b N i1 i2 i3 M) (pU (pU (fun r => Fg 719908268347956297297020751102393280334893879114517145152651264 M0 r.2) (fun r => Fg 719908268347956297297020751102393280334893879114517145152651264 M0 r.2)) (fun r => Fg 719908268347956297297020751102393280334893879114517145152651264 M0 r.2.2.2)) := by
  unfold qf_X16_findRings_L87_b
  refine qP_ite ?_ ?_
  · refine qP_ite ?_ ?_
    · refine qP_ite ?_ ?_
      · refine qP_bnd (m0 := _) (Fg_wa (k := 206) h rfl rfl) (fun M1 h1 => ?_)
        refine qP_ite ?_ ?_
        · refine qP_ite ?_ ?_
          · refine qP_bnd (m0 := _) (Fg_wa (k := 208) h1 rfl rfl) (fun M2 h2 => ?_)
            refine qP_pure (fun r3 => ?_)
            exact qP_some h2
          · exact qP_none
        · exact qP_none
      · exact qP_none
    · exact qP_some h
  · exact qP_none
theorem fr_X16_findRings_L87 (n : Nat) {N : Nat} {i1 i2 i3 : Int} {M M0 : qm} (h : Fg 719908268347956297297020751102393280334893879114517145152651264 M0 M) : qP (qf_X16_findRings_L87 N n i1 i2 i3 M) (pU (fun r => Fg 719908268347956297297020751102393280334893879114517145152651264 M0 r.2) (fun r => Fg 719908268347956297297020751102393280334893879114517145152651264 M0 r.2)) := by
  unfold qf_X16_findRings_L87
  exact qP_loop (I := fun s => Fg 719908268347956297297020751102393280334893879114517145152651264 M0 s.2.2.2) (fun s hs => fr_X16_findRings_L87_b hs) n _ h
theorem fr_X16_findRings_L42_b {N : Nat} {i1 i2 : Int} {M M0 : qm} (h : Fg 719908268347956297297020751102393280334893879114517145152651264 M0 M) : qP (qf_X16_findRings_L42_b N i1 i2 M) (pU (pU (fun r => Fg 719908268347956297297020751102393280334893879114517145152651264 M0 r.2) (fun r => Fg 719908268347956297297020751102393280334893879114517145152651264 M0 r.2)) (fun r => Fg 719908268347956297297020751102393280334893879114517145152651264 M0 r.2.2)) := by
  unfold qf_X16_findRings_L42_b
  refine qP_ite ?_ ?_
  · exact qP_some h
  · refine qP_pure (fun r1 => ?_)
    refine qP_ite ?_ ?_
    · exact qP_some h
    · refine qP_ite ?_ ?_
      · refine qP_ite ?_ ?_
        · refine qP_ite ?_ ?_
          · refine qP_bnd (m0 := _) (Fg_wa (k := 207) h rfl rfl) (fun M2 h2 => ?_)
            refine qP_ite ?_ ?_
            · refine qP_bnd (m0 := _) (Fg_wa (k := 208) h2 rfl rfl) (fun M3 h3 => ?_)
              refine qP_bind (fr_X16_findRings_L87 _ h3) (fun r4 k4 => ?_)
              rcases r4 with x4 | x4
              · exact qP_some k4
              · obtain ⟨y4_0, y4_1⟩ := x4
                have h4 : Fg _ _ y4_1 := k4
                refine qP_bnd (m0 := _) (Fg_w h4 rfl) (fun M5 h5 => ?_)
                exact qP_some h5
            · exact qP_none
          · exact qP_none
        · exact qP_some h
      · exact qP_none
theorem fr_X16_findRings_L42 (n : Nat) {N : Nat} {i1 i2 : Int} {M M0 : qm} (h : Fg 719908268347956297297020751102393280334893879114517145152651264 M0 M) : qP (qf_X16_findRings_L42 N n i1 i2 M) (pU (fun r => Fg 719908268347956297297020751102393280334893879114517145152651264 M0 r.2) (fun r => Fg 719908268347956297297020751102393280334893879114517145152651264 M0 r.2)) := by
  unfold qf_X16_findRings_L42
  exact qP_loop (I := fun s => Fg 719908268347956297297020751102393280334893879114517145152651264 M0 s.2.2) (fun s hs => fr_X16_findRings_L42_b hs) n _ h
theorem fr_X16_findRings_L32_b {N : Nat} {i1 : Int} {M M0 : qm} (h : Fg 719908268347956297297020751102393280334893879114517145152651264 M0 M) : qP (qf_X16_findRings_L32_b N i1 M) (pU (pU (fun r => Fg 719908268347956297297020751102393280334893879114517145152651264 M0 r.2) (fun r => Fg 719908268347956297297020751102393280334893879114517145152651264 M0 r.2)) (fun r => Fg 719908268347956297297020751102393280334893879114517145152651264 M0 r.2)) := by
  unfold qf_X16_findRings_L32_b
  refine qP_ite ?_ ?_
  · exact qP_some h
  · refine qP_bind (fr_X16_findRings_L42 _ h) (fun r1 k1 => ?_)
    rcases r1 with x1 | x1
    · exact qP_some k1
    · obtain ⟨y1_0, y1_1⟩ := x1
      have h1 : Fg _ _ y1_1 := k1
      exact qP_some h1
theorem fr_X16_findRings_L32 (n : Nat) {N : Nat} {i1 : Int} {M M0 : qm} (h : Fg 719908268347956297297020751102393280334893879114517145152651264 M0 M) : qP (qf_X16_findRings_L32 N n i1 M) (pU (fun r => Fg 719908268347956297297020751102393280334893879114517145152651264 M0 r.2) (fun r => Fg 719908268347956297297020751102393280334893879114517145152651264 M0 r.2)) := by
  unfold qf_X16_findRings_L32
  exact qP_loop (I := fun s => Fg 719908268347956297297020751102393280334893879114517145152651264 M0 s.2) (fun s hs => fr_X16_findRings_L32_b hs) n _ h
theorem fr_X16_findRings {N : Nat} {M M0 : qm} (h : Fg 719908268347956297297020751102393280334893879114517145152651264 M0 M) : qP (qf_X16_findRings N M) (fun r => Fg 719908268347956297297020751102393280334893879114517145152651264 M0 r.2) := by
  unfold qf_X16_findRings
  refine qP_bnd (m0 := _) (Fg_w h rfl) (fun M1 h1 => ?_)
  refine qP_bind (fr_X16_findRings_L7 _ h1) (fun r2 k2 => ?_)
  rcases r2 with x2 | x2
  · exact qP_some k2
  · obtain ⟨y2_0, y2_1⟩ := x2
    have h2 : Fg _ _ y2_1 := k2
    refine qP_bind (fr_X16_findRings_L32 _ h2) (fun r3 k3 => ?_)
    rcases r3 with x3 | x3
    · exact qP_some k3
    · obtain ⟨y3_0, y3_1⟩ := x3
      have h3 : Fg _ _ y3_1 := k3
      exact qP_some h3
theorem fr_X16_number_L14_b {N : Nat} {i1 i2 : Int} {M M0 : qm} (h : Fg 822802495666048057131831384888854292216485399612688034223357952 M0 M) : qP (qf_X16_number_L14_b N i1 i2 M) (pU (pU (fun r => Fg 822802495666048057131831384888854292216485399612688034223357952 M0 r.2) (fun r => Fg 822802495666048057131831384888854292216485399612688034223357952 M0 r.2)) (fun r => Fg 822802495666048057131831384888854292216485399612688034223357952 M0 r.2.2)) := by
  unfold qf_X16_number_L14_b
  refine qP_ite ?_ ?_
  · exact qP_some h
  · refine qP_ite ?_ ?_
    · refine qP_bnd (m0 := _) (Fg_wa (k := 209) h rfl rfl) (fun M1 h1 => ?_)
      exact qP_some h1
    · exact qP_none
theorem fr_X16_number_L14 (n : Nat) {N : Nat} {i1 i2 : Int} {M M0 : qm} (h : Fg 822802495666048057131831384888854292216485399612688034223357952 M0 M) : qP (qf_X16_number_L14 N n i1 i2 M) (pU (fun r => Fg 822802495666048057131831384888854292216485399612688034223357952 M0 r.2) (fun r => Fg 822802495666048057131831384888854292216485399612688034223357952 M0 r.2)) := by
  unfold qf_X16_number_L14
  exact qP_loop (I := fun s => Fg 822802495666048057131831384888854292216485399612688034223357952 M0 s.2.2) (fun s hs => fr_X16_number_L14_b hs) n _ h
theorem fr_X16_number_L44_b {N : Nat} {i2 : Int} {M M0 : qm} (h : Fg 822802495666048057131831384888854292216485399612688034223357952 M0 M) : qP (qf_X16_number_L44_b N i2 M) (pU (pU (fun r => Fg 822802495666048057131831384888854292216485399612688034223357952 M0 r.2) (fun r => Fg 822802495666048057131831384888854292216485399612688034223357952 M0 r.2)) (fun r => Fg 822802495666048057131831384888854292216485399612688034223357952 M0 r.2)) := by
  unfold qf_X16_number_L44_b
  refine qP_ite ?_ ?_
  · exact qP_some h
  · refine qP_ite ?_ ?_
    · refine qP_pure (fun r1 => ?_)
      refine qP_ite ?_ ?_
      · refine qP_ite ?_ ?_
        · refine qP_ite ?_ ?_
          · refine qP_bnd (m0 := _) (Fg_wa (k := 209) h rfl rfl) (fun M2 h2 => ?_)
            refine qP_bnd (m0 := _) (Fg_w h2 rfl) (fun M3 h3 => ?_)
            exact qP_some h3
          · exact qP_none
        · exact qP_some h
      · exact qP_none
    · exact qP_none
theorem fr_X16_number_L44 (n : Nat) {N : Nat} {i2 : Int} {M M0 : qm} (h : Fg 822802495666048057131831384888854292216485399612688034223357952 M0 M) : qP (qf_X16_number_L44 N n i2 M) (pU (fun r => Fg 822802495666048057131831384888854292216485399612688034223357952 M0 r.2) (fun r => Fg 822802495666048057131831384888854292216485399612688034223357952 M0 r.2)) := by
  unfold qf_X16_number_L44
  exact qP_loop (I := fun s => Fg 822802495666048057131831384888854292216485399612688034223357952 M0 s.2) (fun s hs => fr_X16_number_L44_b hs) n _ h
theorem fr_X16_number_L112_b {N : Nat} {i2 i3 : Int} {M M0 : qm} (h : Fg 822802495666048057131831384888854292216485399612688034223357952 M0 M) : qP (qf_X16_number_L112_b N i2 i3 M) (pU (pU (fun r => Fg 822802495666048057131831384888854292216485399612688034223357952 M0 r.2) (fun r => Fg 822802495666048057131831384888854292216485399612688034223357952 M0 r.2)) (fun r => Fg 822802495666048057131831384888854292216485399612688034223357952 M0 r.2.2)) := by
  unfold qf_X16_number_L112_b
  refine qP_ite ?_ ?_
  · exact qP_some h
  · refine qP_ite ?_ ?_
    · refine qP_ite ?_ ?_
      · refine qP_ite ?_ ?_
        · refine qP_bnd (m0 := _) (Fg_wa (k := 195) h rfl rfl) (fun M1 h1 => ?_)
          exact qP_some h1
        · exact qP_none
      · exact qP_none
    · exact qP_none
theorem fr_X16_number_L112 (n : Nat) {N : Nat} {i2 i3 : Int} {M M0 : qm} (h : Fg 822802495666048057131831384888854292216485399612688034223357952 M0 M) : qP (qf_X16_number_L112 N n i2 i3 M) (pU (fun r => Fg 822802495666048057131831384888854292216485399612688034223357952 M0 r.2) (fun r => Fg 822802495666048057131831384888854292216485399612688034223357952 M0 r.2)) := by
  unfold qf_X16_number_L112
  exact qP_loop (I := fun s => Fg 822802495666048057131831384888854292216485399612688034223357952 M0 s.2.2) (fun s hs => fr_X16_number_L112_b hs) n _ h
theorem fr_X16_number_L102_b {N : Nat} {i2 : Int} {M M0 : qm} (h : Fg 822802495666048057131831384888854292216485399612688034223357952 M0 M) : qP (qf_X16_number_L102_b N i2 M) (pU (pU (fun r => Fg 822802495666048057131831384888854292216485399612688034223357952 M0 r.2) (fun r => Fg 822802495666048057131831384888854292216485399612688034223357952 M0 r.2)) (fun r => Fg 822802495666048057131831384888854292216485399612688034223357952 M0 r.2)) := by
  unfold qf_X16_number_L102_b
  refine qP_ite ?_ ?_
  · exact qP_some h
  · refine qP_bind (fr_X16_number_L112 _ h) (fun r1 k1 => ?_)
    rcases r1 with x1 | x1
    · exact qP_some k1
    · obtain ⟨y1_0, y1_1⟩ := x1
      have h1 : Fg _ _ y1_1 := k1
      exact qP_some h1
theorem fr_X16_number_L102 (n : Nat) {N : Nat} {i2 : Int} {M M0 : qm} (h : Fg 822802495666048057131831384888854292216485399612688034223357952 M0 M) : qP (qf_X16_number_L102 N n i2 M) (pU (fun r => Fg 822802495666048057131831384888854292216485399612688034223357952 M0 r.2) (fun r => Fg 822802495666048057131831384888854292216485399612688034223357952 M0 r.2)) := by
  unfold qf_X16_number_L102
  exact qP_loop (I := fun s => Fg 822802495666048057131831384888854292216485399612688034223357952 M0 s.2) (fun s hs => fr_X16_number_L102_b hs) n _ h
theorem fr_X16_number {N : Nat} {M M0 : qm} (h : Fg 822802495666048057131831384888854292216485399612688034223357952 M0 M) : qP (qf_X16_number N M) (fun r => Fg 822802495666048057131831384888854292216485399612688034223357952 M0 r.2) := by
  unfold qf_X16_number
  refine qP_bnd (m0 := _) (Fg_w h rfl) (fun M1 h1 => ?_)
  refine qP_bind (fr_X16_number_L14 _ h1) (fun r2 k2 => ?_)
  rcases r2 with x2 | x2
  · exact qP_some k2
  · obtain ⟨y2_0, y2_1⟩ := x2
    have h2 : Fg _ _ y2_1 := k2
    refine qP_ite ?_ ?_
    · refine qP_bnd (m0 := _) (Fg_wa (k := 209) h2 rfl rfl) (fun M3 h3 => ?_)
      refine qP_bind (fr_X16_number_L44 _ h3) (fun r4 k4 => ?_)
      rcases r4 with x4 | x4
      · exact qP_some k4
      · obtain ⟨y4_0, y4_1⟩ := x4
        have h4 : Fg _ _ y4_1 := k4
        refine qP_bind (fr_X16_number_L102 _ h4) (fun r5 k5 => ?_)
        rcases r5 with x5 | x5
        · exact qP_some k5
        · obtain ⟨y5_0, y5_1⟩ := x5
          have h5 : Fg _ _ y5_1 := k5
          exact qP_some h5
    · exact qP_none
theorem fr_X16_run_L140_b {N : Nat} {i1 : Int} {M M0 : qm} (h : Fg 3290996609472812307950346782649997170367727507107412008807432192 M0 M) : qP (qf_X16_run_L140_b N i1 M) (pU (pU (fun r => Fg 3290996609472812307950346782649997170367727507107412008807432192 M0 r.2) (fun r => Fg 3290996609472812307950346782649997170367727507107412008807432192 M0 r.2)) (fun r => Fg 3290996609472812307950346782649997170367727507107412008807432192 M0 r.2)) := by
  unfold qf_X16_run_L140_b
  refine qP_ite ?_ ?_
  · exact qP_some h
  · refine qP_ite ?_ ?_
    · refine qP_bnd (m0 := _) (Fg_wa (k := 199) h rfl rfl) (fun M1 h1 => ?_)
      exact qP_some h1
    · exact qP_none
theorem fr_X16_run_L140 (n : Nat) {N : Nat} {i1 : Int} {M M0 : qm} (h : Fg 3290996609472812307950346782649997170367727507107412008807432192 M0 M) : qP (qf_X16_run_L140 N n i1 M) (pU (fun r => Fg 3290996609472812307950346782649997170367727507107412008807432192 M0 r.2) (fun r => Fg 3290996609472812307950346782649997170367727507107412008807432192 M0 r.2)) := by
  unfold qf_X16_run_L140
  exact qP_loop (I := fun s => Fg 3290996609472812307950346782649997170367727507107412008807432192 M0 s.2) (fun s hs => fr_X16_run_L140_b hs) n _ h
theorem fr_X16_run_J171 {N : Nat} {M M0 : qm} (h : Fg 3290996609472812307950346782649997170367727507107412008807432192 M0 M) : qP (qf_X16_run_J171 N M) (fun r => Fg 3290996609472812307950346782649997170367727507107412008807432192 M0 r.2) := by
  unfold qf_X16_run_J171
  refine qP_bnd (m0 := _) (Fg_w h rfl) (fun M1 h1 => ?_)
  refine qP_bnd (m0 := _) (Fg_w h1 rfl) (fun M2 h2 => ?_)
  exact qP_some h2
theorem fr_X16_carry_L2_b {N : Nat} {i1 : Int} {M M0 : qm} (h : Fg 1646308026343335537292740163603521086283996967130471259766259712 M0 M) : qP (qf_X16_carry_L2_b N i1 M) (pU (pU (fun r => Fg 1646308026343335537292740163603521086283996967130471259766259712 M0 r.2) (fun r => Fg 1646308026343335537292740163603521086283996967130471259766259712 M0 r.2)) (fun r => Fg 1646308026343335537292740163603521086283996967130471259766259712 M0 r.2)) := by
  unfold qf_X16_carry_L2_b
  refine qP_ite ?_ ?_
  · exact qP_some h
  · refine qP_ite ?_ ?_
    · refine qP_bnd (m0 := _) (Fg_wa (k := 210) h rfl rfl) (fun M1 h1 => ?_)
      exact qP_some h1
    · exact qP_none
theorem fr_X16_carry_L2 (n : Nat) {N : Nat} {i1 : Int} {M M0 : qm} (h : Fg 1646308026343335537292740163603521086283996967130471259766259712 M0 M) : qP (qf_X16_carry_L2 N n i1 M) (pU (fun r => Fg 1646308026343335537292740163603521086283996967130471259766259712 M0 r.2) (fun r => Fg 1646308026343335537292740163603521086283996967130471259766259712 M0 r.2)) := by
  unfold qf_X16_carry_L2
  exact qP_loop (I := fun s => Fg 1646308026343335537292740163603521086283996967130471259766259712 M0 s.2) (fun s hs => fr_X16_carry_L2_b hs) n _ h
theorem fr_X16_carry_J99 {N : Nat} {i1 i2 i3 : Int} {M M0 : qm} (h : Fg 1646308026343335537292740163603521086283996967130471259766259712 M0 M) : qP (qf_X16_carry_J99 N i1 i2 i3 M) (pU (pU (fun r => Fg 1646308026343335537292740163603521086283996967130471259766259712 M0 r.2) (fun r => Fg 1646308026343335537292740163603521086283996967130471259766259712 M0 r.2)) (fun r => Fg 1646308026343335537292740163603521086283996967130471259766259712 M0 r.2)) := by
  unfold qf_X16_carry_J99
  refine qP_ite ?_ ?_
  · exact qP_some h
  · refine qP_ite ?_ ?_
    · refine qP_ite ?_ ?_
      · exact qP_some h
      · refine qP_ite ?_ ?_
        · refine qP_bnd (m0 := _) (Fg_wa (k := 210) h rfl rfl) (fun M1 h1 => ?_)
          refine qP_ite ?_ ?_
          · refine qP_ite ?_ ?_
            · refine qP_bnd (m0 := _) (Fg_wa (k := 199) h1 rfl rfl) (fun M2 h2 => ?_)
              exact qP_some h2
            · exact qP_none
          · exact qP_none
        · exact qP_none
    · exact qP_none
theorem fr_X16_carry_L25_b {N : Nat} {i1 : Int} {M M0 : qm} (h : Fg 1646308026343335537292740163603521086283996967130471259766259712 M0 M) : qP (qf_X16_carry_L25_b N i1 M) (pU (pU (fun r => Fg 1646308026343335537292740163603521086283996967130471259766259712 M0 r.2) (fun r => Fg 1646308026343335537292740163603521086283996967130471259766259712 M0 r.2)) (fun r => Fg 1646308026343335537292740163603521086283996967130471259766259712 M0 r.2)) := by
  unfold qf_X16_carry_L25_b
  refine qP_ite ?_ ?_
  · exact qP_some h
  · refine qP_pure (fun r1 => ?_)
    rcases r1 with x2 | x2
    · exact qP_some h
    · exact (fr_X16_carry_J99 h)
theorem fr_X16_carry_L25 (n : Nat) {N : Nat} {i1 : Int} {M M0 : qm} (h : Fg 1646308026343335537292740163603521086283996967130471259766259712 M0 M) : qP (qf_X16_carry_L25 N n i1 M) (pU (fun r => Fg 1646308026343335537292740163603521086283996967130471259766259712 M0 r.2) (fun r => Fg 1646308026343335537292740163603521086283996967130471259766259712 M0 r.2)) := by
  unfold qf_X16_carry_L25
  exact qP_loop (I := fun s => Fg 1646308026343335537292740163603521086283996967130471259766259712 M0 s.2) (fun s hs => fr_X16_carry_L25_b hs) n _ h
theorem fr_X16_carry {N : Nat} {M M0 : qm} (h : Fg 1646308026343335537292740163603521086283996967130471259766259712 M0 M) : qP (qf_X16_carry N M) (fun r => Fg 1646308026343335537292740163603521086283996967130471259766259712 M0 r.2) := by
  unfold qf_X16_carry
  refine qP_bind (fr_X16_carry_L2 _ h) (fun r1 k1 => ?_)
  rcases r1 with x1 | x1
  · exact qP_some k1
  · obtain ⟨y1_0, y1_1⟩ := x1
    have h1 : Fg _ _ y1_1 := k1
    refine qP_bind (fr_X16_carry_L25 _ h1) (fun r2 k2 => ?_)
    rcases r2 with x2 | x2
    · exact qP_some k2
    · obtain ⟨y2_0, y2_1⟩ := x2
      have h2 : Fg _ _ y2_1 := k2
      exact qP_some h2
theorem fr_X16_run {N : Nat} {M M0 : qm} (h : Fg 3290996609472812307950346782649997170367727507107412008807432192 M0 M) : qP (qf_X16_run N M) (fun r => Fg 3290996609472812307950346782649997170367727507107412008807432192 M0 r.2) := by
  unfold qf_X16_run
  refine qP_bnd (m0 := _) (Fg_w h rfl) (fun M1 h1 => ?_)
  refine qP_bind (fr_X16_turn Fg_refl) (fun r2 k2 => ?_)
  have h2 := Fg_tr h1 (Fg_mono k2 rfl)
  refine qP_bnd (m0 := _) (Fg_w h2 rfl) (fun M3 h3 => ?_)
  refine qP_bnd (m0 := _) (Fg_w h3 rfl) (fun M4 h4 => ?_)
  refine qP_bind (fr_X16_run_L26 _ h4) (fun r5 k5 => ?_)
  rcases r5 with x5 | x5
  · exact qP_some k5
  · obtain ⟨y5_0, y5_1⟩ := x5
    have h5 : Fg _ _ y5_1 := k5
    refine qP_bind (fr_X16_fill Fg_refl) (fun r6 k6 => ?_)
    have h6 := Fg_tr h5 (Fg_mono k6 rfl)
    refine qP_bind (fr_X16_findPoints Fg_refl) (fun r7 k7 => ?_)
    have h7 := Fg_tr h6 (Fg_mono k7 rfl)
    refine qP_bind (fr_X16_findRings Fg_refl) (fun r8 k8 => ?_)
    have h8 := Fg_tr h7 (Fg_mono k8 rfl)
    refine qP_bind (fr_X16_number Fg_refl) (fun r9 k9 => ?_)
    have h9 := Fg_tr h8 (Fg_mono k9 rfl)
    refine qP_bind (fr_X16_run_L140 _ h9) (fun r10 k10 => ?_)
    rcases r10 with x10 | x10
    · exact qP_some k10
    · obtain ⟨y10_0, y10_1⟩ := x10
      have h10 : Fg _ _ y10_1 := k10
      refine qP_ite ?_ ?_
      · exact (fr_X16_run_J171 h10)
      · refine qP_bind (fr_X16_carry Fg_refl) (fun r11 k11 => ?_)
        have h11 := Fg_tr h10 (Fg_mono k11 rfl)
        exact (fr_X16_run_J171 h11)
theorem fr_X18_find_J25 {N : Nat} {t1 : Int} {M M0 : qm} (h : Fg 3290996609472813769451984113552915374052560223390431664739975168 M0 M) : qP (qf_X18_find_J25 N t1 M) (fun r => Fg 3290996609472813769451984113552915374052560223390431664739975168 M0 r.2) := by
  unfold qf_X18_find_J25
  refine qP_bind (fr_X18_stays Fg_refl) (fun r1 k1 => ?_)
  have h1 := Fg_tr h (Fg_mono k1 rfl)
  refine qP_ite ?_ ?_
  · exact qP_some h1
  · refine qP_bind (fr_X16_run Fg_refl) (fun r2 k2 => ?_)
    have h2 := Fg_tr h1 (Fg_mono k2 rfl)
    exact qP_some h2
theorem fr_X18_find_J24 {N : Nat} {M M0 : qm} (h : Fg 3290996609472813769451984113552915374052560223390431664739975168 M0 M) : qP (qf_X18_find_J24 N M) (fun r => Fg 3290996609472813769451984113552915374052560223390431664739975168 M0 r.2) := by
  unfold qf_X18_find_J24
  exact (fr_X18_find_J25 h)
theorem fr_X18_find {N : Nat} {M M0 : qm} (h : Fg 3290996609472813769451984113552915374052560223390431664739975168 M0 M) : qP (qf_X18_find N M) (fun r => Fg 3290996609472813769451984113552915374052560223390431664739975168 M0 r.2) := by
  unfold qf_X18_find
  refine qP_ite ?_ ?_
  · refine qP_ite ?_ ?_
    · exact (fr_X18_find_J24 h)
    · exact (fr_X18_find_J25 h)
  · exact (fr_X18_find_J24 h)
theorem fr_L_count {N : Nat} {i1 : Int} {M M0 : qm} (h : Fg 165263992197562149737978827008192759957101170741070304821162198818601447809077836456297302609928821211897803006255839576064 M0 M) : qP (qf_L_count N i1 M) (fun r => Fg 165263992197562149737978827008192759957101170741070304821162198818601447809077836456297302609928821211897803006255839576064 M0 r.2) := by
  unfold qf_L_count
  refine qP_pure (fun r1 => ?_)
  rcases r1 with x2 | x2
  · refine qP_bnd (m0 := _) (Fg_wa (k := 406) h rfl rfl) (fun M3 h3 => ?_)
    exact qP_some h3
  · refine qP_ite ?_ ?_
    · exact qP_some h
    · refine qP_ite ?_ ?_
      · exact qP_some h
      · exact qP_none
theorem fr_X18_count {N : Nat} {i1 : Int} {M M0 : qm} (h : Fg 1461501637330902918203684832716283019655932542976 M0 M) : qP (qf_X18_count N i1 M) (fun r => Fg 1461501637330902918203684832716283019655932542976 M0 r.2) := by
  unfold qf_X18_count
  refine qP_pure (fun r1 => ?_)
  refine qP_bind (fr_X18_goes Fg_refl) (fun r2 k2 => ?_)
  have h2 := Fg_tr h (Fg_mono k2 rfl)
  refine qP_ite ?_ ?_
  · exact qP_some h2
  · refine qP_ite ?_ ?_
    · exact qP_some h2
    · refine qP_ite ?_ ?_
      · exact qP_some h2
      · refine qP_ite ?_ ?_
        · exact qP_some h2
        · refine qP_pure (fun r3 => ?_)
          exact qP_some h2
theorem fr_L_sides {N : Nat} {i1 i2 : Int} {M M0 : qm} (h : Fg 165263992197562149737978827008192759957101170741070304821162198818601447809077836456297302609928821211897803006255839576064 M0 M) : qP (qf_L_sides N i1 i2 M) (fun r => Fg 165263992197562149737978827008192759957101170741070304821162198818601447809077836456297302609928821211897803006255839576064 M0 r.2) := by
  unfold qf_L_sides
  refine qP_pure (fun r1 => ?_)
  rcases r1 with x2 | x2
  · refine qP_bnd (m0 := _) (Fg_wa (k := 406) h rfl rfl) (fun M3 h3 => ?_)
    exact qP_some h3
  · refine qP_ite ?_ ?_
    · exact qP_some h
    · refine qP_ite ?_ ?_
      · exact qP_some h
      · exact qP_none
theorem fr_X18_sides_J21 {N : Nat} {i1 i2 t1 : Int} {M M0 : qm} (h : Fg 1461501637330902918203684832716283019655932542976 M0 M) : qP (qf_X18_sides_J21 N i1 i2 t1 M) (fun r => Fg 1461501637330902918203684832716283019655932542976 M0 r.2) := by
  unfold qf_X18_sides_J21
  refine qP_bind (fr_X18_goes Fg_refl) (fun r1 k1 => ?_)
  have h1 := Fg_tr h (Fg_mono k1 rfl)
  refine qP_ite ?_ ?_
  · exact qP_some h1
  · refine qP_pure (fun r2 => ?_)
    exact qP_some h1
theorem fr_X18_sides_J20 {N : Nat} {i1 i2 : Int} {M M0 : qm} (h : Fg 1461501637330902918203684832716283019655932542976 M0 M) : qP (qf_X18_sides_J20 N i1 i2 M) (fun r => Fg 1461501637330902918203684832716283019655932542976 M0 r.2) := by
  unfold qf_X18_sides_J20
  exact (fr_X18_sides_J21 h)
theorem fr_X18_sides {N : Nat} {i1 i2 : Int} {M M0 : qm} (h : Fg 1461501637330902918203684832716283019655932542976 M0 M) : qP (qf_X18_sides N i1 i2 M) (fun r => Fg 1461501637330902918203684832716283019655932542976 M0 r.2) := by
  unfold qf_X18_sides
  refine qP_pure (fun r1 => ?_)
  refine qP_ite ?_ ?_
  · exact (fr_X18_sides_J20 h)
  · refine qP_ite ?_ ?_
    · exact (fr_X18_sides_J20 h)
    · exact (fr_X18_sides_J21 h)
theorem fr_L_side {N : Nat} {i1 i2 i3 i4 : Int} {M M0 : qm} (h : Fg 165263992197562149737978827008192759957101170741070304821162198818601447809077836456297302609928821211897803006255839576064 M0 M) : qP (qf_L_side N i1 i2 i3 i4 M) (fun r => Fg 165263992197562149737978827008192759957101170741070304821162198818601447809077836456297302609928821211897803006255839576064 M0 r.2) := by
  unfold qf_L_side
  refine qP_pure (fun r1 => ?_)
  rcases r1 with x2 | x2
  · refine qP_bnd (m0 := _) (Fg_wa (k := 406) h rfl rfl) (fun M3 h3 => ?_)
    exact qP_some h3
  · refine qP_ite ?_ ?_
    · exact qP_some h
    · refine qP_ite ?_ ?_
      · exact qP_some h
      · exact qP_none
theorem fr_X18_side_J47 {N : Nat} {i1 i2 i3 i4 t0 : Int} {M M0 : qm} (h : Fg 1461501637330902918203684832716283019655932542976 M0 M) : qP (qf_X18_side_J47 N i1 i2 i3 i4 t0 M) (fun r => Fg 1461501637330902918203684832716283019655932542976 M0 r.2) := by
  unfold qf_X18_side_J47
  refine qP_bind (fr_X18_goes Fg_refl) (fun r1 k1 => ?_)
  have h1 := Fg_tr h (Fg_mono k1 rfl)
  refine qP_ite ?_ ?_
  · exact qP_some h1
  · refine qP_pure (fun r2 => ?_)
    exact qP_some h1
theorem fr_X18_side_J46 {N : Nat} {i1 i2 i3 i4 : Int} {M M0 : qm} (h : Fg 1461501637330902918203684832716283019655932542976 M0 M) : qP (qf_X18_side_J46 N i1 i2 i3 i4 M) (fun r => Fg 1461501637330902918203684832716283019655932542976 M0 r.2) := by
  unfold qf_X18_side_J46
  exact (fr_X18_side_J47 h)
theorem fr_X18_side {N : Nat} {i1 i2 i3 i4 : Int} {M M0 : qm} (h : Fg 1461501637330902918203684832716283019655932542976 M0 M) : qP (qf_X18_side N i1 i2 i3 i4 M) (fun r => Fg 1461501637330902918203684832716283019655932542976 M0 r.2) := by
  unfold qf_X18_side
  refine qP_pure (fun r1 => ?_)
  refine qP_ite ?_ ?_
  · exact (fr_X18_side_J46 h)
  · refine qP_ite ?_ ?_
    · exact (fr_X18_side_J46 h)
    · refine qP_ite ?_ ?_
      · exact (fr_X18_side_J46 h)
      · refine qP_pure (fun r2 => ?_)
        refine qP_ite ?_ ?_
        · exact (fr_X18_side_J46 h)
        · refine qP_pure (fun r3 => ?_)
          refine qP_ite ?_ ?_
          · exact (fr_X18_side_J46 h)
          · exact (fr_X18_side_J47 h)
theorem fr_L_size {N : Nat} {i1 i2 : Int} {M M0 : qm} (h : Fg 165263992197562149737978827008192759957101170741070304821162198818601447809077836456297302609928821211897803006255839576064 M0 M) : qP (qf_L_size N i1 i2 M) (fun r => Fg 165263992197562149737978827008192759957101170741070304821162198818601447809077836456297302609928821211897803006255839576064 M0 r.2) := by
  unfold qf_L_size
  refine qP_pure (fun r1 => ?_)
  rcases r1 with x2 | x2
  · refine qP_bnd (m0 := _) (Fg_wa (k := 406) h rfl rfl) (fun M3 h3 => ?_)
    exact qP_some h3
  · refine qP_ite ?_ ?_
    · exact qP_some h
    · refine qP_ite ?_ ?_
      · exact qP_some h
      · exact qP_none
theorem fr_X18_size_J25 {N : Nat} {i1 i2 t1 : Int} {M M0 : qm} (h : Fg 1461501637330902918203684832716283019655932542976 M0 M) : qP (qf_X18_size_J25 N i1 i2 t1 M) (fun r => Fg 1461501637330902918203684832716283019655932542976 M0 r.2) := by
  unfold qf_X18_size_J25
  refine qP_bind (fr_X18_goes Fg_refl) (fun r1 k1 => ?_)
  have h1 := Fg_tr h (Fg_mono k1 rfl)
  refine qP_ite ?_ ?_
  · exact qP_some h1
  · refine qP_pure (fun r2 => ?_)
    exact qP_some h1
theorem fr_X18_size_J24 {N : Nat} {i1 i2 : Int} {M M0 : qm} (h : Fg 1461501637330902918203684832716283019655932542976 M0 M) : qP (qf_X18_size_J24 N i1 i2 M) (fun r => Fg 1461501637330902918203684832716283019655932542976 M0 r.2) := by
  unfold qf_X18_size_J24
  exact (fr_X18_size_J25 h)
theorem fr_X18_size {N : Nat} {i1 i2 : Int} {M M0 : qm} (h : Fg 1461501637330902918203684832716283019655932542976 M0 M) : qP (qf_X18_size N i1 i2 M) (fun r => Fg 1461501637330902918203684832716283019655932542976 M0 r.2) := by
  unfold qf_X18_size
  refine qP_pure (fun r1 => ?_)
  refine qP_ite ?_ ?_
  · exact (fr_X18_size_J24 h)
  · refine qP_pure (fun r2 => ?_)
    refine qP_ite ?_ ?_
    · exact (fr_X18_size_J24 h)
    · exact (fr_X18_size_J25 h)
theorem fr_L_at {N : Nat} {i1 i2 : Int} {M M0 : qm} (h : Fg 165263992197562149737978827008192759957101170741070304821162198818601447809077836456297302609928821211897803006255839576064 M0 M) : qP (qf_L_at N i1 i2 M) (fun r => Fg 165263992197562149737978827008192759957101170741070304821162198818601447809077836456297302609928821211897803006255839576064 M0 r.2) := by
  unfold qf_L_at
  refine qP_pure (fun r1 => ?_)
  rcases r1 with x2 | x2
  · refine qP_bnd (m0 := _) (Fg_wa (k := 406) h rfl rfl) (fun M3 h3 => ?_)
    exact qP_some h3
  · refine qP_ite ?_ ?_
    · exact qP_some h
    · refine qP_ite ?_ ?_
      · exact qP_some h
      · exact qP_none
theorem fr_X18_at {N : Nat} {i1 i2 : Int} {M M0 : qm} (h : Fg 1461501637330902918203684832716283019655932542976 M0 M) : qP (qf_X18_at N i1 i2 M) (fun r => Fg 1461501637330902918203684832716283019655932542976 M0 r.2) := by
  unfold qf_X18_at
  refine qP_pure (fun r1 => ?_)
  refine qP_bind (fr_X18_goes Fg_refl) (fun r2 k2 => ?_)
  have h2 := Fg_tr h (Fg_mono k2 rfl)
  refine qP_ite ?_ ?_
  · exact qP_some h2
  · refine qP_pure (fun r3 => ?_)
    exact qP_some h2
theorem fr_L_between {N : Nat} {i1 i2 : Int} {M M0 : qm} (h : Fg 165263992197562149737978827008192759957101170741070304821162198818601447809077836456297302609928821211897803006255839576064 M0 M) : qP (qf_L_between N i1 i2 M) (fun r => Fg 165263992197562149737978827008192759957101170741070304821162198818601447809077836456297302609928821211897803006255839576064 M0 r.2) := by
  unfold qf_L_between
  refine qP_pure (fun r1 => ?_)
  rcases r1 with x2 | x2
  · refine qP_bnd (m0 := _) (Fg_wa (k := 406) h rfl rfl) (fun M3 h3 => ?_)
    exact qP_some h3
  · refine qP_ite ?_ ?_
    · exact qP_some h
    · refine qP_ite ?_ ?_
      · exact qP_some h
      · exact qP_none
theorem fr_X18_between_J28 {N : Nat} {i1 i2 t1 : Int} {M M0 : qm} (h : Fg 1461501637330902918203684832716283019655932542976 M0 M) : qP (qf_X18_between_J28 N i1 i2 t1 M) (fun r => Fg 1461501637330902918203684832716283019655932542976 M0 r.2) := by
  unfold qf_X18_between_J28
  refine qP_bind (fr_X18_goes Fg_refl) (fun r1 k1 => ?_)
  have h1 := Fg_tr h (Fg_mono k1 rfl)
  refine qP_ite ?_ ?_
  · exact qP_some h1
  · refine qP_pure (fun r2 => ?_)
    exact qP_some h1
theorem fr_X18_between_J27 {N : Nat} {i1 i2 : Int} {M M0 : qm} (h : Fg 1461501637330902918203684832716283019655932542976 M0 M) : qP (qf_X18_between_J27 N i1 i2 M) (fun r => Fg 1461501637330902918203684832716283019655932542976 M0 r.2) := by
  unfold qf_X18_between_J27
  exact (fr_X18_between_J28 h)
theorem fr_X18_between {N : Nat} {i1 i2 : Int} {M M0 : qm} (h : Fg 1461501637330902918203684832716283019655932542976 M0 M) : qP (qf_X18_between N i1 i2 M) (fun r => Fg 1461501637330902918203684832716283019655932542976 M0 r.2) := by
  unfold qf_X18_between
  refine qP_pure (fun r1 => ?_)
  refine qP_ite ?_ ?_
  · exact (fr_X18_between_J27 h)
  · refine qP_pure (fun r2 => ?_)
    refine qP_ite ?_ ?_
    · exact (fr_X18_between_J27 h)
    · exact (fr_X18_between_J28 h)
theorem fr_X2_goThrough_J92 {N : Nat} {i1 i3 i4 i5 i6 i7 i8 : Int} {M M0 : qm} (h : Fg 4194304 M0 M) : qP (qf_X2_goThrough_J92 N i1 i3 i4 i5 i6 i7 i8 M) (pU (pU (fun r => Fg 4194304 M0 r.2) (fun r => Fg 4194304 M0 r.2)) (fun r => Fg 4194304 M0 r.2.2.2.2.2)) := by
  unfold qf_X2_goThrough_J92
  refine qP_ite ?_ ?_
  · refine qP_ite ?_ ?_
    · refine qP_ite ?_ ?_
      · refine qP_ite ?_ ?_
        · refine qP_ite ?_ ?_
          · refine qP_bnd (m0 := _) (Fg_wa (k := 22) h rfl rfl) (fun M1 h1 => ?_)
            exact qP_some h1
          · exact qP_none
        · exact qP_some h
      · exact qP_none
    · exact qP_some h
  · exact qP_none
theorem fr_X2_goThrough_L25_b {N : Nat} {i1 i3 i4 i5 i6 : Int} {M M0 : qm} (h : Fg 4194304 M0 M) : qP (qf_X2_goThrough_L25_b N i1 i3 i4 i5 i6 M) (pU (pU (fun r => Fg 4194304 M0 r.2) (fun r => Fg 4194304 M0 r.2)) (fun r => Fg 4194304 M0 r.2.2.2.2.2)) := by
  unfold qf_X2_goThrough_L25_b
  refine qP_ite ?_ ?_
  · exact qP_some h
  · refine qP_pure (fun r1 => ?_)
    refine qP_pure (fun r2 => ?_)
    refine qP_ite ?_ ?_
    · refine qP_ite ?_ ?_
      · refine qP_ite ?_ ?_
        · refine qP_ite ?_ ?_
          · refine qP_ite ?_ ?_
            · refine qP_bnd (m0 := _) (Fg_wa (k := 22) h rfl rfl) (fun M3 h3 => ?_)
              exact qP_some h3
            · exact qP_none
          · exact (fr_X2_goThrough_J92 h)
        · exact qP_none
      · exact (fr_X2_goThrough_J92 h)
    · exact qP_none
theorem fr_X2_goThrough_L25 (n : Nat) {N : Nat} {i1 i3 i4 i5 i6 : Int} {M M0 : qm} (h : Fg 4194304 M0 M) : qP (qf_X2_goThrough_L25 N n i1 i3 i4 i5 i6 M) (pU (fun r => Fg 4194304 M0 r.2) (fun r => Fg 4194304 M0 r.2)) := by
  unfold qf_X2_goThrough_L25
  exact qP_loop (I := fun s => Fg 4194304 M0 s.2.2.2.2.2) (fun s hs => fr_X2_goThrough_L25_b hs) n _ h
theorem fr_X2_goThrough {N : Nat} {i1 i2 i3 : Int} {M M0 : qm} (h : Fg 4194304 M0 M) : qP (qf_X2_goThrough N i1 i2 i3 M) (fun r => Fg 4194304 M0 r.2) := by
  unfold qf_X2_goThrough
  refine qP_pure (fun r1 => ?_)
  refine qP_pure (fun r2 => ?_)
  refine qP_bind (fr_X2_goThrough_L25 _ h) (fun r3 k3 => ?_)
  rcases r3 with x3 | x3
  · exact qP_some k3
  · obtain ⟨y3_0, y3_1⟩ := x3
    have h3 : Fg _ _ y3_1 := k3
    refine qP_ite ?_ ?_
    · exact qP_some h3
    · exact qP_none
theorem fr_X2_doorsOnWay_J106 {N : Nat} {i2 i4 i5 i6 : Int} {M M0 : qm} (h : Fg 4194304 M0 M) : qP (qf_X2_doorsOnWay_J106 N i2 i4 i5 i6 M) (pU (pU (fun r => Fg 4194304 M0 r.2) (fun r => Fg 4194304 M0 r.2)) (fun r => Fg 4194304 M0 r.2.2.2.2.2)) := by
  unfold qf_X2_doorsOnWay_J106
  exact qP_some h
theorem fr_X2_doorsOnWay_L74_b {N : Nat} {i2 i3 i4 i5 i6 : Int} {M M0 : qm} (h : Fg 4194304 M0 M) : qP (qf_X2_doorsOnWay_L74_b N i2 i3 i4 i5 i6 M) (pU (pU (fun r => Fg 4194304 M0 r.2) (fun r => Fg 4194304 M0 r.2)) (fun r => Fg 4194304 M0 r.2.2.2.2.2)) := by
  unfold qf_X2_doorsOnWay_L74_b
  refine qP_ite ?_ ?_
  · refine qP_ite ?_ ?_
    · exact qP_some h
    · refine qP_bind (fr_X2_goThrough Fg_refl) (fun r1 k1 => ?_)
      have h1 := Fg_tr h (Fg_mono k1 rfl)
      refine qP_ite ?_ ?_
      · refine qP_ite ?_ ?_
        · exact qP_some h1
        · exact (fr_X2_doorsOnWay_J106 h1)
      · exact (fr_X2_doorsOnWay_J106 h1)
  · exact qP_none
theorem fr_X2_doorsOnWay_L74 (n : Nat) {N : Nat} {i2 i3 i4 i5 i6 : Int} {M M0 : qm} (h : Fg 4194304 M0 M) : qP (qf_X2_doorsOnWay_L74 N n i2 i3 i4 i5 i6 M) (pU (fun r => Fg 4194304 M0 r.2) (fun r => Fg 4194304 M0 r.2)) := by
  unfold qf_X2_doorsOnWay_L74
  exact qP_loop (I := fun s => Fg 4194304 M0 s.2.2.2.2.2) (fun s hs => fr_X2_doorsOnWay_L74_b hs) n _ h
theorem fr_X2_doorsOnWay_L59_b {N : Nat} {i2 i3 i4 i5 : Int} {M M0 : qm} (h : Fg 4194304 M0 M) : qP (qf_X2_doorsOnWay_L59_b N i2 i3 i4 i5 M) (pU (pU (fun r => Fg 4194304 M0 r.2) (fun r => Fg 4194304 M0 r.2)) (fun r => Fg 4194304 M0 r.2.2.2.2)) := by
  unfold qf_X2_doorsOnWay_L59_b
  refine qP_ite ?_ ?_
  · exact qP_some h
  · refine qP_bind (fr_X2_doorsOnWay_L74 _ h) (fun r1 k1 => ?_)
    rcases r1 with x1 | x1
    · exact qP_some k1
    · obtain ⟨y1_0, y1_1⟩ := x1
      have h1 : Fg _ _ y1_1 := k1
      exact qP_some h1
theorem fr_X2_doorsOnWay_L59 (n : Nat) {N : Nat} {i2 i3 i4 i5 : Int} {M M0 : qm} (h : Fg 4194304 M0 M) : qP (qf_X2_doorsOnWay_L59 N n i2 i3 i4 i5 M) (pU (fun r => Fg 4194304 M0 r.2) (fun r => Fg 4194304 M0 r.2)) := by
  unfold qf_X2_doorsOnWay_L59
  exact qP_loop (I := fun s => Fg 4194304 M0 s.2.2.2.2) (fun s hs => fr_X2_doorsOnWay_L59_b hs) n _ h
theorem fr_X2_doorsOnWay_L29_b {N : Nat} {i2 i3 i4 : Int} {M M0 : qm} (h : Fg 4194304 M0 M) : qP (qf_X2_doorsOnWay_L29_b N i2 i3 i4 M) (pU (pU (fun r => Fg 4194304 M0 r.2) (fun r => Fg 4194304 M0 r.2)) (fun r => Fg 4194304 M0 r.2.2.2)) := by
  unfold qf_X2_doorsOnWay_L29_b
  refine qP_ite ?_ ?_
  · exact qP_some h
  · refine qP_ite ?_ ?_
    · exact qP_some h
    · refine qP_ite ?_ ?_
      · refine qP_ite ?_ ?_
        · refine qP_bind (fr_X2_doorsOnWay_L59 _ h) (fun r1 k1 => ?_)
          rcases r1 with x1 | x1
          · exact qP_some k1
          · obtain ⟨y1_0, y1_1⟩ := x1
            have h1 : Fg _ _ y1_1 := k1
            exact qP_some h1
        · exact qP_some h
      · exact qP_none
theorem fr_X2_doorsOnWay_L29 (n : Nat) {N : Nat} {i2 i3 i4 : Int} {M M0 : qm} (h : Fg 4194304 M0 M) : qP (qf_X2_doorsOnWay_L29 N n i2 i3 i4 M) (pU (fun r => Fg 4194304 M0 r.2) (fun r => Fg 4194304 M0 r.2)) := by
  unfold qf_X2_doorsOnWay_L29
  exact qP_loop (I := fun s => Fg 4194304 M0 s.2.2.2) (fun s hs => fr_X2_doorsOnWay_L29_b hs) n _ h
theorem fr_X2_doorsOnWay_J130 {N : Nat} {i2 : Int} {M M0 : qm} (h : Fg 4194304 M0 M) : qP (qf_X2_doorsOnWay_J130 N i2 M) (fun r => Fg 4194304 M0 r.2) := by
  unfold qf_X2_doorsOnWay_J130
  refine qP_ite ?_ ?_
  · refine qP_ite ?_ ?_
    · exact qP_some h
    · refine qP_ite ?_ ?_
      · exact qP_some h
      · exact qP_none
  · exact qP_none
theorem fr_X2_doorsOnWay {N : Nat} {i1 i2 : Int} {M M0 : qm} (h : Fg 4194304 M0 M) : qP (qf_X2_doorsOnWay N i1 i2 M) (fun r => Fg 4194304 M0 r.2) := by
  unfold qf_X2_doorsOnWay
  refine qP_ite ?_ ?_
  · refine qP_bnd (m0 := _) (Fg_f1 (k := 22) h (fun _ => rfl) rfl) (fun M1 h1 => ?_)
    refine qP_ite ?_ ?_
    · refine qP_bnd (m0 := _) (Fg_wa (k := 22) h1 rfl rfl) (fun M2 h2 => ?_)
      refine qP_bind (fr_X2_doorsOnWay_L29 _ h2) (fun r3 k3 => ?_)
      rcases r3 with x3 | x3
      · exact qP_some k3
      · obtain ⟨y3_0, y3_1⟩ := x3
        have h3 : Fg _ _ y3_1 := k3
        exact (fr_X2_doorsOnWay_J130 h3)
    · exact qP_none
  · exact qP_none
theorem fr_X11_way_J21 {N : Nat} {i1 i2 t0 : Int} {M M0 : qm} (h : Fg 4194304 M0 M) : qP (qf_X11_way_J21 N i1 i2 t0 M) (fun r => Fg 4194304 M0 r.2) := by
  unfold qf_X11_way_J21
  refine qP_pure (fun r1 => ?_)
  rcases r1 with x2 | x2
  · refine qP_pure (fun r3 => ?_)
    rcases r3 with x4 | x4
    · refine qP_bind (fr_X2_doorsOnWay Fg_refl) (fun r5 k5 => ?_)
      have h5 := Fg_tr h (Fg_mono k5 rfl)
      exact qP_some h5
    · exact qP_some h
  · exact qP_some h
theorem fr_X11_way_J20 {N : Nat} {i1 i2 : Int} {M M0 : qm} (h : Fg 4194304 M0 M) : qP (qf_X11_way_J20 N i1 i2 M) (fun r => Fg 4194304 M0 r.2) := by
  unfold qf_X11_way_J20
  exact (fr_X11_way_J21 h)
theorem fr_X11_way {N : Nat} {i1 i2 : Int} {M M0 : qm} (h : Fg 4194304 M0 M) : qP (qf_X11_way N i1 i2 M) (fun r => Fg 4194304 M0 r.2) := by
  unfold qf_X11_way
  refine qP_pure (fun r1 => ?_)
  refine qP_ite ?_ ?_
  · exact (fr_X11_way_J20 h)
  · refine qP_pure (fun r2 => ?_)
    refine qP_ite ?_ ?_
    · exact (fr_X11_way_J20 h)
    · exact (fr_X11_way_J21 h)
theorem fr_L_way {N : Nat} {i1 i2 : Int} {M M0 : qm} (h : Fg 165263992197562149737978827008192759957101170741070304821162198818601447809077836456297302609928821211897803006255843770368 M0 M) : qP (qf_L_way N i1 i2 M) (fun r => Fg 165263992197562149737978827008192759957101170741070304821162198818601447809077836456297302609928821211897803006255843770368 M0 r.2) := by
  unfold qf_L_way
  refine qP_bind (fr_X11_way Fg_refl) (fun r1 k1 => ?_)
  have h1 := Fg_tr h (Fg_mono k1 rfl)
  obtain ⟨x1, m1⟩ := r1
  rcases x1 with x1 | x1
  · have h1 : Fg _ _ m1 := h1
    refine qP_bnd (m0 := _) (Fg_wa (k := 406) h1 rfl rfl) (fun M2 h2 => ?_)
    exact qP_some h2
  · have h1 : Fg _ _ m1 := h1
    refine qP_ite ?_ ?_
    · exact qP_some h1
    · refine qP_ite ?_ ?_
      · exact qP_some h1
      · exact qP_none
theorem fr_X16_way_L2_b {N : Nat} {i1 i2 i3 : Int} {M M0 : qm} (h : Fg 1645504557321206042154969182557350504982735865633579863348609024 M0 M) : qP (qf_X16_way_L2_b N i1 i2 i3 M) (pU (pU (fun r => Fg 1645504557321206042154969182557350504982735865633579863348609024 M0 r.2) (fun r => Fg 1645504557321206042154969182557350504982735865633579863348609024 M0 r.2)) (fun r => Fg 1645504557321206042154969182557350504982735865633579863348609024 M0 r.2.2.2)) := by
  unfold qf_X16_way_L2_b
  refine qP_ite ?_ ?_
  · exact qP_some h
  · refine qP_ite ?_ ?_
    · refine qP_ite ?_ ?_
      · refine qP_bnd (m0 := _) (Fg_wa (k := 210) h rfl rfl) (fun M1 h1 => ?_)
        exact qP_some h1
      · exact qP_none
    · refine qP_ite ?_ ?_
      · refine qP_bnd (m0 := _) (Fg_wa (k := 210) h rfl rfl) (fun M2 h2 => ?_)
        exact qP_some h2
      · exact qP_none
theorem fr_X16_way_L2 (n : Nat) {N : Nat} {i1 i2 i3 : Int} {M M0 : qm} (h : Fg 1645504557321206042154969182557350504982735865633579863348609024 M0 M) : qP (qf_X16_way_L2 N n i1 i2 i3 M) (pU (fun r => Fg 1645504557321206042154969182557350504982735865633579863348609024 M0 r.2) (fun r => Fg 1645504557321206042154969182557350504982735865633579863348609024 M0 r.2)) := by
  unfold qf_X16_way_L2
  exact qP_loop (I := fun s => Fg 1645504557321206042154969182557350504982735865633579863348609024 M0 s.2.2.2) (fun s hs => fr_X16_way_L2_b hs) n _ h
theorem fr_X16_way_L47_b {N : Nat} {i2 i3 i4 : Int} {M M0 : qm} (h : Fg 1645504557321206042154969182557350504982735865633579863348609024 M0 M) : qP (qf_X16_way_L47_b N i2 i3 i4 M) (pU (pU (fun r => Fg 1645504557321206042154969182557350504982735865633579863348609024 M0 r.2) (fun r => Fg 1645504557321206042154969182557350504982735865633579863348609024 M0 r.2)) (fun r => Fg 1645504557321206042154969182557350504982735865633579863348609024 M0 r.2.2.2)) := by
  unfold qf_X16_way_L47_b
  refine qP_ite ?_ ?_
  · exact qP_some h
  · refine qP_pure (fun r1 => ?_)
    refine qP_ite ?_ ?_
    · exact qP_some h
    · refine qP_pure (fun r2 => ?_)
      refine qP_ite ?_ ?_
      · refine qP_pure (fun r3 => ?_)
        refine qP_ite ?_ ?_
        · refine qP_ite ?_ ?_
          · exact qP_some h
          · refine qP_pure (fun r4 => ?_)
            refine qP_pure (fun r5 => ?_)
            refine qP_ite ?_ ?_
            · refine qP_ite ?_ ?_
              · refine qP_bnd (m0 := _) (Fg_wa (k := 210) h rfl rfl) (fun M6 h6 => ?_)
                exact qP_some h6
              · exact qP_none
            · exact qP_none
        · exact qP_none
      · exact qP_none
theorem fr_X16_way_L47 (n : Nat) {N : Nat} {i2 i3 i4 : Int} {M M0 : qm} (h : Fg 1645504557321206042154969182557350504982735865633579863348609024 M0 M) : qP (qf_X16_way_L47 N n i2 i3 i4 M) (pU (fun r => Fg 1645504557321206042154969182557350504982735865633579863348609024 M0 r.2) (fun r => Fg 1645504557321206042154969182557350504982735865633579863348609024 M0 r.2)) := by
  unfold qf_X16_way_L47
  exact qP_loop (I := fun s => Fg 1645504557321206042154969182557350504982735865633579863348609024 M0 s.2.2.2) (fun s hs => fr_X16_way_L47_b hs) n _ h
theorem fr_X16_way_L38_b {N : Nat} {i2 i3 : Int} {M M0 : qm} (h : Fg 1645504557321206042154969182557350504982735865633579863348609024 M0 M) : qP (qf_X16_way_L38_b N i2 i3 M) (pU (pU (fun r => Fg 1645504557321206042154969182557350504982735865633579863348609024 M0 r.2) (fun r => Fg 1645504557321206042154969182557350504982735865633579863348609024 M0 r.2)) (fun r => Fg 1645504557321206042154969182557350504982735865633579863348609024 M0 r.2.2)) := by
  unfold qf_X16_way_L38_b
  refine qP_ite ?_ ?_
  · exact qP_some h
  · refine qP_bind (fr_X16_way_L47 _ h) (fun r1 k1 => ?_)
    rcases r1 with x1 | x1
    · exact qP_some k1
    · obtain ⟨y1_0, y1_1⟩ := x1
      have h1 : Fg _ _ y1_1 := k1
      exact qP_some h1
theorem fr_X16_way_L38 (n : Nat) {N : Nat} {i2 i3 : Int} {M M0 : qm} (h : Fg 1645504557321206042154969182557350504982735865633579863348609024 M0 M) : qP (qf_X16_way_L38 N n i2 i3 M) (pU (fun r => Fg 1645504557321206042154969182557350504982735865633579863348609024 M0 r.2) (fun r => Fg 1645504557321206042154969182557350504982735865633579863348609024 M0 r.2)) := by
  unfold qf_X16_way_L38
  exact qP_loop (I := fun s => Fg 1645504557321206042154969182557350504982735865633579863348609024 M0 s.2.2) (fun s hs => fr_X16_way_L38_b hs) n _ h
theorem fr_X16_way {N : Nat} {i1 i2 : Int} {M M0 : qm} (h : Fg 1645504557321206042154969182557350504982735865633579863348609024 M0 M) : qP (qf_X16_way N i1 i2 M) (fun r => Fg 1645504557321206042154969182557350504982735865633579863348609024 M0 r.2) := by
  unfold qf_X16_way
  refine qP_bind (fr_X16_way_L2 _ h) (fun r1 k1 => ?_)
  rcases r1 with x1 | x1
  · exact qP_some k1
  · obtain ⟨y1_0, y1_1⟩ := x1
    have h1 : Fg _ _ y1_1 := k1
    refine qP_bind (fr_X16_way_L38 _ h1) (fun r2 k2 => ?_)
    rcases r2 with x2 | x2
    · exact qP_some k2
    · obtain ⟨y2_0, y2_1⟩ := x2
      have h2 : Fg _ _ y2_1 := k2
      refine qP_ite ?_ ?_
      · refine qP_ite ?_ ?_
        · exact qP_some h2
        · refine qP_ite ?_ ?_
          · exact qP_some h2
          · exact qP_none
      · exact qP_none
theorem fr_X18_way_J28 {N : Nat} {i1 i2 t1 : Int} {M M0 : qm} (h : Fg 1645504557321207503656606513460268708667568581916599519281152000 M0 M) : qP (qf_X18_way_J28 N i1 i2 t1 M) (fun r => Fg 1645504557321207503656606513460268708667568581916599519281152000 M0 r.2) := by
  unfold qf_X18_way_J28
  refine qP_bind (fr_X18_goes Fg_refl) (fun r1 k1 => ?_)
  have h1 := Fg_tr h (Fg_mono k1 rfl)
  refine qP_ite ?_ ?_
  · exact qP_some h1
  · refine qP_bind (fr_X16_way Fg_refl) (fun r2 k2 => ?_)
    have h2 := Fg_tr h1 (Fg_mono k2 rfl)
    exact qP_some h2
theorem fr_X18_way_J27 {N : Nat} {i1 i2 : Int} {M M0 : qm} (h : Fg 1645504557321207503656606513460268708667568581916599519281152000 M0 M) : qP (qf_X18_way_J27 N i1 i2 M) (fun r => Fg 1645504557321207503656606513460268708667568581916599519281152000 M0 r.2) := by
  unfold qf_X18_way_J27
  exact (fr_X18_way_J28 h)
theorem fr_X18_way {N : Nat} {i1 i2 : Int} {M M0 : qm} (h : Fg 1645504557321207503656606513460268708667568581916599519281152000 M0 M) : qP (qf_X18_way N i1 i2 M) (fun r => Fg 1645504557321207503656606513460268708667568581916599519281152000 M0 r.2) := by
  unfold qf_X18_way
  refine qP_pure (fun r1 => ?_)
  refine qP_ite ?_ ?_
  · exact (fr_X18_way_J27 h)
  · refine qP_pure (fun r2 => ?_)
    refine qP_ite ?_ ?_
    · exact (fr_X18_way_J27 h)
    · exact (fr_X18_way_J28 h)
theorem fr_X11_name_J49 {N : Nat} {i1 i2 t0 : Int} {M M0 : qm} (h : Fg 32768 M0 M) : qP (qf_X11_name_J49 N i1 i2 t0 M) (fun r => Fg 32768 M0 r.2) := by
  unfold qf_X11_name_J49
  refine qP_pure (fun r1 => ?_)
  rcases r1 with x2 | x2
  · refine qP_ite ?_ ?_
    · refine qP_ite ?_ ?_
      · refine qP_bnd (m0 := _) (Fg_wa (k := 15) h rfl rfl) (fun M3 h3 => ?_)
        exact qP_some h3
      · exact qP_none
    · exact qP_none
  · exact qP_some h
theorem fr_X11_name_J48 {N : Nat} {i1 i2 : Int} {M M0 : qm} (h : Fg 32768 M0 M) : qP (qf_X11_name_J48 N i1 i2 M) (fun r => Fg 32768 M0 r.2) := by
  unfold qf_X11_name_J48
  exact (fr_X11_name_J49 h)
theorem fr_X11_name_J24 {N : Nat} {i1 i2 t0 : Int} {M M0 : qm} (h : Fg 32768 M0 M) : qP (qf_X11_name_J24 N i1 i2 t0 M) (fun r => Fg 32768 M0 r.2) := by
  unfold qf_X11_name_J24
  refine qP_pure (fun r1 => ?_)
  rcases r1 with x2 | x2
  · refine qP_ite ?_ ?_
    · exact (fr_X11_name_J48 h)
    · refine qP_ite ?_ ?_
      · exact (fr_X11_name_J49 h)
      · exact (fr_X11_name_J48 h)
  · exact qP_some h
theorem fr_X11_name_J23 {N : Nat} {i1 i2 : Int} {M M0 : qm} (h : Fg 32768 M0 M) : qP (qf_X11_name_J23 N i1 i2 M) (fun r => Fg 32768 M0 r.2) := by
  unfold qf_X11_name_J23
  exact (fr_X11_name_J24 h)
theorem fr_X11_name {N : Nat} {i1 i2 : Int} {M M0 : qm} (h : Fg 32768 M0 M) : qP (qf_X11_name N i1 i2 M) (fun r => Fg 32768 M0 r.2) := by
  unfold qf_X11_name
  refine qP_pure (fun r1 => ?_)
  refine qP_ite ?_ ?_
  · exact (fr_X11_name_J23 h)
  · refine qP_pure (fun r2 => ?_)
    refine qP_ite ?_ ?_
    · exact (fr_X11_name_J23 h)
    · exact (fr_X11_name_J24 h)
theorem fr_L_name {N : Nat} {i1 i2 : Int} {M M0 : qm} (h : Fg 165263992197562149737978827008192759957101170741070304821162198818601447809077836456297302609928821211897803006255839608832 M0 M) : qP (qf_L_name N i1 i2 M) (fun r => Fg 165263992197562149737978827008192759957101170741070304821162198818601447809077836456297302609928821211897803006255839608832 M0 r.2) := by
  unfold qf_L_name
  refine qP_bind (fr_X11_name Fg_refl) (fun r1 k1 => ?_)
  have h1 := Fg_tr h (Fg_mono k1 rfl)
  obtain ⟨x1, m1⟩ := r1
  rcases x1 with x1 | x1
  · have h1 : Fg _ _ m1 := h1
    refine qP_bnd (m0 := _) (Fg_wa (k := 406) h1 rfl rfl) (fun M2 h2 => ?_)
    exact qP_some h2
  · have h1 : Fg _ _ m1 := h1
    refine qP_ite ?_ ?_
    · exact qP_some h1
    · refine qP_ite ?_ ?_
      · exact qP_some h1
      · exact qP_none
theorem fr_X18_name_J50 {N : Nat} {i1 i2 t1 t2 : Int} {M M0 : qm} (h : Fg 803469022130956639408311949088784986093817779911052350193664 M0 M) : qP (qf_X18_name_J50 N i1 i2 t1 t2 M) (fun r => Fg 803469022130956639408311949088784986093817779911052350193664 M0 r.2) := by
  unfold qf_X18_name_J50
  refine qP_bind (fr_X18_goes Fg_refl) (fun r1 k1 => ?_)
  have h1 := Fg_tr h (Fg_mono k1 rfl)
  refine qP_ite ?_ ?_
  · exact qP_some h1
  · refine qP_ite ?_ ?_
    · refine qP_ite ?_ ?_
      · refine qP_bnd (m0 := _) (Fg_wa (k := 199) h1 rfl rfl) (fun M2 h2 => ?_)
        exact qP_some h2
      · exact qP_none
    · exact qP_none
theorem fr_X18_name_J49 {N : Nat} {i1 i2 t1 : Int} {M M0 : qm} (h : Fg 803469022130956639408311949088784986093817779911052350193664 M0 M) : qP (qf_X18_name_J49 N i1 i2 t1 M) (fun r => Fg 803469022130956639408311949088784986093817779911052350193664 M0 r.2) := by
  unfold qf_X18_name_J49
  exact (fr_X18_name_J50 h)
theorem fr_X18_name_J28 {N : Nat} {i1 i2 t1 : Int} {M M0 : qm} (h : Fg 803469022130956639408311949088784986093817779911052350193664 M0 M) : qP (qf_X18_name_J28 N i1 i2 t1 M) (fun r => Fg 803469022130956639408311949088784986093817779911052350193664 M0 r.2) := by
  unfold qf_X18_name_J28
  refine qP_ite ?_ ?_
  · exact (fr_X18_name_J49 h)
  · refine qP_ite ?_ ?_
    · exact (fr_X18_name_J50 h)
    · exact (fr_X18_name_J49 h)
theorem fr_X18_name_J27 {N : Nat} {i1 i2 : Int} {M M0 : qm} (h : Fg 803469022130956639408311949088784986093817779911052350193664 M0 M) : qP (qf_X18_name_J27 N i1 i2 M) (fun r => Fg 803469022130956639408311949088784986093817779911052350193664 M0 r.2) := by
  unfold qf_X18_name_J27
  exact (fr_X18_name_J28 h)
theorem fr_X18_name {N : Nat} {i1 i2 : Int} {M M0 : qm} (h : Fg 803469022130956639408311949088784986093817779911052350193664 M0 M) : qP (qf_X18_name N i1 i2 M) (fun r => Fg 803469022130956639408311949088784986093817779911052350193664 M0 r.2) := by
  unfold qf_X18_name
  refine qP_pure (fun r1 => ?_)
  refine qP_ite ?_ ?_
  · exact (fr_X18_name_J27 h)
  · refine qP_ite ?_ ?_
    · exact (fr_X18_name_J27 h)
    · refine qP_ite ?_ ?_
      · exact (fr_X18_name_J27 h)
      · exact (fr_X18_name_J28 h)
theorem fr_L_nameOf {N : Nat} {i1 : Int} {M M0 : qm} (h : Fg 165263992197562149737978827008192759957101170741070304821162198818601447809077836456297302609928821211897803006255839576064 M0 M) : qP (qf_L_nameOf N i1 M) (fun r => Fg 165263992197562149737978827008192759957101170741070304821162198818601447809077836456297302609928821211897803006255839576064 M0 r.2) := by
  unfold qf_L_nameOf
  refine qP_pure (fun r1 => ?_)
  rcases r1 with x2 | x2
  · refine qP_bnd (m0 := _) (Fg_wa (k := 406) h rfl rfl) (fun M3 h3 => ?_)
    exact qP_some h3
  · refine qP_ite ?_ ?_
    · exact qP_some h
    · refine qP_ite ?_ ?_
      · exact qP_some h
      · exact qP_none
theorem fr_X18_nameOf {N : Nat} {i1 : Int} {M M0 : qm} (h : Fg 1461501637330902918203684832716283019655932542976 M0 M) : qP (qf_X18_nameOf N i1 M) (fun r => Fg 1461501637330902918203684832716283019655932542976 M0 r.2) := by
  unfold qf_X18_nameOf
  refine qP_pure (fun r1 => ?_)
  refine qP_bind (fr_X18_goes Fg_refl) (fun r2 k2 => ?_)
  have h2 := Fg_tr h (Fg_mono k2 rfl)
  refine qP_ite ?_ ?_
  · exact qP_some h2
  · refine qP_ite ?_ ?_
    · exact qP_some h2
    · exact qP_none
theorem fr_X6_append_L3_b {N : Nat} {j1 i3 : Int} {M M0 : qm} (h : Fg 150994944 M0 M) : qP (qf_X6_append_L3_b N j1 i3 M) (pU (pU (fun r => Fg 150994944 M0 r.2) (fun r => Fg 150994944 M0 r.2)) (fun r => Fg 150994944 M0 r.2.2)) := by
  unfold qf_X6_append_L3_b
  refine qP_ite ?_ ?_
  · exact qP_some h
  · refine qP_ite ?_ ?_
    · exact qP_some h
    · refine qP_ite ?_ ?_
      · exact qP_some h
      · refine qP_ite ?_ ?_
        · refine qP_bnd (m0 := _) (Fg_wa (k := 27) h rfl rfl) (fun M1 h1 => ?_)
          refine qP_bnd (m0 := _) (Fg_w h1 rfl) (fun M2 h2 => ?_)
          exact qP_some h2
        · exact qP_none
theorem fr_X6_append_L3 (n : Nat) {N : Nat} {j1 i3 : Int} {M M0 : qm} (h : Fg 150994944 M0 M) : qP (qf_X6_append_L3 N n j1 i3 M) (pU (fun r => Fg 150994944 M0 r.2) (fun r => Fg 150994944 M0 r.2)) := by
  unfold qf_X6_append_L3
  exact qP_loop (I := fun s => Fg 150994944 M0 s.2.2) (fun s hs => fr_X6_append_L3_b hs) n _ h
theorem fr_X6_append {N : Nat} {j1 : Int} {M M0 : qm} (h : Fg 150994944 M0 M) : qP (qf_X6_append N j1 M) (fun r => Fg 150994944 M0 r.2) := by
  unfold qf_X6_append
  refine qP_bind (fr_X6_append_L3 _ h) (fun r1 k1 => ?_)
  rcases r1 with x1 | x1
  · exact qP_some k1
  · obtain ⟨y1_0, y1_1⟩ := x1
    have h1 : Fg _ _ y1_1 := k1
    exact qP_some h1
theorem fr_X11_say {N : Nat} {j1 : Int} {M M0 : qm} (h : Fg 150994944 M0 M) : qP (qf_X11_say N j1 M) (fun r => Fg 150994944 M0 r.2) := by
  unfold qf_X11_say
  refine qP_pure (fun r1 => ?_)
  refine qP_pure (fun r2 => ?_)
  rcases r2 with x3 | x3
  · refine qP_pure (fun r4 => ?_)
    refine qP_pure (fun r5 => ?_)
    rcases r5 with x6 | x6
    · refine qP_bind (fr_X6_append Fg_refl) (fun r7 k7 => ?_)
      have h7 := Fg_tr h (Fg_mono k7 rfl)
      exact qP_some h7
    · exact qP_some h
  · exact qP_some h
theorem fr_L_say {N : Nat} {j1 : Int} {M M0 : qm} (h : Fg 165263992197562149737978827008192759957101170741070304821162198818601447809077836456297302609928821211897803006255990571008 M0 M) : qP (qf_L_say N j1 M) (fun r => Fg 165263992197562149737978827008192759957101170741070304821162198818601447809077836456297302609928821211897803006255990571008 M0 r.2) := by
  unfold qf_L_say
  refine qP_bind (fr_X11_say Fg_refl) (fun r1 k1 => ?_)
  have h1 := Fg_tr h (Fg_mono k1 rfl)
  obtain ⟨x1, m1⟩ := r1
  rcases x1 with x1 | x1
  · have h1 : Fg _ _ m1 := h1
    refine qP_bnd (m0 := _) (Fg_wa (k := 406) h1 rfl rfl) (fun M2 h2 => ?_)
    exact qP_some h2
  · have h1 : Fg _ _ m1 := h1
    refine qP_ite ?_ ?_
    · exact qP_some h1
    · refine qP_ite ?_ ?_
      · exact qP_some h1
      · exact qP_none
theorem fr_X15_say_L3_b {N : Nat} {j1 i3 : Int} {M M0 : qm} (h : Fg 6901749637799678429846840172215390567152118937642117822322250921017344 M0 M) : qP (qf_X15_say_L3_b N j1 i3 M) (pU (pU (fun r => Fg 6901749637799678429846840172215390567152118937642117822322250921017344 M0 r.2) (fun r => Fg 6901749637799678429846840172215390567152118937642117822322250921017344 M0 r.2)) (fun r => Fg 6901749637799678429846840172215390567152118937642117822322250921017344 M0 r.2.2)) := by
  unfold qf_X15_say_L3_b
  refine qP_ite ?_ ?_
  · exact qP_some h
  · refine qP_pure (fun r1 => ?_)
    refine qP_ite ?_ ?_
    · exact qP_some h
    · refine qP_pure (fun r2 => ?_)
      refine qP_ite ?_ ?_
      · refine qP_bnd (m0 := _) (Fg_wa (k := 232) h rfl rfl) (fun M3 h3 => ?_)
        refine qP_bnd (m0 := _) (Fg_w h3 rfl) (fun M4 h4 => ?_)
        exact qP_some h4
      · exact qP_none
theorem fr_X15_say_L3 (n : Nat) {N : Nat} {j1 i3 : Int} {M M0 : qm} (h : Fg 6901749637799678429846840172215390567152118937642117822322250921017344 M0 M) : qP (qf_X15_say_L3 N n j1 i3 M) (pU (fun r => Fg 6901749637799678429846840172215390567152118937642117822322250921017344 M0 r.2) (fun r => Fg 6901749637799678429846840172215390567152118937642117822322250921017344 M0 r.2)) := by
  unfold qf_X15_say_L3
  exact qP_loop (I := fun s => Fg 6901749637799678429846840172215390567152118937642117822322250921017344 M0 s.2.2) (fun s hs => fr_X15_say_L3_b hs) n _ h
theorem fr_X15_say {N : Nat} {j1 : Int} {M M0 : qm} (h : Fg 6901749637799678429846840172215390567152118937642117822322250921017344 M0 M) : qP (qf_X15_say N j1 M) (fun r => Fg 6901749637799678429846840172215390567152118937642117822322250921017344 M0 r.2) := by
  unfold qf_X15_say
  refine qP_bind (fr_X15_say_L3 _ h) (fun r1 k1 => ?_)
  rcases r1 with x1 | x1
  · exact qP_some k1
  · obtain ⟨y1_0, y1_1⟩ := x1
    have h1 : Fg _ _ y1_1 := k1
    exact qP_some h1
theorem fr_X18_say_J35 {N : Nat} {j1 t1 t2 : Int} {M M0 : qm} (h : Fg 6901749637799678429848301673852721470070322622474834105341906853560320 M0 M) : qP (qf_X18_say_J35 N j1 t1 t2 M) (fun r => Fg 6901749637799678429848301673852721470070322622474834105341906853560320 M0 r.2) := by
  unfold qf_X18_say_J35
  refine qP_bind (fr_X18_goes Fg_refl) (fun r1 k1 => ?_)
  have h1 := Fg_tr h (Fg_mono k1 rfl)
  refine qP_ite ?_ ?_
  · exact qP_some h1
  · refine qP_bind (fr_X15_say Fg_refl) (fun r2 k2 => ?_)
    have h2 := Fg_tr h1 (Fg_mono k2 rfl)
    exact qP_some h2
theorem fr_X18_say_J15 {N : Nat} {j1 i3 t1 : Int} {M M0 : qm} (h : Fg 6901749637799678429848301673852721470070322622474834105341906853560320 M0 M) : qP (qf_X18_say_J15 N j1 i3 t1 M) (fun r => Fg 6901749637799678429848301673852721470070322622474834105341906853560320 M0 r.2) := by
  unfold qf_X18_say_J15
  refine qP_ite ?_ ?_
  · exact (fr_X18_say_J35 h)
  · exact (fr_X18_say_J35 h)
theorem fr_X18_say {N : Nat} {j1 : Int} {M M0 : qm} (h : Fg 6901749637799678429848301673852721470070322622474834105341906853560320 M0 M) : qP (qf_X18_say N j1 M) (fun r => Fg 6901749637799678429848301673852721470070322622474834105341906853560320 M0 r.2) := by
  unfold qf_X18_say
  refine qP_pure (fun r1 => ?_)
  refine qP_ite ?_ ?_
  · exact (fr_X18_say_J15 h)
  · exact (fr_X18_say_J15 h)
theorem fr_X11_trim_J20 {N : Nat} {i1 t0 : Int} {M M0 : qm} (h : Fg 16777216 M0 M) : qP (qf_X11_trim_J20 N i1 t0 M) (fun r => Fg 16777216 M0 r.2) := by
  unfold qf_X11_trim_J20
  refine qP_pure (fun r1 => ?_)
  rcases r1 with x2 | x2
  · refine qP_bnd (m0 := _) (Fg_w h rfl) (fun M3 h3 => ?_)
    exact qP_some h3
  · exact qP_some h
theorem fr_X11_trim_J19 {N : Nat} {i1 : Int} {M M0 : qm} (h : Fg 16777216 M0 M) : qP (qf_X11_trim_J19 N i1 M) (fun r => Fg 16777216 M0 r.2) := by
  unfold qf_X11_trim_J19
  exact (fr_X11_trim_J20 h)
theorem fr_X11_trim {N : Nat} {i1 : Int} {M M0 : qm} (h : Fg 16777216 M0 M) : qP (qf_X11_trim N i1 M) (fun r => Fg 16777216 M0 r.2) := by
  unfold qf_X11_trim
  refine qP_ite ?_ ?_
  · exact (fr_X11_trim_J19 h)
  · refine qP_ite ?_ ?_
    · exact (fr_X11_trim_J19 h)
    · exact (fr_X11_trim_J20 h)
theorem fr_L_trim {N : Nat} {i1 : Int} {M M0 : qm} (h : Fg 165263992197562149737978827008192759957101170741070304821162198818601447809077836456297302609928821211897803006255856353280 M0 M) : qP (qf_L_trim N i1 M) (fun r => Fg 165263992197562149737978827008192759957101170741070304821162198818601447809077836456297302609928821211897803006255856353280 M0 r.2) := by
  unfold qf_L_trim
  refine qP_bind (fr_X11_trim Fg_refl) (fun r1 k1 => ?_)
  have h1 := Fg_tr h (Fg_mono k1 rfl)
  obtain ⟨x1, m1⟩ := r1
  rcases x1 with x1 | x1
  · have h1 : Fg _ _ m1 := h1
    refine qP_bnd (m0 := _) (Fg_wa (k := 406) h1 rfl rfl) (fun M2 h2 => ?_)
    exact qP_some h2
  · have h1 : Fg _ _ m1 := h1
    refine qP_ite ?_ ?_
    · exact qP_some h1
    · exact qP_none
theorem fr_X18_trim_J21 {N : Nat} {i1 t1 : Int} {M M0 : qm} (h : Fg 3291009114642413545811575696017619213650304447550179382629761024 M0 M) : qP (qf_X18_trim_J21 N i1 t1 M) (fun r => Fg 3291009114642413545811575696017619213650304447550179382629761024 M0 r.2) := by
  unfold qf_X18_trim_J21
  refine qP_bind (fr_X18_goes Fg_refl) (fun r1 k1 => ?_)
  have h1 := Fg_tr h (Fg_mono k1 rfl)
  refine qP_ite ?_ ?_
  · exact qP_some h1
  · refine qP_bnd (m0 := _) (Fg_w h1 rfl) (fun M2 h2 => ?_)
    exact qP_some h2
theorem fr_X18_trim_J20 {N : Nat} {i1 : Int} {M M0 : qm} (h : Fg 3291009114642413545811575696017619213650304447550179382629761024 M0 M) : qP (qf_X18_trim_J20 N i1 M) (fun r => Fg 3291009114642413545811575696017619213650304447550179382629761024 M0 r.2) := by
  unfold qf_X18_trim_J20
  exact (fr_X18_trim_J21 h)
theorem fr_X18_trim {N : Nat} {i1 : Int} {M M0 : qm} (h : Fg 3291009114642413545811575696017619213650304447550179382629761024 M0 M) : qP (qf_X18_trim N i1 M) (fun r => Fg 3291009114642413545811575696017619213650304447550179382629761024 M0 r.2) := by
  unfold qf_X18_trim
  refine qP_ite ?_ ?_
  · exact (fr_X18_trim_J20 h)
  · refine qP_ite ?_ ?_
    · exact (fr_X18_trim_J20 h)
    · exact (fr_X18_trim_J21 h)
theorem fr_X6_splitWord_J123 {N : Nat} {i2 t1 t2 : Int} {M M0 : qm} (h : Fg 805306368 M0 M) : qP (qf_X6_splitWord_J123 N i2 t1 t2 M) (fun r => Fg 805306368 M0 r.2) := by
  unfold qf_X6_splitWord_J123
  refine qP_ite ?_ ?_
  · refine qP_bnd (m0 := _) (Fg_wa (k := 28) h rfl rfl) (fun M1 h1 => ?_)
    exact qP_some h1
  · exact qP_none
theorem fr_X6_splitWord_J100 {N : Nat} {i2 t1 t2 : Int} {M M0 : qm} (h : Fg 805306368 M0 M) : qP (qf_X6_splitWord_J100 N i2 t1 t2 M) (fun r => Fg 805306368 M0 r.2) := by
  unfold qf_X6_splitWord_J100
  refine qP_ite ?_ ?_
  · refine qP_bnd (m0 := _) (Fg_wa (k := 28) h rfl rfl) (fun M1 h1 => ?_)
    exact qP_some h1
  · exact qP_none
theorem fr_X6_splitWord_J75 {N : Nat} {i1 i2 i3 t0 : Int} {M M0 : qm} (h : Fg 805306368 M0 M) : qP (qf_X6_splitWord_J75 N i1 i2 i3 t0 M) (fun r => Fg 805306368 M0 r.2) := by
  unfold qf_X6_splitWord_J75
  refine qP_ite ?_ ?_
  · refine qP_pure (fun r1 => ?_)
    refine qP_ite ?_ ?_
    · exact (fr_X6_splitWord_J123 h)
    · exact (fr_X6_splitWord_J123 h)
  · refine qP_ite ?_ ?_
    · exact (fr_X6_splitWord_J100 h)
    · exact (fr_X6_splitWord_J100 h)
theorem fr_X6_splitWord_J74 {N : Nat} {i1 i2 i3 : Int} {M M0 : qm} (h : Fg 805306368 M0 M) : qP (qf_X6_splitWord_J74 N i1 i2 i3 M) (fun r => Fg 805306368 M0 r.2) := by
  unfold qf_X6_splitWord_J74
  exact (fr_X6_splitWord_J75 h)
theorem fr_X6_splitWord_J47 {N : Nat} {i1 i2 i3 : Int} {M M0 : qm} (h : Fg 805306368 M0 M) : qP (qf_X6_splitWord_J47 N i1 i2 i3 M) (fun r => Fg 805306368 M0 r.2) := by
  unfold qf_X6_splitWord_J47
  refine qP_ite ?_ ?_
  · exact (fr_X6_splitWord_J74 h)
  · refine qP_ite ?_ ?_
    · refine qP_ite ?_ ?_
      · exact (fr_X6_splitWord_J75 h)
      · exact (fr_X6_splitWord_J74 h)
    · exact qP_none
theorem fr_X6_splitName_J46 {N : Nat} {i1 i2 i3 j4 : Int} {M M0 : qm} (h : Fg 805306368 M0 M) : qP (qf_X6_splitName_J46 N i1 i2 i3 j4 M) (fun r => Fg 805306368 M0 r.2) := by
  unfold qf_X6_splitName_J46
  refine qP_ite ?_ ?_
  · refine qP_bnd (m0 := _) (Fg_wa (k := 29) h rfl rfl) (fun M1 h1 => ?_)
    refine qP_ite ?_ ?_
    · refine qP_ite ?_ ?_
      · refine qP_bnd (m0 := _) (Fg_wa (k := 28) h1 rfl rfl) (fun M2 h2 => ?_)
        exact qP_some h2
      · exact qP_none
    · refine qP_ite ?_ ?_
      · refine qP_bnd (m0 := _) (Fg_wa (k := 28) h1 rfl rfl) (fun M3 h3 => ?_)
        exact qP_some h3
      · exact qP_none
  · exact qP_none
theorem fr_X6_splitName {N : Nat} {i1 i2 : Int} {M M0 : qm} (h : Fg 805306368 M0 M) : qP (qf_X6_splitName N i1 i2 M) (fun r => Fg 805306368 M0 r.2) := by
  unfold qf_X6_splitName
  refine qP_pure (fun r1 => ?_)
  rcases r1 with x2 | x2
  · exact qP_some h
  · exact (fr_X6_splitName_J46 h)
theorem fr_X6_splitNumber_J50 {N : Nat} {i1 i2 i3 j4 : Int} {M M0 : qm} (h : Fg 805306368 M0 M) : qP (qf_X6_splitNumber_J50 N i1 i2 i3 j4 M) (fun r => Fg 805306368 M0 r.2) := by
  unfold qf_X6_splitNumber_J50
  refine qP_ite ?_ ?_
  · refine qP_bnd (m0 := _) (Fg_wa (k := 29) h rfl rfl) (fun M1 h1 => ?_)
    refine qP_ite ?_ ?_
    · refine qP_ite ?_ ?_
      · refine qP_bnd (m0 := _) (Fg_wa (k := 28) h1 rfl rfl) (fun M2 h2 => ?_)
        exact qP_some h2
      · exact qP_none
    · refine qP_ite ?_ ?_
      · refine qP_bnd (m0 := _) (Fg_wa (k := 28) h1 rfl rfl) (fun M3 h3 => ?_)
        exact qP_some h3
      · exact qP_none
  · exact qP_none
theorem fr_X6_splitNumber {N : Nat} {i1 i2 : Int} {M M0 : qm} (h : Fg 805306368 M0 M) : qP (qf_X6_splitNumber N i1 i2 M) (fun r => Fg 805306368 M0 r.2) := by
  unfold qf_X6_splitNumber
  refine qP_pure (fun r1 => ?_)
  rcases r1 with x2 | x2
  · exact qP_some h
  · exact (fr_X6_splitNumber_J50 h)
theorem fr_X6_splitWord {N : Nat} {i1 i2 : Int} {M M0 : qm} (h : Fg 805306368 M0 M) : qP (qf_X6_splitWord N i1 i2 M) (fun r => Fg 805306368 M0 r.2) := by
  unfold qf_X6_splitWord
  refine qP_ite ?_ ?_
  · refine qP_pure (fun r1 => ?_)
    refine qP_ite ?_ ?_
    · refine qP_pure (fun r2 => ?_)
      refine qP_ite ?_ ?_
      · refine qP_ite ?_ ?_
        · exact (fr_X6_splitWord_J47 h)
        · refine qP_ite ?_ ?_
          · exact (fr_X6_splitWord_J47 h)
          · exact (fr_X6_splitWord_J74 h)
      · refine qP_bind (fr_X6_splitName Fg_refl) (fun r3 k3 => ?_)
        have h3 := Fg_tr h (Fg_mono k3 rfl)
        exact qP_some h3
    · refine qP_bind (fr_X6_splitNumber Fg_refl) (fun r4 k4 => ?_)
      have h4 := Fg_tr h (Fg_mono k4 rfl)
      exact qP_some h4
  · exact qP_none
theorem fr_X6_splitWords_J35 {N : Nat} {i1 i2 : Int} {M M0 : qm} (h : Fg 1879048192 M0 M) : qP (qf_X6_splitWords_J35 N i1 i2 M) (pU (pU (fun r => Fg 1879048192 M0 r.2) (fun r => Fg 1879048192 M0 r.2)) (fun r => Fg 1879048192 M0 r.2.2)) := by
  unfold qf_X6_splitWords_J35
  refine qP_ite ?_ ?_
  · refine qP_bnd (m0 := _) (Fg_wa (k := 30) h rfl rfl) (fun M1 h1 => ?_)
    refine qP_ite ?_ ?_
    · refine qP_bnd (m0 := _) (Fg_wa (k := 29) h1 rfl rfl) (fun M2 h2 => ?_)
      refine qP_ite ?_ ?_
      · refine qP_ite ?_ ?_
        · refine qP_ite ?_ ?_
          · refine qP_bnd (m0 := _) (Fg_wa (k := 28) h2 rfl rfl) (fun M3 h3 => ?_)
            exact qP_some h3
          · exact qP_none
        · refine qP_bind (fr_X6_splitWord Fg_refl) (fun r4 k4 => ?_)
          have h4 := Fg_tr h2 (Fg_mono k4 rfl)
          refine qP_ite ?_ ?_
          · refine qP_ite ?_ ?_
            · exact qP_some h4
            · exact qP_some h4
          · exact qP_none
      · refine qP_ite ?_ ?_
        · refine qP_bnd (m0 := _) (Fg_wa (k := 28) h2 rfl rfl) (fun M5 h5 => ?_)
          exact qP_some h5
        · exact qP_none
    · exact qP_none
  · exact qP_none
theorem fr_X6_splitWords_L4_b {N : Nat} {i1 i2 : Int} {M M0 : qm} (h : Fg 1879048192 M0 M) : qP (qf_X6_splitWords_L4_b N i1 i2 M) (pU (pU (fun r => Fg 1879048192 M0 r.2) (fun r => Fg 1879048192 M0 r.2)) (fun r => Fg 1879048192 M0 r.2.2)) := by
  unfold qf_X6_splitWords_L4_b
  refine qP_ite ?_ ?_
  · exact qP_some h
  · refine qP_pure (fun r1 => ?_)
    rcases r1 with x2 | x2
    · exact qP_some h
    · exact (fr_X6_splitWords_J35 h)
theorem fr_X6_splitWords_L4 (n : Nat) {N : Nat} {i1 i2 : Int} {M M0 : qm} (h : Fg 1879048192 M0 M) : qP (qf_X6_splitWords_L4 N n i1 i2 M) (pU (fun r => Fg 1879048192 M0 r.2) (fun r => Fg 1879048192 M0 r.2)) := by
  unfold qf_X6_splitWords_L4
  exact qP_loop (I := fun s => Fg 1879048192 M0 s.2.2) (fun s hs => fr_X6_splitWords_L4_b hs) n _ h
theorem fr_X6_splitWords {N : Nat} {M M0 : qm} (h : Fg 1879048192 M0 M) : qP (qf_X6_splitWords N M) (fun r => Fg 1879048192 M0 r.2) := by
  unfold qf_X6_splitWords
  refine qP_bind (fr_X6_splitWords_L4 _ h) (fun r1 k1 => ?_)
  rcases r1 with x1 | x1
  · exact qP_some k1
  · obtain ⟨y1_0, y1_1⟩ := x1
    have h1 : Fg _ _ y1_1 := k1
    exact qP_some h1
theorem fr_X6_skipSign {N : Nat} {i1 : Int} {M M0 : qm} (h : Fg 33554432 M0 M) : qP (qf_X6_skipSign N i1 M) (fun r => Fg 33554432 M0 r.2) := by
  unfold qf_X6_skipSign
  refine qP_ite ?_ ?_
  · refine qP_ite ?_ ?_
    · refine qP_ite ?_ ?_
      · refine qP_bnd (m0 := _) (Fg_w h rfl) (fun M1 h1 => ?_)
        exact qP_some h1
      · exact qP_some h
    · exact qP_some h
  · exact qP_none
theorem fr_X6_readFactor {N : Nat} {i1 : Int} {K : Int → qm → Option (Int × qm)} (hK : ∀ {y0 : Int} {M M0 : qm}, Fg 33554432 M0 M → qP (K y0 M) (fun r => Fg 33554432 M0 r.2)) {M M0 : qm} (h : Fg 33554432 M0 M) : qP (qf_X6_readFactor N K i1 M) (fun r => Fg 33554432 M0 r.2) := by
  unfold qf_X6_readFactor
  refine qP_bind (fr_X6_skipSign Fg_refl) (fun r1 k1 => ?_)
  have h1 := Fg_tr h (Fg_mono k1 rfl)
  refine qP_ite ?_ ?_
  · refine qP_bind (fr_X6_skipSign Fg_refl) (fun r2 k2 => ?_)
    have h2 := Fg_tr h1 (Fg_mono k2 rfl)
    refine qP_ite ?_ ?_
    · refine qP_ite ?_ ?_
      · exact qP_some h2
      · refine qP_bind (fr_X6_skipSign Fg_refl) (fun r3 k3 => ?_)
        have h3 := Fg_tr h2 (Fg_mono k3 rfl)
        refine qP_ite ?_ ?_
        · exact qP_some h3
        · refine qP_bind (hK h3) (fun r4 k4 => ?_)
          have h4 := k4
          refine qP_ite ?_ ?_
          · exact qP_some h4
          · refine qP_bind (fr_X6_skipSign Fg_refl) (fun r5 k5 => ?_)
            have h5 := Fg_tr h4 (Fg_mono k5 rfl)
            refine qP_ite ?_ ?_
            · exact qP_some h5
            · exact qP_some h5
    · exact qP_some h2
  · exact qP_some h1
theorem fr_X6_readTerm_J36 {N : Nat} {i1 i3 : Int} {K : Int → qm → Option (Int × qm)} (hK : ∀ {y0 : Int} {M M0 : qm}, Fg 33554432 M0 M → qP (K y0 M) (fun r => Fg 33554432 M0 r.2)) {M M0 : qm} (h : Fg 33554432 M0 M) : qP (qf_X6_readTerm_J36 N K i1 i3 M) (pU (pU (fun r => Fg 33554432 M0 r.2) (fun r => Fg 33554432 M0 r.2)) (fun r => Fg 33554432 M0 r.2.2.2)) := by
  unfold qf_X6_readTerm_J36
  refine qP_bind (fr_X6_readFactor hK h) (fun r1 k1 => ?_)
  have h1 := k1
  exact qP_some h1
theorem fr_X6_readTerm_L8_b {N : Nat} {i1 i2 i3 : Int} {K : Int → qm → Option (Int × qm)} (hK : ∀ {y0 : Int} {M M0 : qm}, Fg 33554432 M0 M → qP (K y0 M) (fun r => Fg 33554432 M0 r.2)) {M M0 : qm} (h : Fg 33554432 M0 M) : qP (qf_X6_readTerm_L8_b N K i1 i2 i3 M) (pU (pU (fun r => Fg 33554432 M0 r.2) (fun r => Fg 33554432 M0 r.2)) (fun r => Fg 33554432 M0 r.2.2.2)) := by
  unfold qf_X6_readTerm_L8_b
  refine qP_ite ?_ ?_
  · exact qP_some h
  · refine qP_ite ?_ ?_
    · exact qP_some h
    · refine qP_bind (fr_X6_skipSign Fg_refl) (fun r1 k1 => ?_)
      have h1 := Fg_tr h (Fg_mono k1 rfl)
      refine qP_ite ?_ ?_
      · refine qP_bind (fr_X6_skipSign Fg_refl) (fun r2 k2 => ?_)
        have h2 := Fg_tr h1 (Fg_mono k2 rfl)
        refine qP_ite ?_ ?_
        · exact qP_some h2
        · exact (fr_X6_readTerm_J36 hK h2)
      · exact (fr_X6_readTerm_J36 hK h1)
theorem fr_X6_readTerm_L8 (n : Nat) {N : Nat} {i1 i2 i3 : Int} {K : Int → qm → Option (Int × qm)} (hK : ∀ {y0 : Int} {M M0 : qm}, Fg 33554432 M0 M → qP (K y0 M) (fun r => Fg 33554432 M0 r.2)) {M M0 : qm} (h : Fg 33554432 M0 M) : qP (qf_X6_readTerm_L8 N K n i1 i2 i3 M) (pU (fun r => Fg 33554432 M0 r.2) (fun r => Fg 33554432 M0 r.2)) := by
  unfold qf_X6_readTerm_L8
  exact qP_loop (I := fun s => Fg 33554432 M0 s.2.2.2) (fun s hs => fr_X6_readTerm_L8_b hK hs) n _ h
theorem fr_X6_readTerm {N : Nat} {i1 : Int} {K : Int → qm → Option (Int × qm)} (hK : ∀ {y0 : Int} {M M0 : qm}, Fg 33554432 M0 M → qP (K y0 M) (fun r => Fg 33554432 M0 r.2)) {M M0 : qm} (h : Fg 33554432 M0 M) : qP (qf_X6_readTerm N K i1 M) (fun r => Fg 33554432 M0 r.2) := by
  unfold qf_X6_readTerm
  refine qP_bind (fr_X6_readFactor hK h) (fun r1 k1 => ?_)
  have h1 := k1
  refine qP_bind (fr_X6_readTerm_L8 _ hK h1) (fun r2 k2 => ?_)
  rcases r2 with x2 | x2
  · exact qP_some k2
  · obtain ⟨y2_0, y2_1⟩ := x2
    have h2 : Fg _ _ y2_1 := k2
    refine qP_ite ?_ ?_
    · exact qP_some h2
    · exact qP_none
theorem fr_X6_readSide_B_J43 {N : Nat} {i1 i3 : Int} {K : Int → qm → Option (Int × qm)} (hK : ∀ {y0 : Int} {M M0 : qm}, Fg 33554432 M0 M → qP (K y0 M) (fun r => Fg 33554432 M0 r.2)) {M M0 : qm} (h : Fg 33554432 M0 M) : qP (qf_X6_readSide_B_J43 N K i1 i3 M) (pU (pU (fun r => Fg 33554432 M0 r.2) (fun r => Fg 33554432 M0 r.2)) (fun r => Fg 33554432 M0 r.2.2.2)) := by
  unfold qf_X6_readSide_B_J43
  refine qP_bind (fr_X6_readTerm hK h) (fun r1 k1 => ?_)
  have h1 := k1
  exact qP_some h1
theorem fr_X6_readSide_B_L15_b {N : Nat} {i1 i2 i3 : Int} {K : Int → qm → Option (Int × qm)} (hK : ∀ {y0 : Int} {M M0 : qm}, Fg 33554432 M0 M → qP (K y0 M) (fun r => Fg 33554432 M0 r.2)) {M M0 : qm} (h : Fg 33554432 M0 M) : qP (qf_X6_readSide_B_L15_b N K i1 i2 i3 M) (pU (pU (fun r => Fg 33554432 M0 r.2) (fun r => Fg 33554432 M0 r.2)) (fun r => Fg 33554432 M0 r.2.2.2)) := by
  unfold qf_X6_readSide_B_L15_b
  refine qP_ite ?_ ?_
  · exact qP_some h
  · refine qP_ite ?_ ?_
    · exact qP_some h
    · refine qP_bind (fr_X6_skipSign Fg_refl) (fun r1 k1 => ?_)
      have h1 := Fg_tr h (Fg_mono k1 rfl)
      refine qP_ite ?_ ?_
      · refine qP_bind (fr_X6_skipSign Fg_refl) (fun r2 k2 => ?_)
        have h2 := Fg_tr h1 (Fg_mono k2 rfl)
        refine qP_ite ?_ ?_
        · exact qP_some h2
        · exact (fr_X6_readSide_B_J43 hK h2)
      · exact (fr_X6_readSide_B_J43 hK h1)
theorem fr_X6_readSide_B_L15 (n : Nat) {N : Nat} {i1 i2 i3 : Int} {K : Int → qm → Option (Int × qm)} (hK : ∀ {y0 : Int} {M M0 : qm}, Fg 33554432 M0 M → qP (K y0 M) (fun r => Fg 33554432 M0 r.2)) {M M0 : qm} (h : Fg 33554432 M0 M) : qP (qf_X6_readSide_B_L15 N K n i1 i2 i3 M) (pU (fun r => Fg 33554432 M0 r.2) (fun r => Fg 33554432 M0 r.2)) := by
  unfold qf_X6_readSide_B_L15
  exact qP_loop (I := fun s => Fg 33554432 M0 s.2.2.2) (fun s hs => fr_X6_readSide_B_L15_b hK hs) n _ h
theorem fr_X6_readSide_B {N : Nat} {i1 : Int} {K : Int → qm → Option (Int × qm)} (hK : ∀ {y0 : Int} {M M0 : qm}, Fg 33554432 M0 M → qP (K y0 M) (fun r => Fg 33554432 M0 r.2)) {M M0 : qm} (h : Fg 33554432 M0 M) : qP (qf_X6_readSide_B N K i1 M) (fun r => Fg 33554432 M0 r.2) := by
  unfold qf_X6_readSide_B
  refine qP_bind (fr_X6_skipSign Fg_refl) (fun r1 k1 => ?_)
  have h1 := Fg_tr h (Fg_mono k1 rfl)
  refine qP_bind (fr_X6_readTerm hK h1) (fun r2 k2 => ?_)
  have h2 := k2
  refine qP_bind (fr_X6_readSide_B_L15 _ hK h2) (fun r3 k3 => ?_)
  rcases r3 with x3 | x3
  · exact qP_some k3
  · obtain ⟨y3_0, y3_1⟩ := x3
    have h3 : Fg _ _ y3_1 := k3
    refine qP_ite ?_ ?_
    · exact qP_some h3
    · exact qP_none
theorem fr_X6_readSide_r (n : Nat) : ∀ {N : Nat} {i1 : Int} {M M0 : qm}, Fg 33554432 M0 M → qP (qr_X6_readSide N n i1 M) (fun r => Fg 33554432 M0 r.2) := by
  induction n with
  | zero =>
    intros
    exact qP_none
  | succ n ih =>
    intro N i1 M M0 h
    exact fr_X6_readSide_B (fun h => ih h) h
theorem fr_X6_readSide {N : Nat} {i1 : Int} {M M0 : qm} (h : Fg 33554432 M0 M) : qP (qf_X6_readSide N i1 M) (fun r => Fg 33554432 M0 r.2) := by
  unfold qf_X6_readSide
  exact (fr_X6_readSide_r _ h)
theorem fr_X6_skipCompareSign {N : Nat} {M M0 : qm} (h : Fg 33554432 M0 M) : qP (qf_X6_skipCompareSign N M) (fun r => Fg 33554432 M0 r.2) := by
  unfold qf_X6_skipCompareSign
  refine qP_bind (fr_X6_skipSign Fg_refl) (fun r1 k1 => ?_)
  have h1 := Fg_tr h (Fg_mono k1 rfl)
  refine qP_ite ?_ ?_
  · refine qP_bind (fr_X6_skipSign Fg_refl) (fun r2 k2 => ?_)
    have h2 := Fg_tr h1 (Fg_mono k2 rfl)
    refine qP_ite ?_ ?_
    · refine qP_bind (fr_X6_skipSign Fg_refl) (fun r3 k3 => ?_)
      have h3 := Fg_tr h2 (Fg_mono k3 rfl)
      refine qP_ite ?_ ?_
      · refine qP_bind (fr_X6_skipSign Fg_refl) (fun r4 k4 => ?_)
        have h4 := Fg_tr h3 (Fg_mono k4 rfl)
        refine qP_ite ?_ ?_
        · refine qP_bind (fr_X6_skipSign Fg_refl) (fun r5 k5 => ?_)
          have h5 := Fg_tr h4 (Fg_mono k5 rfl)
          refine qP_ite ?_ ?_
          · exact qP_some h5
          · exact qP_some h5
        · exact qP_some h4
      · exact qP_some h3
    · exact qP_some h2
  · exact qP_some h1
theorem fr_X6_readClause {N : Nat} {M M0 : qm} (h : Fg 33554432 M0 M) : qP (qf_X6_readClause N M) (fun r => Fg 33554432 M0 r.2) := by
  unfold qf_X6_readClause
  refine qP_bind (fr_X6_readSide Fg_refl) (fun r1 k1 => ?_)
  have h1 := Fg_tr h (Fg_mono k1 rfl)
  refine qP_ite ?_ ?_
  · exact qP_some h1
  · refine qP_bind (fr_X6_skipCompareSign Fg_refl) (fun r2 k2 => ?_)
    have h2 := Fg_tr h1 (Fg_mono k2 rfl)
    refine qP_ite ?_ ?_
    · exact qP_some h2
    · refine qP_bind (fr_X6_readSide Fg_refl) (fun r3 k3 => ?_)
      have h3 := Fg_tr h2 (Fg_mono k3 rfl)
      refine qP_ite ?_ ?_
      · exact qP_some h3
      · exact qP_some h3
theorem fr_X6_readRule_L113_b {N : Nat} {i1 : Int} {M M0 : qm} (h : Fg 15133048832 M0 M) : qP (qf_X6_readRule_L113_b N i1 M) (pU (pU (fun r => Fg 15133048832 M0 r.2) (fun r => Fg 15133048832 M0 r.2)) (fun r => Fg 15133048832 M0 r.2)) := by
  unfold qf_X6_readRule_L113_b
  refine qP_ite ?_ ?_
  · exact qP_some h
  · refine qP_bind (fr_X6_skipSign Fg_refl) (fun r1 k1 => ?_)
    have h1 := Fg_tr h (Fg_mono k1 rfl)
    refine qP_ite ?_ ?_
    · exact qP_some h1
    · refine qP_bind (fr_X6_readClause Fg_refl) (fun r2 k2 => ?_)
      have h2 := Fg_tr h1 (Fg_mono k2 rfl)
      refine qP_ite ?_ ?_
      · exact qP_some h2
      · exact qP_some h2
theorem fr_X6_readRule_L113 (n : Nat) {N : Nat} {i1 : Int} {M M0 : qm} (h : Fg 15133048832 M0 M) : qP (qf_X6_readRule_L113 N n i1 M) (pU (fun r => Fg 15133048832 M0 r.2) (fun r => Fg 15133048832 M0 r.2)) := by
  unfold qf_X6_readRule_L113
  exact qP_loop (I := fun s => Fg 15133048832 M0 s.2) (fun s hs => fr_X6_readRule_L113_b hs) n _ h
theorem fr_X6_readRule_J182 {N : Nat} {M M0 : qm} (h : Fg 15133048832 M0 M) : qP (qf_X6_readRule_J182 N M) (fun r => Fg 15133048832 M0 r.2) := by
  unfold qf_X6_readRule_J182
  refine qP_bnd (m0 := _) (Fg_w h rfl) (fun M1 h1 => ?_)
  exact qP_some h1
theorem fr_X6_readRule_J143 {N : Nat} {M M0 : qm} (h : Fg 15133048832 M0 M) : qP (qf_X6_readRule_J143 N M) (fun r => Fg 15133048832 M0 r.2) := by
  unfold qf_X6_readRule_J143
  refine qP_bind (fr_X6_skipSign Fg_refl) (fun r1 k1 => ?_)
  have h1 := Fg_tr h (Fg_mono k1 rfl)
  refine qP_ite ?_ ?_
  · exact (fr_X6_readRule_J182 h1)
  · refine qP_ite ?_ ?_
    · refine qP_ite ?_ ?_
      · refine qP_bnd (m0 := _) (Fg_wa (k := 33) h1 rfl rfl) (fun M2 h2 => ?_)
        refine qP_bind (fr_X6_skipSign Fg_refl) (fun r3 k3 => ?_)
        have h3 := Fg_tr h2 (Fg_mono k3 rfl)
        refine qP_ite ?_ ?_
        · exact qP_some h3
        · exact (fr_X6_readRule_J182 h3)
      · exact qP_none
    · exact qP_none
theorem fr_X6_readRule {N : Nat} {M M0 : qm} (h : Fg 15133048832 M0 M) : qP (qf_X6_readRule N M) (fun r => Fg 15133048832 M0 r.2) := by
  unfold qf_X6_readRule
  refine qP_ite ?_ ?_
  · refine qP_ite ?_ ?_
    · refine qP_ite ?_ ?_
      · exact qP_some h
      · refine qP_ite ?_ ?_
        · refine qP_pure (fun r1 => ?_)
          refine qP_ite ?_ ?_
          · refine qP_ite ?_ ?_
            · refine qP_ite ?_ ?_
              · refine qP_bnd (m0 := _) (Fg_wa (k := 31) h rfl rfl) (fun M2 h2 => ?_)
                refine qP_bind (fr_X6_skipSign Fg_refl) (fun r3 k3 => ?_)
                have h3 := Fg_tr h2 (Fg_mono k3 rfl)
                refine qP_ite ?_ ?_
                · exact qP_some h3
                · refine qP_bind (fr_X6_skipSign Fg_refl) (fun r4 k4 => ?_)
                  have h4 := Fg_tr h3 (Fg_mono k4 rfl)
                  refine qP_ite ?_ ?_
                  · exact qP_some h4
                  · refine qP_ite ?_ ?_
                    · refine qP_bnd (m0 := _) (Fg_wa (k := 32) h4 rfl rfl) (fun M5 h5 => ?_)
                      refine qP_ite ?_ ?_
                      · refine qP_bnd (m0 := _) (Fg_wa (k := 33) h5 rfl rfl) (fun M6 h6 => ?_)
                        refine qP_bind (fr_X6_readClause Fg_refl) (fun r7 k7 => ?_)
                        have h7 := Fg_tr h6 (Fg_mono k7 rfl)
                        refine qP_ite ?_ ?_
                        · exact qP_some h7
                        · refine qP_bind (fr_X6_readRule_L113 _ h7) (fun r8 k8 => ?_)
                          rcases r8 with x8 | x8
                          · exact qP_some k8
                          · obtain ⟨y8_0, y8_1⟩ := x8
                            have h8 : Fg _ _ y8_1 := k8
                            exact (fr_X6_readRule_J143 h8)
                      · exact qP_none
                    · exact qP_none
              · exact qP_none
            · exact qP_none
          · exact qP_some h
        · exact qP_none
    · exact qP_some h
  · exact qP_none
theorem fr_X6_readRules_L16_b {N : Nat} {i1 : Int} {M M0 : qm} (h : Fg 17012097024 M0 M) : qP (qf_X6_readRules_L16_b N i1 M) (pU (pU (fun r => Fg 17012097024 M0 r.2) (fun r => Fg 17012097024 M0 r.2)) (fun r => Fg 17012097024 M0 r.2)) := by
  unfold qf_X6_readRules_L16_b
  refine qP_ite ?_ ?_
  · exact qP_some h
  · refine qP_bind (fr_X6_readRule Fg_refl) (fun r1 k1 => ?_)
    have h1 := Fg_tr h (Fg_mono k1 rfl)
    refine qP_ite ?_ ?_
    · exact qP_some h1
    · refine qP_ite ?_ ?_
      · refine qP_ite ?_ ?_
        · exact qP_some h1
        · refine qP_bind (fr_X6_skipSign Fg_refl) (fun r2 k2 => ?_)
          have h2 := Fg_tr h1 (Fg_mono k2 rfl)
          refine qP_ite ?_ ?_
          · exact qP_some h2
          · refine qP_ite ?_ ?_
            · refine qP_ite ?_ ?_
              · exact qP_some h2
              · exact qP_some h2
            · exact qP_none
      · exact qP_none
theorem fr_X6_readRules_L16 (n : Nat) {N : Nat} {i1 : Int} {M M0 : qm} (h : Fg 17012097024 M0 M) : qP (qf_X6_readRules_L16 N n i1 M) (pU (fun r => Fg 17012097024 M0 r.2) (fun r => Fg 17012097024 M0 r.2)) := by
  unfold qf_X6_readRules_L16
  exact qP_loop (I := fun s => Fg 17012097024 M0 s.2) (fun s hs => fr_X6_readRules_L16_b hs) n _ h
theorem fr_X6_readRules {N : Nat} {M M0 : qm} (h : Fg 17012097024 M0 M) : qP (qf_X6_readRules N M) (fun r => Fg 17012097024 M0 r.2) := by
  unfold qf_X6_readRules
  refine qP_bind (fr_X6_splitWords Fg_refl) (fun r1 k1 => ?_)
  have h1 := Fg_tr h (Fg_mono k1 rfl)
  refine qP_bnd (m0 := _) (Fg_w h1 rfl) (fun M2 h2 => ?_)
  refine qP_bnd (m0 := _) (Fg_w h2 rfl) (fun M3 h3 => ?_)
  refine qP_bind (fr_X6_readRules_L16 _ h3) (fun r4 k4 => ?_)
  rcases r4 with x4 | x4
  · exact qP_some k4
  · obtain ⟨y4_0, y4_1⟩ := x4
    have h4 : Fg _ _ y4_1 := k4
    exact qP_some h4
theorem fr_X7_takeRules {N : Nat} {M M0 : qm} (h : Fg 66022237274112 M0 M) : qP (qf_X7_takeRules N M) (fun r => Fg 66022237274112 M0 r.2) := by
  unfold qf_X7_takeRules
  refine qP_bnd (m0 := _) (Fg_c1 (k := 42) h (fun _ => rfl) rfl) (fun M1 h1 => ?_)
  refine qP_bnd (m0 := _) (Fg_c1 (k := 43) h1 (fun _ => rfl) rfl) (fun M2 h2 => ?_)
  refine qP_bnd (m0 := _) (Fg_c1 (k := 44) h2 (fun _ => rfl) rfl) (fun M3 h3 => ?_)
  refine qP_bnd (m0 := _) (Fg_c1 (k := 45) h3 (fun _ => rfl) rfl) (fun M4 h4 => ?_)
  refine qP_bnd (m0 := _) (Fg_w h4 rfl) (fun M5 h5 => ?_)
  refine qP_bnd (m0 := _) (Fg_w h5 rfl) (fun M6 h6 => ?_)
  exact qP_some h6
theorem fr_X11_rules {N : Nat} {M M0 : qm} (h : Fg 66039266148352 M0 M) : qP (qf_X11_rules N M) (fun r => Fg 66039266148352 M0 r.2) := by
  unfold qf_X11_rules
  refine qP_bind (fr_X6_readRules Fg_refl) (fun r1 k1 => ?_)
  have h1 := Fg_tr h (Fg_mono k1 rfl)
  refine qP_ite ?_ ?_
  · refine qP_pure (fun r2 => ?_)
    exact qP_some h1
  · refine qP_bind (fr_X7_takeRules Fg_refl) (fun r3 k3 => ?_)
    have h3 := Fg_tr h1 (Fg_mono k3 rfl)
    refine qP_bnd (m0 := _) (Fg_w h3 rfl) (fun M4 h4 => ?_)
    exact qP_some h4
theorem fr_X15_step_L0_b {N : Nat} {M M0 : qm} (h : Fg 13269348750238205523937671488142474472180782020469188018043183169536 M0 M) : qP (qf_X15_step_L0_b N M) (pU (pU (fun r => Fg 13269348750238205523937671488142474472180782020469188018043183169536 M0 r.2) (fun r => Fg 13269348750238205523937671488142474472180782020469188018043183169536 M0 r.2)) (fun r => Fg 13269348750238205523937671488142474472180782020469188018043183169536 M0 r)) := by
  unfold qf_X15_step_L0_b
  refine qP_ite ?_ ?_
  · exact qP_some h
  · refine qP_ite ?_ ?_
    · refine qP_ite ?_ ?_
      · refine qP_bnd (m0 := _) (Fg_w h rfl) (fun M1 h1 => ?_)
        exact qP_some h1
      · exact qP_some h
    · exact qP_none
theorem fr_X15_step_L0 (n : Nat) {N : Nat} {M M0 : qm} (h : Fg 13269348750238205523937671488142474472180782020469188018043183169536 M0 M) : qP (qf_X15_step_L0 N n M) (pU (fun r => Fg 13269348750238205523937671488142474472180782020469188018043183169536 M0 r.2) (fun r => Fg 13269348750238205523937671488142474472180782020469188018043183169536 M0 r.2)) := by
  unfold qf_X15_step_L0
  exact qP_loop (I := fun s => Fg 13269348750238205523937671488142474472180782020469188018043183169536 M0 s) (fun s hs => fr_X15_step_L0_b hs) n _ h
theorem fr_X15_step_J387 {N : Nat} {M M0 : qm} (h : Fg 13269348750238205523937671488142474472180782020469188018043183169536 M0 M) : qP (qf_X15_step_J387 N M) (fun r => Fg 13269348750238205523937671488142474472180782020469188018043183169536 M0 r.2) := by
  unfold qf_X15_step_J387
  refine qP_bnd (m0 := _) (Fg_w h rfl) (fun M1 h1 => ?_)
  exact qP_some h1
theorem fr_X15_step_J370 {N : Nat} {M M0 : qm} (h : Fg 13269348750238205523937671488142474472180782020469188018043183169536 M0 M) : qP (qf_X15_step_J370 N M) (fun r => Fg 13269348750238205523937671488142474472180782020469188018043183169536 M0 r.2) := by
  unfold qf_X15_step_J370
  refine qP_ite ?_ ?_
  · refine qP_ite ?_ ?_
    · refine qP_bnd (m0 := _) (Fg_w h rfl) (fun M1 h1 => ?_)
      exact qP_some h1
    · exact (fr_X15_step_J387 h)
  · exact (fr_X15_step_J387 h)
theorem fr_X15_step_J367 {N : Nat} {t1 : Int} {M M0 : qm} (h : Fg 13269348750238205523937671488142474472180782020469188018043183169536 M0 M) : qP (qf_X15_step_J367 N t1 M) (fun r => Fg 13269348750238205523937671488142474472180782020469188018043183169536 M0 r.2) := by
  unfold qf_X15_step_J367
  refine qP_ite ?_ ?_
  · refine qP_bnd (m0 := _) (Fg_w h rfl) (fun M1 h1 => ?_)
    exact (fr_X15_step_J370 h1)
  · exact qP_none
theorem fr_X15_step_J350 {N : Nat} {i1 t1 t2 : Int} {M M0 : qm} (h : Fg 13269348750238205523937671488142474472180782020469188018043183169536 M0 M) : qP (qf_X15_step_J350 N i1 t1 t2 M) (fun r => Fg 13269348750238205523937671488142474472180782020469188018043183169536 M0 r.2) := by
  unfold qf_X15_step_J350
  refine qP_bnd (m0 := _) (Fg_w h rfl) (fun M1 h1 => ?_)
  refine qP_pure (fun r2 => ?_)
  refine qP_ite ?_ ?_
  · exact (fr_X15_step_J367 h1)
  · exact (fr_X15_step_J367 h1)
theorem fr_X15_step_J333 {N : Nat} {i1 i2 t1 : Int} {M M0 : qm} (h : Fg 13269348750238205523937671488142474472180782020469188018043183169536 M0 M) : qP (qf_X15_step_J333 N i1 i2 t1 M) (fun r => Fg 13269348750238205523937671488142474472180782020469188018043183169536 M0 r.2) := by
  unfold qf_X15_step_J333
  refine qP_bnd (m0 := _) (Fg_w h rfl) (fun M1 h1 => ?_)
  refine qP_ite ?_ ?_
  · exact (fr_X15_step_J350 h1)
  · exact (fr_X15_step_J350 h1)
theorem fr_X15_step_J318 {N : Nat} {i1 t0 : Int} {M M0 : qm} (h : Fg 13269348750238205523937671488142474472180782020469188018043183169536 M0 M) : qP (qf_X15_step_J318 N i1 t0 M) (fun r => Fg 13269348750238205523937671488142474472180782020469188018043183169536 M0 r.2) := by
  unfold qf_X15_step_J318
  refine qP_ite ?_ ?_
  · exact (fr_X15_step_J333 h)
  · exact (fr_X15_step_J333 h)
theorem fr_X15_step_J317 {N : Nat} {i1 : Int} {M M0 : qm} (h : Fg 13269348750238205523937671488142474472180782020469188018043183169536 M0 M) : qP (qf_X15_step_J317 N i1 M) (fun r => Fg 13269348750238205523937671488142474472180782020469188018043183169536 M0 r.2) := by
  unfold qf_X15_step_J317
  exact (fr_X15_step_J318 h)
theorem fr_X15_step_J298 {N : Nat} {i1 : Int} {M M0 : qm} (h : Fg 13269348750238205523937671488142474472180782020469188018043183169536 M0 M) : qP (qf_X15_step_J298 N i1 M) (fun r => Fg 13269348750238205523937671488142474472180782020469188018043183169536 M0 r.2) := by
  unfold qf_X15_step_J298
  refine qP_pure (fun r1 => ?_)
  refine qP_ite ?_ ?_
  · exact (fr_X15_step_J318 h)
  · exact (fr_X15_step_J317 h)
theorem fr_X15_step_L212_b {N : Nat} {M M0 : qm} (h : Fg 13269348750238205523937671488142474472180782020469188018043183169536 M0 M) : qP (qf_X15_step_L212_b N M) (pU (pU (fun r => Fg 13269348750238205523937671488142474472180782020469188018043183169536 M0 r.2) (fun r => Fg 13269348750238205523937671488142474472180782020469188018043183169536 M0 r.2)) (fun r => Fg 13269348750238205523937671488142474472180782020469188018043183169536 M0 r)) := by
  unfold qf_X15_step_L212_b
  refine qP_pure (fun r1 => ?_)
  refine qP_pure (fun r2 => ?_)
  refine qP_ite ?_ ?_
  · exact qP_some h
  · refine qP_pure (fun r3 => ?_)
    refine qP_bnd (m0 := _) (Fg_w h rfl) (fun M4 h4 => ?_)
    refine qP_bnd (m0 := _) (Fg_w h4 rfl) (fun M5 h5 => ?_)
    exact qP_some h5
theorem fr_X15_step_L212 (n : Nat) {N : Nat} {M M0 : qm} (h : Fg 13269348750238205523937671488142474472180782020469188018043183169536 M0 M) : qP (qf_X15_step_L212 N n M) (pU (fun r => Fg 13269348750238205523937671488142474472180782020469188018043183169536 M0 r.2) (fun r => Fg 13269348750238205523937671488142474472180782020469188018043183169536 M0 r.2)) := by
  unfold qf_X15_step_L212
  exact qP_loop (I := fun s => Fg 13269348750238205523937671488142474472180782020469188018043183169536 M0 s) (fun s hs => fr_X15_step_L212_b hs) n _ h
theorem fr_X15_step_J280 {N : Nat} {t1 : Int} {M M0 : qm} (h : Fg 13269348750238205523937671488142474472180782020469188018043183169536 M0 M) : qP (qf_X15_step_J280 N t1 M) (fun r => Fg 13269348750238205523937671488142474472180782020469188018043183169536 M0 r.2) := by
  unfold qf_X15_step_J280
  refine qP_ite ?_ ?_
  · refine qP_bnd (m0 := _) (Fg_w h rfl) (fun M1 h1 => ?_)
    exact (fr_X15_step_J370 h1)
  · exact qP_none
theorem fr_X15_step_J158 {N : Nat} {t1 : Int} {M M0 : qm} (h : Fg 13269348750238205523937671488142474472180782020469188018043183169536 M0 M) : qP (qf_X15_step_J158 N t1 M) (pU (pU (fun r => Fg 13269348750238205523937671488142474472180782020469188018043183169536 M0 r.2) (fun r => Fg 13269348750238205523937671488142474472180782020469188018043183169536 M0 r.2)) (fun r => Fg 13269348750238205523937671488142474472180782020469188018043183169536 M0 r)) := by
  unfold qf_X15_step_J158
  refine qP_bnd (m0 := _) (Fg_w h rfl) (fun M1 h1 => ?_)
  refine qP_bnd (m0 := _) (Fg_w h1 rfl) (fun M2 h2 => ?_)
  exact qP_some h2
theorem fr_X15_step_L100_b {N : Nat} {M M0 : qm} (h : Fg 13269348750238205523937671488142474472180782020469188018043183169536 M0 M) : qP (qf_X15_step_L100_b N M) (pU (pU (fun r => Fg 13269348750238205523937671488142474472180782020469188018043183169536 M0 r.2) (fun r => Fg 13269348750238205523937671488142474472180782020469188018043183169536 M0 r.2)) (fun r => Fg 13269348750238205523937671488142474472180782020469188018043183169536 M0 r)) := by
  unfold qf_X15_step_L100_b
  refine qP_pure (fun r1 => ?_)
  refine qP_pure (fun r2 => ?_)
  refine qP_ite ?_ ?_
  · exact qP_some h
  · refine qP_ite ?_ ?_
    · exact (fr_X15_step_J158 h)
    · refine qP_pure (fun r3 => ?_)
      exact (fr_X15_step_J158 h)
theorem fr_X15_step_L100 (n : Nat) {N : Nat} {M M0 : qm} (h : Fg 13269348750238205523937671488142474472180782020469188018043183169536 M0 M) : qP (qf_X15_step_L100 N n M) (pU (fun r => Fg 13269348750238205523937671488142474472180782020469188018043183169536 M0 r.2) (fun r => Fg 13269348750238205523937671488142474472180782020469188018043183169536 M0 r.2)) := by
  unfold qf_X15_step_L100
  exact qP_loop (I := fun s => Fg 13269348750238205523937671488142474472180782020469188018043183169536 M0 s) (fun s hs => fr_X15_step_L100_b hs) n _ h
theorem fr_X15_step_J194 {N : Nat} {t1 : Int} {M M0 : qm} (h : Fg 13269348750238205523937671488142474472180782020469188018043183169536 M0 M) : qP (qf_X15_step_J194 N t1 M) (fun r => Fg 13269348750238205523937671488142474472180782020469188018043183169536 M0 r.2) := by
  unfold qf_X15_step_J194
  refine qP_ite ?_ ?_
  · refine qP_bnd (m0 := _) (Fg_w h rfl) (fun M1 h1 => ?_)
    exact (fr_X15_step_J370 h1)
  · exact qP_none
theorem fr_X15_step_J38 {N : Nat} {M M0 : qm} (h : Fg 13269348750238205523937671488142474472180782020469188018043183169536 M0 M) : qP (qf_X15_step_J38 N M) (fun r => Fg 13269348750238205523937671488142474472180782020469188018043183169536 M0 r.2) := by
  unfold qf_X15_step_J38
  refine qP_bnd (m0 := _) (Fg_w h rfl) (fun M1 h1 => ?_)
  refine qP_bnd (m0 := _) (Fg_w h1 rfl) (fun M2 h2 => ?_)
  refine qP_bnd (m0 := _) (Fg_w h2 rfl) (fun M3 h3 => ?_)
  refine qP_ite ?_ ?_
  · exact qP_some h3
  · refine qP_ite ?_ ?_
    · refine qP_bnd (m0 := _) (Fg_w h3 rfl) (fun M4 h4 => ?_)
      refine qP_pure (fun r5 => ?_)
      refine qP_ite ?_ ?_
      · refine qP_pure (fun r6 => ?_)
        refine qP_ite ?_ ?_
        · refine qP_ite ?_ ?_
          · exact (fr_X15_step_J298 h4)
          · refine qP_ite ?_ ?_
            · exact (fr_X15_step_J298 h4)
            · exact (fr_X15_step_J317 h4)
        · refine qP_bnd (m0 := _) (Fg_w h4 rfl) (fun M7 h7 => ?_)
          refine qP_bind (fr_X15_step_L212 _ h7) (fun r8 k8 => ?_)
          rcases r8 with x8 | x8
          · exact qP_some k8
          · obtain ⟨y8_0, y8_1⟩ := x8
            have h8 : Fg _ _ y8_1 := k8
            refine qP_ite ?_ ?_
            · exact (fr_X15_step_J280 h8)
            · exact (fr_X15_step_J280 h8)
      · refine qP_bnd (m0 := _) (Fg_w h4 rfl) (fun M9 h9 => ?_)
        refine qP_bind (fr_X15_step_L100 _ h9) (fun r10 k10 => ?_)
        rcases r10 with x10 | x10
        · exact qP_some k10
        · obtain ⟨y10_0, y10_1⟩ := x10
          have h10 : Fg _ _ y10_1 := k10
          refine qP_ite ?_ ?_
          · exact (fr_X15_step_J194 h10)
          · exact (fr_X15_step_J194 h10)
    · exact qP_none
theorem fr_X15_step {N : Nat} {M M0 : qm} (h : Fg 13269348750238205523937671488142474472180782020469188018043183169536 M0 M) : qP (qf_X15_step N M) (fun r => Fg 13269348750238205523937671488142474472180782020469188018043183169536 M0 r.2) := by
  unfold qf_X15_step
  refine qP_bind (fr_X15_step_L0 _ h) (fun r1 k1 => ?_)
  rcases r1 with x1 | x1
  · exact qP_some k1
  · obtain ⟨y1_0, y1_1⟩ := x1
    have h1 : Fg _ _ y1_1 := k1
    exact (fr_X15_step_J38 h1)
theorem fr_X15_take_J17 {N : Nat} {t1 : Int} {M M0 : qm} (h : Fg 13269348750238205523937671488142474472180782020469188018043183169536 M0 M) : qP (qf_X15_take_J17 N t1 M) (fun r => Fg 13269348750238205523937671488142474472180782020469188018043183169536 M0 r.2) := by
  unfold qf_X15_take_J17
  refine qP_ite ?_ ?_
  · refine qP_bnd (m0 := _) (Fg_w h rfl) (fun M1 h1 => ?_)
    refine qP_ite ?_ ?_
    · refine qP_bind (fr_X15_step Fg_refl) (fun r2 k2 => ?_)
      have h2 := Fg_tr h1 (Fg_mono k2 rfl)
      exact qP_some h2
    · exact qP_some h1
  · exact qP_none
theorem fr_X15_take_J12 {N : Nat} {M M0 : qm} (h : Fg 13269348750238205523937671488142474472180782020469188018043183169536 M0 M) : qP (qf_X15_take_J12 N M) (fun r => Fg 13269348750238205523937671488142474472180782020469188018043183169536 M0 r.2) := by
  unfold qf_X15_take_J12
  exact (fr_X15_take_J17 h)
theorem fr_X15_take {N : Nat} {i1 : Int} {M M0 : qm} (h : Fg 13269348750238205523937671488142474472180782020469188018043183169536 M0 M) : qP (qf_X15_take N i1 M) (fun r => Fg 13269348750238205523937671488142474472180782020469188018043183169536 M0 r.2) := by
  unfold qf_X15_take
  refine qP_ite ?_ ?_
  · refine qP_ite ?_ ?_
    · exact (fr_X15_take_J12 h)
    · exact (fr_X15_take_J17 h)
  · exact (fr_X15_take_J12 h)
theorem fr_X15_side_J306 {N : Nat} {i1 i2 i3 t1 : Int} {M M0 : qm} (h : Fg 7279410081915972191025229995000586295469492169131198663173640453990438141952 M0 M) : qP (qf_X15_side_J306 N i1 i2 i3 t1 M) (pU (pU (fun r => Fg 7279410081915972191025229995000586295469492169131198663173640453990438141952 M0 r.2) (fun r => Fg 7279410081915972191025229995000586295469492169131198663173640453990438141952 M0 r.2)) (fun r => Fg 7279410081915972191025229995000586295469492169131198663173640453990438141952 M0 r.2.2.2.2)) := by
  unfold qf_X15_side_J306
  refine qP_ite ?_ ?_
  · refine qP_bnd (m0 := _) (Fg_w h rfl) (fun M1 h1 => ?_)
    exact qP_some h1
  · exact qP_none
theorem fr_X15_side_J296 {N : Nat} {i1 i2 i3 : Int} {M M0 : qm} (h : Fg 7279410081915972191025229995000586295469492169131198663173640453990438141952 M0 M) : qP (qf_X15_side_J296 N i1 i2 i3 M) (pU (pU (fun r => Fg 7279410081915972191025229995000586295469492169131198663173640453990438141952 M0 r.2) (fun r => Fg 7279410081915972191025229995000586295469492169131198663173640453990438141952 M0 r.2)) (fun r => Fg 7279410081915972191025229995000586295469492169131198663173640453990438141952 M0 r.2.2.2.2)) := by
  unfold qf_X15_side_J296
  refine qP_ite ?_ ?_
  · exact (fr_X15_side_J306 h)
  · exact (fr_X15_side_J306 h)
theorem fr_X15_emit {N : Nat} {i1 j2 : Int} {M M0 : qm} (h : Fg 42404383474574558211278729351860218419120960799303700076063511038243373056 M0 M) : qP (qf_X15_emit N i1 j2 M) (fun r => Fg 42404383474574558211278729351860218419120960799303700076063511038243373056 M0 r.2) := by
  unfold qf_X15_emit
  refine qP_ite ?_ ?_
  · refine qP_bnd (m0 := _) (Fg_wa (k := 243) h rfl rfl) (fun M1 h1 => ?_)
    refine qP_ite ?_ ?_
    · refine qP_bnd (m0 := _) (Fg_wa (k := 244) h1 rfl rfl) (fun M2 h2 => ?_)
      refine qP_bnd (m0 := _) (Fg_w h2 rfl) (fun M3 h3 => ?_)
      exact qP_some h3
    · exact qP_none
  · exact qP_none
theorem fr_X15_unpile_J42 {N : Nat} {i1 : Int} {M M0 : qm} (h : Fg 42404491314361226813837908019920566497643655347881390238353435452684369920 M0 M) : qP (qf_X15_unpile_J42 N i1 M) (pU (pU (fun r => Fg 42404491314361226813837908019920566497643655347881390238353435452684369920 M0 r.2) (fun r => Fg 42404491314361226813837908019920566497643655347881390238353435452684369920 M0 r.2)) (fun r => Fg 42404491314361226813837908019920566497643655347881390238353435452684369920 M0 r.2)) := by
  unfold qf_X15_unpile_J42
  refine qP_bnd (m0 := _) (Fg_w h rfl) (fun M1 h1 => ?_)
  refine qP_ite ?_ ?_
  · refine qP_bind (fr_X15_emit Fg_refl) (fun r2 k2 => ?_)
    have h2 := Fg_tr h1 (Fg_mono k2 rfl)
    exact qP_some h2
  · exact qP_none
theorem fr_X15_unpile_L0_b {N : Nat} {i1 : Int} {M M0 : qm} (h : Fg 42404491314361226813837908019920566497643655347881390238353435452684369920 M0 M) : qP (qf_X15_unpile_L0_b N i1 M) (pU (pU (fun r => Fg 42404491314361226813837908019920566497643655347881390238353435452684369920 M0 r.2) (fun r => Fg 42404491314361226813837908019920566497643655347881390238353435452684369920 M0 r.2)) (fun r => Fg 42404491314361226813837908019920566497643655347881390238353435452684369920 M0 r.2)) := by
  unfold qf_X15_unpile_L0_b
  refine qP_ite ?_ ?_
  · exact qP_some h
  · refine qP_ite ?_ ?_
    · refine qP_ite ?_ ?_
      · exact qP_some h
      · refine qP_ite ?_ ?_
        · refine qP_ite ?_ ?_
          · exact (fr_X15_unpile_J42 h)
          · refine qP_ite ?_ ?_
            · exact qP_some h
            · exact (fr_X15_unpile_J42 h)
        · exact qP_none
    · exact qP_none
theorem fr_X15_unpile_L0 (n : Nat) {N : Nat} {i1 : Int} {M M0 : qm} (h : Fg 42404491314361226813837908019920566497643655347881390238353435452684369920 M0 M) : qP (qf_X15_unpile_L0 N n i1 M) (pU (fun r => Fg 42404491314361226813837908019920566497643655347881390238353435452684369920 M0 r.2) (fun r => Fg 42404491314361226813837908019920566497643655347881390238353435452684369920 M0 r.2)) := by
  unfold qf_X15_unpile_L0
  exact qP_loop (I := fun s => Fg 42404491314361226813837908019920566497643655347881390238353435452684369920 M0 s.2) (fun s hs => fr_X15_unpile_L0_b hs) n _ h
theorem fr_X15_unpile {N : Nat} {i1 : Int} {M M0 : qm} (h : Fg 42404491314361226813837908019920566497643655347881390238353435452684369920 M0 M) : qP (qf_X15_unpile N i1 M) (fun r => Fg 42404491314361226813837908019920566497643655347881390238353435452684369920 M0 r.2) := by
  unfold qf_X15_unpile
  refine qP_bind (fr_X15_unpile_L0 _ h) (fun r1 k1 => ?_)
  rcases r1 with x1 | x1
  · exact qP_some k1
  · obtain ⟨y1_0, y1_1⟩ := x1
    have h1 : Fg _ _ y1_1 := k1
    exact qP_some h1
theorem fr_X15_side_J221 {N : Nat} {i1 i4 i5 t1 : Int} {M M0 : qm} (h : Fg 7279410081915972191025229995000586295469492169131198663173640453990438141952 M0 M) : qP (qf_X15_side_J221 N i1 i4 i5 t1 M) (pU (pU (fun r => Fg 7279410081915972191025229995000586295469492169131198663173640453990438141952 M0 r.2) (fun r => Fg 7279410081915972191025229995000586295469492169131198663173640453990438141952 M0 r.2)) (fun r => Fg 7279410081915972191025229995000586295469492169131198663173640453990438141952 M0 r.2.2.2.2)) := by
  unfold qf_X15_side_J221
  refine qP_bind (fr_X15_unpile Fg_refl) (fun r1 k1 => ?_)
  have h1 := Fg_tr h (Fg_mono k1 rfl)
  refine qP_ite ?_ ?_
  · refine qP_bnd (m0 := _) (Fg_wa (k := 252) h1 rfl rfl) (fun M2 h2 => ?_)
    refine qP_bnd (m0 := _) (Fg_w h2 rfl) (fun M3 h3 => ?_)
    refine qP_bind (fr_X15_take Fg_refl) (fun r4 k4 => ?_)
    have h4 := Fg_tr h3 (Fg_mono k4 rfl)
    exact qP_some h4
  · exact qP_none
theorem fr_X15_side_J193 {N : Nat} {i1 i2 i3 i4 : Int} {M M0 : qm} (h : Fg 7279410081915972191025229995000586295469492169131198663173640453990438141952 M0 M) : qP (qf_X15_side_J193 N i1 i2 i3 i4 M) (pU (pU (fun r => Fg 7279410081915972191025229995000586295469492169131198663173640453990438141952 M0 r.2) (fun r => Fg 7279410081915972191025229995000586295469492169131198663173640453990438141952 M0 r.2)) (fun r => Fg 7279410081915972191025229995000586295469492169131198663173640453990438141952 M0 r.2.2.2.2)) := by
  unfold qf_X15_side_J193
  refine qP_bind (fr_X15_take Fg_refl) (fun r1 k1 => ?_)
  have h1 := Fg_tr h (Fg_mono k1 rfl)
  exact qP_some h1
theorem fr_X15_side_J167 {N : Nat} {i1 i2 i4 t1 : Int} {M M0 : qm} (h : Fg 7279410081915972191025229995000586295469492169131198663173640453990438141952 M0 M) : qP (qf_X15_side_J167 N i1 i2 i4 t1 M) (pU (pU (fun r => Fg 7279410081915972191025229995000586295469492169131198663173640453990438141952 M0 r.2) (fun r => Fg 7279410081915972191025229995000586295469492169131198663173640453990438141952 M0 r.2)) (fun r => Fg 7279410081915972191025229995000586295469492169131198663173640453990438141952 M0 r.2.2.2.2)) := by
  unfold qf_X15_side_J167
  refine qP_bind (fr_X15_emit Fg_refl) (fun r1 k1 => ?_)
  have h1 := Fg_tr h (Fg_mono k1 rfl)
  refine qP_ite ?_ ?_
  · exact (fr_X15_side_J193 h1)
  · refine qP_ite ?_ ?_
    · exact (fr_X15_side_J193 h1)
    · refine qP_bind (fr_X15_take Fg_refl) (fun r2 k2 => ?_)
      have h2 := Fg_tr h1 (Fg_mono k2 rfl)
      exact qP_some h2
theorem fr_X15_side_J149 {N : Nat} {i1 i2 i3 i4 i5 : Int} {M M0 : qm} (h : Fg 7279410081915972191025229995000586295469492169131198663173640453990438141952 M0 M) : qP (qf_X15_side_J149 N i1 i2 i3 i4 i5 M) (pU (pU (fun r => Fg 7279410081915972191025229995000586295469492169131198663173640453990438141952 M0 r.2) (fun r => Fg 7279410081915972191025229995000586295469492169131198663173640453990438141952 M0 r.2)) (fun r => Fg 7279410081915972191025229995000586295469492169131198663173640453990438141952 M0 r.2.2.2.2)) := by
  unfold qf_X15_side_J149
  refine qP_ite ?_ ?_
  · refine qP_ite ?_ ?_
    · refine qP_ite ?_ ?_
      · refine qP_ite ?_ ?_
        · exact (fr_X15_side_J296 h)
        · refine qP_bind (fr_X15_unpile Fg_refl) (fun r1 k1 => ?_)
          have h1 := Fg_tr h (Fg_mono k1 rfl)
          refine qP_bnd (m0 := _) (Fg_w h1 rfl) (fun M2 h2 => ?_)
          refine qP_bind (fr_X15_take Fg_refl) (fun r3 k3 => ?_)
          have h3 := Fg_tr h2 (Fg_mono k3 rfl)
          exact qP_some h3
      · exact (fr_X15_side_J296 h)
    · refine qP_ite ?_ ?_
      · exact (fr_X15_side_J221 h)
      · exact (fr_X15_side_J221 h)
  · refine qP_ite ?_ ?_
    · exact (fr_X15_side_J167 h)
    · exact (fr_X15_side_J167 h)
theorem fr_X15_side_J113 {N : Nat} {i1 i3 i4 t1 : Int} {M M0 : qm} (h : Fg 7279410081915972191025229995000586295469492169131198663173640453990438141952 M0 M) : qP (qf_X15_side_J113 N i1 i3 i4 t1 M) (pU (pU (fun r => Fg 7279410081915972191025229995000586295469492169131198663173640453990438141952 M0 r.2) (fun r => Fg 7279410081915972191025229995000586295469492169131198663173640453990438141952 M0 r.2)) (fun r => Fg 7279410081915972191025229995000586295469492169131198663173640453990438141952 M0 r.2.2.2.2)) := by
  unfold qf_X15_side_J113
  refine qP_ite ?_ ?_
  · refine qP_bnd (m0 := _) (Fg_w h rfl) (fun M1 h1 => ?_)
    refine qP_ite ?_ ?_
    · refine qP_bnd (m0 := _) (Fg_wa (k := 252) h1 rfl rfl) (fun M2 h2 => ?_)
      refine qP_bnd (m0 := _) (Fg_w h2 rfl) (fun M3 h3 => ?_)
      refine qP_bind (fr_X15_take Fg_refl) (fun r4 k4 => ?_)
      have h4 := Fg_tr h3 (Fg_mono k4 rfl)
      exact qP_some h4
    · exact qP_none
  · exact qP_none
theorem fr_X15_side_J88 {N : Nat} {i1 i2 i3 i4 i5 : Int} {M M0 : qm} (h : Fg 7279410081915972191025229995000586295469492169131198663173640453990438141952 M0 M) : qP (qf_X15_side_J88 N i1 i2 i3 i4 i5 M) (pU (pU (fun r => Fg 7279410081915972191025229995000586295469492169131198663173640453990438141952 M0 r.2) (fun r => Fg 7279410081915972191025229995000586295469492169131198663173640453990438141952 M0 r.2)) (fun r => Fg 7279410081915972191025229995000586295469492169131198663173640453990438141952 M0 r.2.2.2.2)) := by
  unfold qf_X15_side_J88
  refine qP_ite ?_ ?_
  · exact (fr_X15_side_J149 h)
  · refine qP_ite ?_ ?_
    · refine qP_ite ?_ ?_
      · exact (fr_X15_side_J113 h)
      · exact (fr_X15_side_J113 h)
    · exact (fr_X15_side_J149 h)
theorem fr_X15_side_L14_b {N : Nat} {i1 i2 i3 i4 : Int} {M M0 : qm} (h : Fg 7279410081915972191025229995000586295469492169131198663173640453990438141952 M0 M) : qP (qf_X15_side_L14_b N i1 i2 i3 i4 M) (pU (pU (fun r => Fg 7279410081915972191025229995000586295469492169131198663173640453990438141952 M0 r.2) (fun r => Fg 7279410081915972191025229995000586295469492169131198663173640453990438141952 M0 r.2)) (fun r => Fg 7279410081915972191025229995000586295469492169131198663173640453990438141952 M0 r.2.2.2.2)) := by
  unfold qf_X15_side_L14_b
  refine qP_ite ?_ ?_
  · exact qP_some h
  · refine qP_ite ?_ ?_
    · refine qP_pure (fun r1 => ?_)
      refine qP_ite ?_ ?_
      · exact (fr_X15_side_J88 h)
      · refine qP_ite ?_ ?_
        · exact (fr_X15_side_J88 h)
        · refine qP_ite ?_ ?_
          · refine qP_bind (fr_X15_emit Fg_refl) (fun r2 k2 => ?_)
            have h2 := Fg_tr h (Fg_mono k2 rfl)
            refine qP_ite ?_ ?_
            · refine qP_bnd (m0 := _) (Fg_wa (k := 252) h2 rfl rfl) (fun M3 h3 => ?_)
              refine qP_bnd (m0 := _) (Fg_w h3 rfl) (fun M4 h4 => ?_)
              refine qP_bind (fr_X15_take Fg_refl) (fun r5 k5 => ?_)
              have h5 := Fg_tr h4 (Fg_mono k5 rfl)
              exact qP_some h5
            · exact qP_none
          · exact (fr_X15_side_J88 h)
    · exact qP_some h
theorem fr_X15_side_L14 (n : Nat) {N : Nat} {i1 i2 i3 i4 : Int} {M M0 : qm} (h : Fg 7279410081915972191025229995000586295469492169131198663173640453990438141952 M0 M) : qP (qf_X15_side_L14 N n i1 i2 i3 i4 M) (pU (fun r => Fg 7279410081915972191025229995000586295469492169131198663173640453990438141952 M0 r.2) (fun r => Fg 7279410081915972191025229995000586295469492169131198663173640453990438141952 M0 r.2)) := by
  unfold qf_X15_side_L14
  exact qP_loop (I := fun s => Fg 7279410081915972191025229995000586295469492169131198663173640453990438141952 M0 s.2.2.2.2) (fun s hs => fr_X15_side_L14_b hs) n _ h
theorem fr_X15_side_J315 {N : Nat} {M M0 : qm} (h : Fg 7279410081915972191025229995000586295469492169131198663173640453990438141952 M0 M) : qP (qf_X15_side_J315 N M) (fun r => Fg 7279410081915972191025229995000586295469492169131198663173640453990438141952 M0 r.2) := by
  unfold qf_X15_side_J315
  refine qP_bind (fr_X15_unpile Fg_refl) (fun r1 k1 => ?_)
  have h1 := Fg_tr h (Fg_mono k1 rfl)
  exact qP_some h1
theorem fr_X15_side {N : Nat} {M M0 : qm} (h : Fg 7279410081915972191025229995000586295469492169131198663173640453990438141952 M0 M) : qP (qf_X15_side N M) (fun r => Fg 7279410081915972191025229995000586295469492169131198663173640453990438141952 M0 r.2) := by
  unfold qf_X15_side
  refine qP_bnd (m0 := _) (Fg_w h rfl) (fun M1 h1 => ?_)
  refine qP_bind (fr_X15_side_L14 _ h1) (fun r2 k2 => ?_)
  rcases r2 with x2 | x2
  · exact qP_some k2
  · obtain ⟨y2_0, y2_1⟩ := x2
    have h2 : Fg _ _ y2_1 := k2
    exact (fr_X15_side_J315 h2)
theorem fr_X15_clause_J92 {N : Nat} {i1 : Int} {M M0 : qm} (h : Fg 7292661461861756740647744520923173271357828971994910227900124981603743039488 M0 M) : qP (qf_X15_clause_J92 N i1 M) (fun r => Fg 7292661461861756740647744520923173271357828971994910227900124981603743039488 M0 r.2) := by
  unfold qf_X15_clause_J92
  refine qP_ite ?_ ?_
  · refine qP_bnd (m0 := _) (Fg_wa (k := 241) h rfl rfl) (fun M1 h1 => ?_)
    exact qP_some h1
  · exact qP_none
theorem fr_X15_clause_J78 {N : Nat} {i1 t1 : Int} {M M0 : qm} (h : Fg 7292661461861756740647744520923173271357828971994910227900124981603743039488 M0 M) : qP (qf_X15_clause_J78 N i1 t1 M) (fun r => Fg 7292661461861756740647744520923173271357828971994910227900124981603743039488 M0 r.2) := by
  unfold qf_X15_clause_J78
  refine qP_bind (fr_X15_take Fg_refl) (fun r1 k1 => ?_)
  have h1 := Fg_tr h (Fg_mono k1 rfl)
  refine qP_ite ?_ ?_
  · refine qP_bind (fr_X15_side Fg_refl) (fun r2 k2 => ?_)
    have h2 := Fg_tr h1 (Fg_mono k2 rfl)
    exact (fr_X15_clause_J92 h2)
  · exact (fr_X15_clause_J92 h1)
theorem fr_X15_clause_J77 {N : Nat} {i1 : Int} {M M0 : qm} (h : Fg 7292661461861756740647744520923173271357828971994910227900124981603743039488 M0 M) : qP (qf_X15_clause_J77 N i1 M) (fun r => Fg 7292661461861756740647744520923173271357828971994910227900124981603743039488 M0 r.2) := by
  unfold qf_X15_clause_J77
  exact (fr_X15_clause_J78 h)
theorem fr_X15_clause {N : Nat} {M M0 : qm} (h : Fg 7292661461861756740647744520923173271357828971994910227900124981603743039488 M0 M) : qP (qf_X15_clause N M) (fun r => Fg 7292661461861756740647744520923173271357828971994910227900124981603743039488 M0 r.2) := by
  unfold qf_X15_clause
  refine qP_bnd (m0 := _) (Fg_w h rfl) (fun M1 h1 => ?_)
  refine qP_ite ?_ ?_
  · refine qP_bnd (m0 := _) (Fg_wa (k := 239) h1 rfl rfl) (fun M2 h2 => ?_)
    refine qP_bind (fr_X15_side Fg_refl) (fun r3 k3 => ?_)
    have h3 := Fg_tr h2 (Fg_mono k3 rfl)
    refine qP_ite ?_ ?_
    · refine qP_bnd (m0 := _) (Fg_wa (k := 240) h3 rfl rfl) (fun M4 h4 => ?_)
      refine qP_pure (fun r5 => ?_)
      refine qP_ite ?_ ?_
      · refine qP_bnd (m0 := _) (Fg_wa (k := 242) h4 rfl rfl) (fun M6 h6 => ?_)
        refine qP_ite ?_ ?_
        · refine qP_pure (fun r7 => ?_)
          refine qP_ite ?_ ?_
          · exact (fr_X15_clause_J77 h6)
          · exact (fr_X15_clause_J78 h6)
        · exact (fr_X15_clause_J77 h6)
      · exact qP_none
    · exact qP_none
  · exact qP_none
theorem fr_X15_rule_L138_b {N : Nat} {i1 : Int} {M M0 : qm} (h : Fg 7293489684903344941877556588960154057921938441890142885557030725062404079616 M0 M) : qP (qf_X15_rule_L138_b N i1 M) (pU (pU (fun r => Fg 7293489684903344941877556588960154057921938441890142885557030725062404079616 M0 r.2) (fun r => Fg 7293489684903344941877556588960154057921938441890142885557030725062404079616 M0 r.2)) (fun r => Fg 7293489684903344941877556588960154057921938441890142885557030725062404079616 M0 r.2)) := by
  unfold qf_X15_rule_L138_b
  refine qP_ite ?_ ?_
  · refine qP_ite ?_ ?_
    · refine qP_bind (fr_X15_take Fg_refl) (fun r1 k1 => ?_)
      have h1 := Fg_tr h (Fg_mono k1 rfl)
      refine qP_ite ?_ ?_
      · refine qP_ite ?_ ?_
        · refine qP_ite ?_ ?_
          · refine qP_bnd (m0 := _) (Fg_wa (k := 237) h1 rfl rfl) (fun M2 h2 => ?_)
            refine qP_bind (fr_X15_clause Fg_refl) (fun r3 k3 => ?_)
            have h3 := Fg_tr h2 (Fg_mono k3 rfl)
            exact qP_some h3
          · exact qP_none
        · exact qP_none
      · exact qP_some h1
    · exact qP_some h
  · exact qP_some h
theorem fr_X15_rule_L138 (n : Nat) {N : Nat} {i1 : Int} {M M0 : qm} (h : Fg 7293489684903344941877556588960154057921938441890142885557030725062404079616 M0 M) : qP (qf_X15_rule_L138 N n i1 M) (pU (fun r => Fg 7293489684903344941877556588960154057921938441890142885557030725062404079616 M0 r.2) (fun r => Fg 7293489684903344941877556588960154057921938441890142885557030725062404079616 M0 r.2)) := by
  unfold qf_X15_rule_L138
  exact qP_loop (I := fun s => Fg 7293489684903344941877556588960154057921938441890142885557030725062404079616 M0 s.2) (fun s hs => fr_X15_rule_L138_b hs) n _ h
theorem fr_X15_rule_J183 {N : Nat} {i1 : Int} {M M0 : qm} (h : Fg 7293489684903344941877556588960154057921938441890142885557030725062404079616 M0 M) : qP (qf_X15_rule_J183 N i1 M) (fun r => Fg 7293489684903344941877556588960154057921938441890142885557030725062404079616 M0 r.2) := by
  unfold qf_X15_rule_J183
  refine qP_ite ?_ ?_
  · refine qP_ite ?_ ?_
    · refine qP_bind (fr_X15_take Fg_refl) (fun r1 k1 => ?_)
      have h1 := Fg_tr h (Fg_mono k1 rfl)
      refine qP_ite ?_ ?_
      · refine qP_bnd (m0 := _) (Fg_wa (k := 238) h1 rfl rfl) (fun M2 h2 => ?_)
        refine qP_ite ?_ ?_
        · refine qP_bind (fr_X15_take Fg_refl) (fun r3 k3 => ?_)
          have h3 := Fg_tr h2 (Fg_mono k3 rfl)
          exact qP_some h3
        · refine qP_bind (fr_X15_take Fg_refl) (fun r4 k4 => ?_)
          have h4 := Fg_tr h2 (Fg_mono k4 rfl)
          exact qP_some h4
      · exact qP_none
    · exact qP_some h
  · exact qP_some h
theorem fr_X15_rule_J124 {N : Nat} {i1 t1 : Int} {M M0 : qm} (h : Fg 7293489684903344941877556588960154057921938441890142885557030725062404079616 M0 M) : qP (qf_X15_rule_J124 N i1 t1 M) (fun r => Fg 7293489684903344941877556588960154057921938441890142885557030725062404079616 M0 r.2) := by
  unfold qf_X15_rule_J124
  refine qP_bind (fr_X15_take Fg_refl) (fun r1 k1 => ?_)
  have h1 := Fg_tr h (Fg_mono k1 rfl)
  refine qP_ite ?_ ?_
  · refine qP_bind (fr_X15_clause Fg_refl) (fun r2 k2 => ?_)
    have h2 := Fg_tr h1 (Fg_mono k2 rfl)
    refine qP_bind (fr_X15_rule_L138 _ h2) (fun r3 k3 => ?_)
    rcases r3 with x3 | x3
    · exact qP_some k3
    · obtain ⟨y3_0, y3_1⟩ := x3
      have h3 : Fg _ _ y3_1 := k3
      exact (fr_X15_rule_J183 h3)
  · refine qP_bind (fr_X15_rule_L138 _ h1) (fun r4 k4 => ?_)
    rcases r4 with x4 | x4
    · exact qP_some k4
    · obtain ⟨y4_0, y4_1⟩ := x4
      have h4 : Fg _ _ y4_1 := k4
      exact (fr_X15_rule_J183 h4)
theorem fr_X15_rule_J41 {N : Nat} {t1 : Int} {M M0 : qm} (h : Fg 7293489684903344941877556588960154057921938441890142885557030725062404079616 M0 M) : qP (qf_X15_rule_J41 N t1 M) (fun r => Fg 7293489684903344941877556588960154057921938441890142885557030725062404079616 M0 r.2) := by
  unfold qf_X15_rule_J41
  refine qP_ite ?_ ?_
  · refine qP_bnd (m0 := _) (Fg_w h rfl) (fun M1 h1 => ?_)
    refine qP_ite ?_ ?_
    · refine qP_bnd (m0 := _) (Fg_w h1 rfl) (fun M2 h2 => ?_)
      refine qP_ite ?_ ?_
      · refine qP_bnd (m0 := _) (Fg_wa (k := 235) h2 rfl rfl) (fun M3 h3 => ?_)
        refine qP_ite ?_ ?_
        · refine qP_bnd (m0 := _) (Fg_wa (k := 236) h3 rfl rfl) (fun M4 h4 => ?_)
          refine qP_ite ?_ ?_
          · refine qP_bnd (m0 := _) (Fg_wa (k := 237) h4 rfl rfl) (fun M5 h5 => ?_)
            refine qP_ite ?_ ?_
            · refine qP_bnd (m0 := _) (Fg_wa (k := 238) h5 rfl rfl) (fun M6 h6 => ?_)
              refine qP_bind (fr_X15_take Fg_refl) (fun r7 k7 => ?_)
              have h7 := Fg_tr h6 (Fg_mono k7 rfl)
              refine qP_ite ?_ ?_
              · exact (fr_X15_rule_J124 h7)
              · exact (fr_X15_rule_J124 h7)
            · exact qP_none
          · exact qP_none
        · exact qP_none
      · exact qP_none
    · exact qP_some h1
  · exact qP_none
theorem fr_X15_rule_J36 {N : Nat} {M M0 : qm} (h : Fg 7293489684903344941877556588960154057921938441890142885557030725062404079616 M0 M) : qP (qf_X15_rule_J36 N M) (fun r => Fg 7293489684903344941877556588960154057921938441890142885557030725062404079616 M0 r.2) := by
  unfold qf_X15_rule_J36
  exact (fr_X15_rule_J41 h)
theorem fr_X15_rule {N : Nat} {M M0 : qm} (h : Fg 7293489684903344941877556588960154057921938441890142885557030725062404079616 M0 M) : qP (qf_X15_rule N M) (fun r => Fg 7293489684903344941877556588960154057921938441890142885557030725062404079616 M0 r.2) := by
  unfold qf_X15_rule
  refine qP_ite ?_ ?_
  · refine qP_ite ?_ ?_
    · refine qP_ite ?_ ?_
      · exact (fr_X15_rule_J36 h)
      · refine qP_pure (fun r1 => ?_)
        refine qP_ite ?_ ?_
        · exact (fr_X15_rule_J36 h)
        · exact (fr_X15_rule_J41 h)
    · exact (fr_X15_rule_J36 h)
  · exact (fr_X15_rule_J36 h)
theorem fr_X15_read_J67 {N : Nat} {t1 : Int} {M M0 : qm} (h : Fg 7293489685104096497870743726103060298193935203498036661164327468390934380544 M0 M) : qP (qf_X15_read_J67 N t1 M) (pU (pU (fun r => Fg 7293489685104096497870743726103060298193935203498036661164327468390934380544 M0 r.2) (fun r => Fg 7293489685104096497870743726103060298193935203498036661164327468390934380544 M0 r.2)) (fun r => Fg 7293489685104096497870743726103060298193935203498036661164327468390934380544 M0 r)) := by
  unfold qf_X15_read_J67
  refine qP_bind (fr_X15_take Fg_refl) (fun r1 k1 => ?_)
  have h1 := Fg_tr h (Fg_mono k1 rfl)
  refine qP_ite ?_ ?_
  · refine qP_ite ?_ ?_
    · exact qP_some h1
    · refine qP_bind (fr_X15_rule Fg_refl) (fun r2 k2 => ?_)
      have h2 := Fg_tr h1 (Fg_mono k2 rfl)
      exact qP_some h2
  · exact qP_some h1
theorem fr_X15_read_L38_b {N : Nat} {M M0 : qm} (h : Fg 7293489685104096497870743726103060298193935203498036661164327468390934380544 M0 M) : qP (qf_X15_read_L38_b N M) (pU (pU (fun r => Fg 7293489685104096497870743726103060298193935203498036661164327468390934380544 M0 r.2) (fun r => Fg 7293489685104096497870743726103060298193935203498036661164327468390934380544 M0 r.2)) (fun r => Fg 7293489685104096497870743726103060298193935203498036661164327468390934380544 M0 r)) := by
  unfold qf_X15_read_L38_b
  refine qP_ite ?_ ?_
  · refine qP_ite ?_ ?_
    · exact qP_some h
    · refine qP_ite ?_ ?_
      · exact (fr_X15_read_J67 h)
      · exact (fr_X15_read_J67 h)
  · exact qP_some h
theorem fr_X15_read_L38 (n : Nat) {N : Nat} {M M0 : qm} (h : Fg 7293489685104096497870743726103060298193935203498036661164327468390934380544 M0 M) : qP (qf_X15_read_L38 N n M) (pU (fun r => Fg 7293489685104096497870743726103060298193935203498036661164327468390934380544 M0 r.2) (fun r => Fg 7293489685104096497870743726103060298193935203498036661164327468390934380544 M0 r.2)) := by
  unfold qf_X15_read_L38
  exact qP_loop (I := fun s => Fg 7293489685104096497870743726103060298193935203498036661164327468390934380544 M0 s) (fun s hs => fr_X15_read_L38_b hs) n _ h
theorem fr_X15_adopt_L26_b {N : Nat} {i1 : Int} {M M0 : qm} (h : Fg 56483892194282229246353580337553450526071504107275652042930570595095543808 M0 M) : qP (qf_X15_adopt_L26_b N i1 M) (pU (pU (fun r => Fg 56483892194282229246353580337553450526071504107275652042930570595095543808 M0 r.2) (fun r => Fg 56483892194282229246353580337553450526071504107275652042930570595095543808 M0 r.2)) (fun r => Fg 56483892194282229246353580337553450526071504107275652042930570595095543808 M0 r.2)) := by
  unfold qf_X15_adopt_L26_b
  refine qP_ite ?_ ?_
  · exact qP_some h
  · refine qP_ite ?_ ?_
    · refine qP_ite ?_ ?_
      · refine qP_bnd (m0 := _) (Fg_wa (k := 235) h rfl rfl) (fun M1 h1 => ?_)
        refine qP_ite ?_ ?_
        · refine qP_ite ?_ ?_
          · refine qP_bnd (m0 := _) (Fg_wa (k := 236) h1 rfl rfl) (fun M2 h2 => ?_)
            refine qP_ite ?_ ?_
            · refine qP_ite ?_ ?_
              · refine qP_bnd (m0 := _) (Fg_wa (k := 237) h2 rfl rfl) (fun M3 h3 => ?_)
                refine qP_ite ?_ ?_
                · refine qP_ite ?_ ?_
                  · refine qP_bnd (m0 := _) (Fg_wa (k := 238) h3 rfl rfl) (fun M4 h4 => ?_)
                    exact qP_some h4
                  · exact qP_none
                · exact qP_none
              · exact qP_none
            · exact qP_none
          · exact qP_none
        · exact qP_none
      · exact qP_none
    · exact qP_none
theorem fr_X15_adopt_L26 (n : Nat) {N : Nat} {i1 : Int} {M M0 : qm} (h : Fg 56483892194282229246353580337553450526071504107275652042930570595095543808 M0 M) : qP (qf_X15_adopt_L26 N n i1 M) (pU (fun r => Fg 56483892194282229246353580337553450526071504107275652042930570595095543808 M0 r.2) (fun r => Fg 56483892194282229246353580337553450526071504107275652042930570595095543808 M0 r.2)) := by
  unfold qf_X15_adopt_L26
  exact qP_loop (I := fun s => Fg 56483892194282229246353580337553450526071504107275652042930570595095543808 M0 s.2) (fun s hs => fr_X15_adopt_L26_b hs) n _ h
theorem fr_X15_adopt_L102_b {N : Nat} {i1 : Int} {M M0 : qm} (h : Fg 56483892194282229246353580337553450526071504107275652042930570595095543808 M0 M) : qP (qf_X15_adopt_L102_b N i1 M) (pU (pU (fun r => Fg 56483892194282229246353580337553450526071504107275652042930570595095543808 M0 r.2) (fun r => Fg 56483892194282229246353580337553450526071504107275652042930570595095543808 M0 r.2)) (fun r => Fg 56483892194282229246353580337553450526071504107275652042930570595095543808 M0 r.2)) := by
  unfold qf_X15_adopt_L102_b
  refine qP_ite ?_ ?_
  · exact qP_some h
  · refine qP_ite ?_ ?_
    · refine qP_ite ?_ ?_
      · refine qP_bnd (m0 := _) (Fg_wa (k := 239) h rfl rfl) (fun M1 h1 => ?_)
        refine qP_ite ?_ ?_
        · refine qP_ite ?_ ?_
          · refine qP_bnd (m0 := _) (Fg_wa (k := 240) h1 rfl rfl) (fun M2 h2 => ?_)
            refine qP_ite ?_ ?_
            · refine qP_ite ?_ ?_
              · refine qP_bnd (m0 := _) (Fg_wa (k := 241) h2 rfl rfl) (fun M3 h3 => ?_)
                refine qP_ite ?_ ?_
                · refine qP_ite ?_ ?_
                  · refine qP_bnd (m0 := _) (Fg_wa (k := 242) h3 rfl rfl) (fun M4 h4 => ?_)
                    exact qP_some h4
                  · exact qP_none
                · exact qP_none
              · exact qP_none
            · exact qP_none
          · exact qP_none
        · exact qP_none
      · exact qP_none
    · exact qP_none
theorem fr_X15_adopt_L102 (n : Nat) {N : Nat} {i1 : Int} {M M0 : qm} (h : Fg 56483892194282229246353580337553450526071504107275652042930570595095543808 M0 M) : qP (qf_X15_adopt_L102 N n i1 M) (pU (fun r => Fg 56483892194282229246353580337553450526071504107275652042930570595095543808 M0 r.2) (fun r => Fg 56483892194282229246353580337553450526071504107275652042930570595095543808 M0 r.2)) := by
  unfold qf_X15_adopt_L102
  exact qP_loop (I := fun s => Fg 56483892194282229246353580337553450526071504107275652042930570595095543808 M0 s.2) (fun s hs => fr_X15_adopt_L102_b hs) n _ h
theorem fr_X15_adopt_L178_b {N : Nat} {i1 : Int} {M M0 : qm} (h : Fg 56483892194282229246353580337553450526071504107275652042930570595095543808 M0 M) : qP (qf_X15_adopt_L178_b N i1 M) (pU (pU (fun r => Fg 56483892194282229246353580337553450526071504107275652042930570595095543808 M0 r.2) (fun r => Fg 56483892194282229246353580337553450526071504107275652042930570595095543808 M0 r.2)) (fun r => Fg 56483892194282229246353580337553450526071504107275652042930570595095543808 M0 r.2)) := by
  unfold qf_X15_adopt_L178_b
  refine qP_ite ?_ ?_
  · exact qP_some h
  · refine qP_ite ?_ ?_
    · refine qP_ite ?_ ?_
      · refine qP_bnd (m0 := _) (Fg_wa (k := 243) h rfl rfl) (fun M1 h1 => ?_)
        refine qP_ite ?_ ?_
        · refine qP_ite ?_ ?_
          · refine qP_bnd (m0 := _) (Fg_wa (k := 244) h1 rfl rfl) (fun M2 h2 => ?_)
            exact qP_some h2
          · exact qP_none
        · exact qP_none
      · exact qP_none
    · exact qP_none
theorem fr_X15_adopt_L178 (n : Nat) {N : Nat} {i1 : Int} {M M0 : qm} (h : Fg 56483892194282229246353580337553450526071504107275652042930570595095543808 M0 M) : qP (qf_X15_adopt_L178 N n i1 M) (pU (fun r => Fg 56483892194282229246353580337553450526071504107275652042930570595095543808 M0 r.2) (fun r => Fg 56483892194282229246353580337553450526071504107275652042930570595095543808 M0 r.2)) := by
  unfold qf_X15_adopt_L178
  exact qP_loop (I := fun s => Fg 56483892194282229246353580337553450526071504107275652042930570595095543808 M0 s.2) (fun s hs => fr_X15_adopt_L178_b hs) n _ h
theorem fr_X15_adopt {N : Nat} {M M0 : qm} (h : Fg 56483892194282229246353580337553450526071504107275652042930570595095543808 M0 M) : qP (qf_X15_adopt N M) (fun r => Fg 56483892194282229246353580337553450526071504107275652042930570595095543808 M0 r.2) := by
  unfold qf_X15_adopt
  refine qP_bnd (m0 := _) (Fg_w h rfl) (fun M1 h1 => ?_)
  refine qP_bnd (m0 := _) (Fg_w h1 rfl) (fun M2 h2 => ?_)
  refine qP_bnd (m0 := _) (Fg_w h2 rfl) (fun M3 h3 => ?_)
  refine qP_bind (fr_X15_adopt_L26 _ h3) (fun r4 k4 => ?_)
  rcases r4 with x4 | x4
  · exact qP_some k4
  · obtain ⟨y4_0, y4_1⟩ := x4
    have h4 : Fg _ _ y4_1 := k4
    refine qP_bind (fr_X15_adopt_L102 _ h4) (fun r5 k5 => ?_)
    rcases r5 with x5 | x5
    · exact qP_some k5
    · obtain ⟨y5_0, y5_1⟩ := x5
      have h5 : Fg _ _ y5_1 := k5
      refine qP_bind (fr_X15_adopt_L178 _ h5) (fun r6 k6 => ?_)
      rcases r6 with x6 | x6
      · exact qP_some k6
      · obtain ⟨y6_0, y6_1⟩ := x6
        have h6 : Fg _ _ y6_1 := k6
        exact qP_some h6
theorem fr_X15_read_J91 {N : Nat} {M M0 : qm} (h : Fg 7293489685104096497870743726103060298193935203498036661164327468390934380544 M0 M) : qP (qf_X15_read_J91 N M) (fun r => Fg 7293489685104096497870743726103060298193935203498036661164327468390934380544 M0 r.2) := by
  unfold qf_X15_read_J91
  refine qP_ite ?_ ?_
  · refine qP_bind (fr_X15_adopt Fg_refl) (fun r1 k1 => ?_)
    have h1 := Fg_tr h (Fg_mono k1 rfl)
    refine qP_bnd (m0 := _) (Fg_w h1 rfl) (fun M2 h2 => ?_)
    refine qP_bnd (m0 := _) (Fg_w h2 rfl) (fun M3 h3 => ?_)
    exact qP_some h3
  · exact qP_some h
theorem fr_X15_read {N : Nat} {M M0 : qm} (h : Fg 7293489685104096497870743726103060298193935203498036661164327468390934380544 M0 M) : qP (qf_X15_read N M) (fun r => Fg 7293489685104096497870743726103060298193935203498036661164327468390934380544 M0 r.2) := by
  unfold qf_X15_read
  refine qP_bnd (m0 := _) (Fg_w h rfl) (fun M1 h1 => ?_)
  refine qP_bnd (m0 := _) (Fg_w h1 rfl) (fun M2 h2 => ?_)
  refine qP_bnd (m0 := _) (Fg_w h2 rfl) (fun M3 h3 => ?_)
  refine qP_bnd (m0 := _) (Fg_w h3 rfl) (fun M4 h4 => ?_)
  refine qP_bnd (m0 := _) (Fg_w h4 rfl) (fun M5 h5 => ?_)
  refine qP_bnd (m0 := _) (Fg_w h5 rfl) (fun M6 h6 => ?_)
  refine qP_bind (fr_X15_step Fg_refl) (fun r7 k7 => ?_)
  have h7 := Fg_tr h6 (Fg_mono k7 rfl)
  refine qP_bind (fr_X15_rule Fg_refl) (fun r8 k8 => ?_)
  have h8 := Fg_tr h7 (Fg_mono k8 rfl)
  refine qP_bind (fr_X15_read_L38 _ h8) (fun r9 k9 => ?_)
  rcases r9 with x9 | x9
  · exact qP_some k9
  · obtain ⟨y9_0, y9_1⟩ := x9
    have h9 : Fg _ _ y9_1 := k9
    exact (fr_X15_read_J91 h9)
theorem fr_X18_rules {N : Nat} {M M0 : qm} (h : Fg 7293489685104096497870743727564561935524838121701721493880610488046866923520 M0 M) : qP (qf_X18_rules N M) (fun r => Fg 7293489685104096497870743727564561935524838121701721493880610488046866923520 M0 r.2) := by
  unfold qf_X18_rules
  refine qP_bnd (m0 := _) (Fg_w h rfl) (fun M1 h1 => ?_)
  refine qP_bind (fr_X15_read Fg_refl) (fun r2 k2 => ?_)
  have h2 := Fg_tr h1 (Fg_mono k2 rfl)
  exact qP_some h2
theorem fr_X7_setFact {N : Nat} {j1 i3 : Int} {M M0 : qm} (h : Fg 844493649608704 M0 M) : qP (qf_X7_setFact N j1 i3 M) (fun r => Fg 844493649608704 M0 r.2) := by
  unfold qf_X7_setFact
  refine qP_pure (fun r1 => ?_)
  refine qP_ite ?_ ?_
  · refine qP_ite ?_ ?_
    · exact qP_some h
    · refine qP_ite ?_ ?_
      · refine qP_bnd (m0 := _) (Fg_wa (k := 48) h rfl rfl) (fun M2 h2 => ?_)
        refine qP_ite ?_ ?_
        · refine qP_bnd (m0 := _) (Fg_wa (k := 49) h2 rfl rfl) (fun M3 h3 => ?_)
          refine qP_bnd (m0 := _) (Fg_w h3 rfl) (fun M4 h4 => ?_)
          exact qP_some h4
        · exact qP_none
      · exact qP_none
  · refine qP_ite ?_ ?_
    · refine qP_ite ?_ ?_
      · refine qP_bnd (m0 := _) (Fg_wa (k := 49) h rfl rfl) (fun M5 h5 => ?_)
        exact qP_some h5
      · exact qP_none
    · exact qP_none
theorem fr_X11_fact_J23 {N : Nat} {j1 i3 t0 : Int} {M M0 : qm} (h : Fg 844493649608704 M0 M) : qP (qf_X11_fact_J23 N j1 i3 t0 M) (fun r => Fg 844493649608704 M0 r.2) := by
  unfold qf_X11_fact_J23
  refine qP_pure (fun r1 => ?_)
  rcases r1 with x2 | x2
  · refine qP_pure (fun r3 => ?_)
    refine qP_pure (fun r4 => ?_)
    rcases r4 with x5 | x5
    · refine qP_bind (fr_X7_setFact Fg_refl) (fun r6 k6 => ?_)
      have h6 := Fg_tr h (Fg_mono k6 rfl)
      exact qP_some h6
    · exact qP_some h
  · exact qP_some h
theorem fr_X11_fact_J22 {N : Nat} {j1 i3 : Int} {M M0 : qm} (h : Fg 844493649608704 M0 M) : qP (qf_X11_fact_J22 N j1 i3 M) (fun r => Fg 844493649608704 M0 r.2) := by
  unfold qf_X11_fact_J22
  exact (fr_X11_fact_J23 h)
theorem fr_X11_fact {N : Nat} {j1 i3 : Int} {M M0 : qm} (h : Fg 844493649608704 M0 M) : qP (qf_X11_fact N j1 i3 M) (fun r => Fg 844493649608704 M0 r.2) := by
  unfold qf_X11_fact
  refine qP_pure (fun r1 => ?_)
  refine qP_ite ?_ ?_
  · exact (fr_X11_fact_J22 h)
  · refine qP_pure (fun r2 => ?_)
    refine qP_ite ?_ ?_
    · exact (fr_X11_fact_J22 h)
    · exact (fr_X11_fact_J23 h)
theorem fr_L_fact {N : Nat} {j1 i3 : Int} {M M0 : qm} (h : Fg 165263992197562149737978827008192759957101170741070304821162198818601447809077836456297302609928821211897803850749489184768 M0 M) : qP (qf_L_fact N j1 i3 M) (fun r => Fg 165263992197562149737978827008192759957101170741070304821162198818601447809077836456297302609928821211897803850749489184768 M0 r.2) := by
  unfold qf_L_fact
  refine qP_bind (fr_X11_fact Fg_refl) (fun r1 k1 => ?_)
  have h1 := Fg_tr h (Fg_mono k1 rfl)
  obtain ⟨x1, m1⟩ := r1
  rcases x1 with x1 | x1
  · have h1 : Fg _ _ m1 := h1
    refine qP_bnd (m0 := _) (Fg_wa (k := 406) h1 rfl rfl) (fun M2 h2 => ?_)
    exact qP_some h2
  · have h1 : Fg _ _ m1 := h1
    refine qP_ite ?_ ?_
    · exact qP_some h1
    · refine qP_ite ?_ ?_
      · exact qP_some h1
      · exact qP_none
theorem fr_X15_fact_J49 {N : Nat} {j1 i3 i4 j5 : Int} {M M0 : qm} (h : Fg 41410484662761612009432703793538882944108673763965781865294598737231872 M0 M) : qP (qf_X15_fact_J49 N j1 i3 i4 j5 M) (fun r => Fg 41410484662761612009432703793538882944108673763965781865294598737231872 M0 r.2) := by
  unfold qf_X15_fact_J49
  refine qP_ite ?_ ?_
  · refine qP_bnd (m0 := _) (Fg_wa (k := 233) h rfl rfl) (fun M1 h1 => ?_)
    refine qP_ite ?_ ?_
    · refine qP_bnd (m0 := _) (Fg_wa (k := 234) h1 rfl rfl) (fun M2 h2 => ?_)
      exact qP_some h2
    · exact qP_none
  · exact qP_none
theorem fr_X15_fact_J26 {N : Nat} {j1 i3 i4 t0 : Int} {M M0 : qm} (h : Fg 41410484662761612009432703793538882944108673763965781865294598737231872 M0 M) : qP (qf_X15_fact_J26 N j1 i3 i4 t0 M) (fun r => Fg 41410484662761612009432703793538882944108673763965781865294598737231872 M0 r.2) := by
  unfold qf_X15_fact_J26
  refine qP_ite ?_ ?_
  · exact (fr_X15_fact_J49 h)
  · refine qP_bnd (m0 := _) (Fg_w h rfl) (fun M1 h1 => ?_)
    exact (fr_X15_fact_J49 h1)
theorem fr_X15_fact {N : Nat} {j1 i3 : Int} {M M0 : qm} (h : Fg 41410484662761612009432703793538882944108673763965781865294598737231872 M0 M) : qP (qf_X15_fact N j1 i3 M) (fun r => Fg 41410484662761612009432703793538882944108673763965781865294598737231872 M0 r.2) := by
  unfold qf_X15_fact
  refine qP_pure (fun r1 => ?_)
  refine qP_ite ?_ ?_
  · refine qP_ite ?_ ?_
    · exact (fr_X15_fact_J26 h)
    · exact qP_none
  · exact (fr_X15_fact_J26 h)
theorem fr_X18_fact_J27 {N : Nat} {j1 i3 t1 : Int} {M M0 : qm} (h : Fg 41410484662761612009434165295176213847026877448798498148314254669774848 M0 M) : qP (qf_X18_fact_J27 N j1 i3 t1 M) (fun r => Fg 41410484662761612009434165295176213847026877448798498148314254669774848 M0 r.2) := by
  unfold qf_X18_fact_J27
  refine qP_pure (fun r1 => ?_)
  refine qP_bind (fr_X18_goes Fg_refl) (fun r2 k2 => ?_)
  have h2 := Fg_tr h (Fg_mono k2 rfl)
  refine qP_ite ?_ ?_
  · exact qP_some h2
  · refine qP_bind (fr_X15_fact Fg_refl) (fun r3 k3 => ?_)
    have h3 := Fg_tr h2 (Fg_mono k3 rfl)
    exact qP_some h3
theorem fr_X18_fact_J26 {N : Nat} {j1 i3 : Int} {M M0 : qm} (h : Fg 41410484662761612009434165295176213847026877448798498148314254669774848 M0 M) : qP (qf_X18_fact_J26 N j1 i3 M) (fun r => Fg 41410484662761612009434165295176213847026877448798498148314254669774848 M0 r.2) := by
  unfold qf_X18_fact_J26
  exact (fr_X18_fact_J27 h)
theorem fr_X18_fact {N : Nat} {j1 i3 : Int} {M M0 : qm} (h : Fg 41410484662761612009434165295176213847026877448798498148314254669774848 M0 M) : qP (qf_X18_fact N j1 i3 M) (fun r => Fg 41410484662761612009434165295176213847026877448798498148314254669774848 M0 r.2) := by
  unfold qf_X18_fact
  refine qP_pure (fun r1 => ?_)
  refine qP_ite ?_ ?_
  · exact (fr_X18_fact_J26 h)
  · refine qP_ite ?_ ?_
    · exact (fr_X18_fact_J26 h)
    · refine qP_ite ?_ ?_
      · exact (fr_X18_fact_J26 h)
      · exact (fr_X18_fact_J27 h)
theorem fr_X11_measure_J58 {N : Nat} {i1 i2 j3 t0 : Int} {M M0 : qm} (h : Fg 844493649608704 M0 M) : qP (qf_X11_measure_J58 N i1 i2 j3 t0 M) (fun r => Fg 844493649608704 M0 r.2) := by
  unfold qf_X11_measure_J58
  refine qP_pure (fun r1 => ?_)
  rcases r1 with x2 | x2
  · refine qP_pure (fun r3 => ?_)
    refine qP_bind (fr_X7_setFact Fg_refl) (fun r4 k4 => ?_)
    have h4 := Fg_tr h (Fg_mono k4 rfl)
    exact qP_some h4
  · exact qP_some h
theorem fr_X11_measure_J57 {N : Nat} {i1 i2 j3 : Int} {M M0 : qm} (h : Fg 844493649608704 M0 M) : qP (qf_X11_measure_J57 N i1 i2 j3 M) (fun r => Fg 844493649608704 M0 r.2) := by
  unfold qf_X11_measure_J57
  exact (fr_X11_measure_J58 h)
theorem fr_X11_measure_J29 {N : Nat} {i1 i2 j3 t0 : Int} {M M0 : qm} (h : Fg 844493649608704 M0 M) : qP (qf_X11_measure_J29 N i1 i2 j3 t0 M) (fun r => Fg 844493649608704 M0 r.2) := by
  unfold qf_X11_measure_J29
  refine qP_pure (fun r1 => ?_)
  rcases r1 with x2 | x2
  · refine qP_ite ?_ ?_
    · exact (fr_X11_measure_J57 h)
    · refine qP_pure (fun r3 => ?_)
      refine qP_ite ?_ ?_
      · exact (fr_X11_measure_J57 h)
      · exact (fr_X11_measure_J58 h)
  · exact qP_some h
theorem fr_X11_measure_J28 {N : Nat} {i1 i2 j3 : Int} {M M0 : qm} (h : Fg 844493649608704 M0 M) : qP (qf_X11_measure_J28 N i1 i2 j3 M) (fun r => Fg 844493649608704 M0 r.2) := by
  unfold qf_X11_measure_J28
  exact (fr_X11_measure_J29 h)
theorem fr_X11_measure {N : Nat} {i1 i2 j3 : Int} {M M0 : qm} (h : Fg 844493649608704 M0 M) : qP (qf_X11_measure N i1 i2 j3 M) (fun r => Fg 844493649608704 M0 r.2) := by
  unfold qf_X11_measure
  refine qP_pure (fun r1 => ?_)
  refine qP_ite ?_ ?_
  · exact (fr_X11_measure_J28 h)
  · refine qP_pure (fun r2 => ?_)
    refine qP_ite ?_ ?_
    · exact (fr_X11_measure_J28 h)
    · refine qP_pure (fun r3 => ?_)
      refine qP_ite ?_ ?_
      · exact (fr_X11_measure_J28 h)
      · exact (fr_X11_measure_J29 h)
theorem fr_L_measure {N : Nat} {i1 i2 j3 : Int} {M M0 : qm} (h : Fg 165263992197562149737978827008192759957101170741070304821162198818601447809077836456297302609928821211897803850749489184768 M0 M) : qP (qf_L_measure N i1 i2 j3 M) (fun r => Fg 165263992197562149737978827008192759957101170741070304821162198818601447809077836456297302609928821211897803850749489184768 M0 r.2) := by
  unfold qf_L_measure
  refine qP_bind (fr_X11_measure Fg_refl) (fun r1 k1 => ?_)
  have h1 := Fg_tr h (Fg_mono k1 rfl)
  obtain ⟨x1, m1⟩ := r1
  rcases x1 with x1 | x1
  · have h1 : Fg _ _ m1 := h1
    refine qP_bnd (m0 := _) (Fg_wa (k := 406) h1 rfl rfl) (fun M2 h2 => ?_)
    exact qP_some h2
  · have h1 : Fg _ _ m1 := h1
    refine qP_ite ?_ ?_
    · exact qP_some h1
    · refine qP_ite ?_ ?_
      · exact qP_some h1
      · exact qP_none
theorem fr_X18_measure_J55 {N : Nat} {i1 i2 j3 t1 t2 : Int} {M M0 : qm} (h : Fg 41410484662761612009434165295176213847026877448798498148314254669774848 M0 M) : qP (qf_X18_measure_J55 N i1 i2 j3 t1 t2 M) (fun r => Fg 41410484662761612009434165295176213847026877448798498148314254669774848 M0 r.2) := by
  unfold qf_X18_measure_J55
  refine qP_bind (fr_X18_goes Fg_refl) (fun r1 k1 => ?_)
  have h1 := Fg_tr h (Fg_mono k1 rfl)
  refine qP_ite ?_ ?_
  · exact qP_some h1
  · refine qP_pure (fun r2 => ?_)
    refine qP_bind (fr_X15_fact Fg_refl) (fun r3 k3 => ?_)
    have h3 := Fg_tr h1 (Fg_mono k3 rfl)
    exact qP_some h3
theorem fr_X18_measure_J54 {N : Nat} {i1 i2 j3 t1 : Int} {M M0 : qm} (h : Fg 41410484662761612009434165295176213847026877448798498148314254669774848 M0 M) : qP (qf_X18_measure_J54 N i1 i2 j3 t1 M) (fun r => Fg 41410484662761612009434165295176213847026877448798498148314254669774848 M0 r.2) := by
  unfold qf_X18_measure_J54
  exact (fr_X18_measure_J55 h)
theorem fr_X18_measure_J32 {N : Nat} {i1 i2 j3 t1 : Int} {M M0 : qm} (h : Fg 41410484662761612009434165295176213847026877448798498148314254669774848 M0 M) : qP (qf_X18_measure_J32 N i1 i2 j3 t1 M) (fun r => Fg 41410484662761612009434165295176213847026877448798498148314254669774848 M0 r.2) := by
  unfold qf_X18_measure_J32
  refine qP_ite ?_ ?_
  · exact (fr_X18_measure_J54 h)
  · refine qP_pure (fun r1 => ?_)
    refine qP_ite ?_ ?_
    · exact (fr_X18_measure_J54 h)
    · exact (fr_X18_measure_J55 h)
theorem fr_X18_measure_J31 {N : Nat} {i1 i2 j3 : Int} {M M0 : qm} (h : Fg 41410484662761612009434165295176213847026877448798498148314254669774848 M0 M) : qP (qf_X18_measure_J31 N i1 i2 j3 M) (fun r => Fg 41410484662761612009434165295176213847026877448798498148314254669774848 M0 r.2) := by
  unfold qf_X18_measure_J31
  exact (fr_X18_measure_J32 h)
theorem fr_X18_measure {N : Nat} {i1 i2 j3 : Int} {M M0 : qm} (h : Fg 41410484662761612009434165295176213847026877448798498148314254669774848 M0 M) : qP (qf_X18_measure N i1 i2 j3 M) (fun r => Fg 41410484662761612009434165295176213847026877448798498148314254669774848 M0 r.2) := by
  unfold qf_X18_measure
  refine qP_pure (fun r1 => ?_)
  refine qP_ite ?_ ?_
  · exact (fr_X18_measure_J31 h)
  · refine qP_pure (fun r2 => ?_)
    refine qP_ite ?_ ?_
    · exact (fr_X18_measure_J31 h)
    · refine qP_pure (fun r3 => ?_)
      refine qP_ite ?_ ?_
      · exact (fr_X18_measure_J31 h)
      · exact (fr_X18_measure_J32 h)
theorem fr_X7_takeWord {N : Nat} {M M0 : qm} (h : Fg 137438953472 M0 M) : qP (qf_X7_takeWord N M) (fun r => Fg 137438953472 M0 r.2) := by
  unfold qf_X7_takeWord
  refine qP_ite ?_ ?_
  · refine qP_ite ?_ ?_
    · exact qP_some h
    · refine qP_bnd (m0 := _) (Fg_w h rfl) (fun M1 h1 => ?_)
      exact qP_some h1
  · exact qP_none
theorem fr_X7_reckonFactor_J42 {N : Nat} {j2 i4 : Int} {K : Int → qm → Option (Unit × qm)} (hK : ∀ {y0 : Int} {M M0 : qm}, Fg 4260607557632 M0 M → qP (K y0 M) (fun r => Fg 4260607557632 M0 r.2)) {M M0 : qm} (h : Fg 4260607557632 M0 M) : qP (qf_X7_reckonFactor_J42 N K j2 i4 M) (fun r => Fg 4260607557632 M0 r.2) := by
  unfold qf_X7_reckonFactor_J42
  refine qP_bnd (m0 := _) (Fg_w h rfl) (fun M1 h1 => ?_)
  refine qP_ite ?_ ?_
  · refine qP_bnd (m0 := _) (Fg_w h1 rfl) (fun M2 h2 => ?_)
    exact qP_some h2
  · refine qP_pure (fun r3 => ?_)
    refine qP_ite ?_ ?_
    · refine qP_bnd (m0 := _) (Fg_w h1 rfl) (fun M4 h4 => ?_)
      refine qP_bnd (m0 := _) (Fg_w h4 rfl) (fun M5 h5 => ?_)
      exact qP_some h5
    · refine qP_ite ?_ ?_
      · refine qP_bnd (m0 := _) (Fg_w h1 rfl) (fun M6 h6 => ?_)
        exact qP_some h6
      · exact qP_none
theorem fr_X7_reckonFactor {N : Nat} {i1 : Int} {K : Int → qm → Option (Unit × qm)} (hK : ∀ {y0 : Int} {M M0 : qm}, Fg 4260607557632 M0 M → qP (K y0 M) (fun r => Fg 4260607557632 M0 r.2)) {M M0 : qm} (h : Fg 4260607557632 M0 M) : qP (qf_X7_reckonFactor N K i1 M) (fun r => Fg 4260607557632 M0 r.2) := by
  unfold qf_X7_reckonFactor
  refine qP_ite ?_ ?_
  · refine qP_bind (fr_X7_takeWord Fg_refl) (fun r1 k1 => ?_)
    have h1 := Fg_tr h (Fg_mono k1 rfl)
    refine qP_ite ?_ ?_
    · refine qP_ite ?_ ?_
      · exact (fr_X7_reckonFactor_J42 hK h1)
      · refine qP_bind (hK h1) (fun r2 k2 => ?_)
        have h2 := k2
        refine qP_bind (fr_X7_takeWord Fg_refl) (fun r3 k3 => ?_)
        have h3 := Fg_tr h2 (Fg_mono k3 rfl)
        exact qP_some h3
    · exact (fr_X7_reckonFactor_J42 hK h1)
  · exact qP_none
theorem fr_X7_multiply_J72 {N : Nat} {j5 : Int} {M M0 : qm} (h : Fg 274877906944 M0 M) : qP (qf_X7_multiply_J72 N j5 M) (fun r => Fg 274877906944 M0 r.2) := by
  unfold qf_X7_multiply_J72
  refine qP_bnd (m0 := _) (Fg_w h rfl) (fun M1 h1 => ?_)
  exact qP_some h1
theorem fr_X7_multiply_J56 {N : Nat} {j1 j3 j5 t0 : Int} {M M0 : qm} (h : Fg 274877906944 M0 M) : qP (qf_X7_multiply_J56 N j1 j3 j5 t0 M) (fun r => Fg 274877906944 M0 r.2) := by
  unfold qf_X7_multiply_J56
  refine qP_ite ?_ ?_
  · refine qP_ite ?_ ?_
    · exact qP_none
    · refine qP_ite ?_ ?_
      · exact qP_some h
      · exact (fr_X7_multiply_J72 h)
  · exact (fr_X7_multiply_J72 h)
theorem fr_X7_multiply_J51 {N : Nat} {j1 j3 j5 : Int} {M M0 : qm} (h : Fg 274877906944 M0 M) : qP (qf_X7_multiply_J51 N j1 j3 j5 M) (fun r => Fg 274877906944 M0 r.2) := by
  unfold qf_X7_multiply_J51
  exact (fr_X7_multiply_J56 h)
theorem fr_X7_multiply_J55 {N : Nat} {j1 j3 j5 : Int} {M M0 : qm} (h : Fg 274877906944 M0 M) : qP (qf_X7_multiply_J55 N j1 j3 j5 M) (fun r => Fg 274877906944 M0 r.2) := by
  unfold qf_X7_multiply_J55
  exact (fr_X7_multiply_J56 h)
theorem fr_X7_multiply_J35 {N : Nat} {j1 j3 j5 : Int} {M M0 : qm} (h : Fg 274877906944 M0 M) : qP (qf_X7_multiply_J35 N j1 j3 j5 M) (fun r => Fg 274877906944 M0 r.2) := by
  unfold qf_X7_multiply_J35
  refine qP_ite ?_ ?_
  · refine qP_ite ?_ ?_
    · exact (fr_X7_multiply_J51 h)
    · exact (fr_X7_multiply_J55 h)
  · exact (fr_X7_multiply_J55 h)
theorem fr_X7_multiply {N : Nat} {j1 j3 : Int} {M M0 : qm} (h : Fg 274877906944 M0 M) : qP (qf_X7_multiply N j1 j3 M) (fun r => Fg 274877906944 M0 r.2) := by
  unfold qf_X7_multiply
  refine qP_ite ?_ ?_
  · exact qP_some h
  · refine qP_ite ?_ ?_
    · exact qP_some h
    · refine qP_ite ?_ ?_
      · refine qP_ite ?_ ?_
        · exact (fr_X7_multiply_J51 h)
        · exact (fr_X7_multiply_J35 h)
      · exact (fr_X7_multiply_J35 h)
theorem fr_X7_add {N : Nat} {j1 j3 : Int} {M M0 : qm} (h : Fg 274877906944 M0 M) : qP (qf_X7_add N j1 j3 M) (fun r => Fg 274877906944 M0 r.2) := by
  unfold qf_X7_add
  refine qP_ite ?_ ?_
  · exact qP_some h
  · refine qP_bnd (m0 := _) (Fg_w h rfl) (fun M1 h1 => ?_)
    exact qP_some h1
theorem fr_X7_combine_J139 {N : Nat} {j4 j8 t1 : Int} {M M0 : qm} (h : Fg 3573412790272 M0 M) : qP (qf_X7_combine_J139 N j4 j8 t1 M) (fun r => Fg 3573412790272 M0 r.2) := by
  unfold qf_X7_combine_J139
  refine qP_bnd (m0 := _) (Fg_w h rfl) (fun M1 h1 => ?_)
  refine qP_bind (fr_X7_multiply Fg_refl) (fun r2 k2 => ?_)
  have h2 := Fg_tr h1 (Fg_mono k2 rfl)
  refine qP_bnd (m0 := _) (Fg_w h2 rfl) (fun M3 h3 => ?_)
  exact qP_some h3
theorem fr_X7_subtract {N : Nat} {j1 j3 : Int} {M M0 : qm} (h : Fg 274877906944 M0 M) : qP (qf_X7_subtract N j1 j3 M) (fun r => Fg 274877906944 M0 r.2) := by
  unfold qf_X7_subtract
  refine qP_ite ?_ ?_
  · exact qP_some h
  · refine qP_bnd (m0 := _) (Fg_w h rfl) (fun M1 h1 => ?_)
    exact qP_some h1
theorem fr_X7_combine {N : Nat} {i1 j2 j4 : Int} {M M0 : qm} (h : Fg 3573412790272 M0 M) : qP (qf_X7_combine N i1 j2 j4 M) (fun r => Fg 3573412790272 M0 r.2) := by
  unfold qf_X7_combine
  refine qP_ite ?_ ?_
  · refine qP_ite ?_ ?_
    · refine qP_bind (fr_X7_multiply Fg_refl) (fun r1 k1 => ?_)
      have h1 := Fg_tr h (Fg_mono k1 rfl)
      refine qP_bnd (m0 := _) (Fg_w h1 rfl) (fun M2 h2 => ?_)
      refine qP_bind (fr_X7_multiply Fg_refl) (fun r3 k3 => ?_)
      have h3 := Fg_tr h2 (Fg_mono k3 rfl)
      refine qP_bnd (m0 := _) (Fg_w h3 rfl) (fun M4 h4 => ?_)
      exact qP_some h4
    · refine qP_bind (fr_X7_multiply Fg_refl) (fun r5 k5 => ?_)
      have h5 := Fg_tr h (Fg_mono k5 rfl)
      refine qP_bnd (m0 := _) (Fg_w h5 rfl) (fun M6 h6 => ?_)
      refine qP_ite ?_ ?_
      · refine qP_bind (fr_X7_multiply Fg_refl) (fun r7 k7 => ?_)
        have h7 := Fg_tr h6 (Fg_mono k7 rfl)
        refine qP_bnd (m0 := _) (Fg_w h7 rfl) (fun M8 h8 => ?_)
        refine qP_ite ?_ ?_
        · refine qP_bnd (m0 := _) (Fg_w h8 rfl) (fun M9 h9 => ?_)
          exact qP_some h9
        · refine qP_bnd (m0 := _) (Fg_w h8 rfl) (fun M10 h10 => ?_)
          exact qP_some h10
      · refine qP_bind (fr_X7_multiply Fg_refl) (fun r11 k11 => ?_)
        have h11 := Fg_tr h6 (Fg_mono k11 rfl)
        refine qP_ite ?_ ?_
        · refine qP_bind (fr_X7_add Fg_refl) (fun r12 k12 => ?_)
          have h12 := Fg_tr h11 (Fg_mono k12 rfl)
          exact (fr_X7_combine_J139 h12)
        · refine qP_bind (fr_X7_subtract Fg_refl) (fun r13 k13 => ?_)
          have h13 := Fg_tr h11 (Fg_mono k13 rfl)
          exact (fr_X7_combine_J139 h13)
  · exact qP_some h
theorem fr_X7_takeOutCommon_J81 {N : Nat} {M M0 : qm} (h : Fg 3573412790272 M0 M) : qP (qf_X7_takeOutCommon_J81 N M) (fun r => Fg 3573412790272 M0 r.2) := by
  unfold qf_X7_takeOutCommon_J81
  refine qP_bnd (m0 := _) (Fg_w h rfl) (fun M1 h1 => ?_)
  exact qP_some h1
theorem fr_X7_takeOutCommon_J50 {N : Nat} {M M0 : qm} (h : Fg 3573412790272 M0 M) : qP (qf_X7_takeOutCommon_J50 N M) (fun r => Fg 3573412790272 M0 r.2) := by
  unfold qf_X7_takeOutCommon_J50
  refine qP_ite ?_ ?_
  · exact qP_some h
  · refine qP_ite ?_ ?_
    · exact (fr_X7_takeOutCommon_J81 h)
    · refine qP_ite ?_ ?_
      · exact (fr_X7_takeOutCommon_J81 h)
      · refine qP_bnd (m0 := _) (Fg_w h rfl) (fun M1 h1 => ?_)
        refine qP_bnd (m0 := _) (Fg_w h1 rfl) (fun M2 h2 => ?_)
        exact qP_some h2
theorem fr_X7_takeOutCommon {N : Nat} {M M0 : qm} (h : Fg 3573412790272 M0 M) : qP (qf_X7_takeOutCommon N M) (fun r => Fg 3573412790272 M0 r.2) := by
  unfold qf_X7_takeOutCommon
  refine qP_ite ?_ ?_
  · refine qP_pure (fun r1 => ?_)
    refine qP_ite ?_ ?_
    · exact (fr_X7_takeOutCommon_J50 h)
    · refine qP_ite ?_ ?_
      · exact qP_none
      · refine qP_bnd (m0 := _) (Fg_w h rfl) (fun M2 h2 => ?_)
        refine qP_ite ?_ ?_
        · exact qP_none
        · refine qP_bnd (m0 := _) (Fg_w h2 rfl) (fun M3 h3 => ?_)
          exact (fr_X7_takeOutCommon_J50 h3)
  · exact qP_some h
theorem fr_X7_reckonTerm_L7_b {N : Nat} {i1 i2 : Int} {K : Int → qm → Option (Unit × qm)} (hK : ∀ {y0 : Int} {M M0 : qm}, Fg 4260607557632 M0 M → qP (K y0 M) (fun r => Fg 4260607557632 M0 r.2)) {M M0 : qm} (h : Fg 4260607557632 M0 M) : qP (qf_X7_reckonTerm_L7_b N K i1 i2 M) (pU (pU (fun r => Fg 4260607557632 M0 r.2) (fun r => Fg 4260607557632 M0 r.2)) (fun r => Fg 4260607557632 M0 r.2.2)) := by
  unfold qf_X7_reckonTerm_L7_b
  refine qP_ite ?_ ?_
  · exact qP_some h
  · refine qP_ite ?_ ?_
    · refine qP_pure (fun r1 => ?_)
      refine qP_ite ?_ ?_
      · exact qP_some h
      · refine qP_bind (fr_X7_takeWord Fg_refl) (fun r2 k2 => ?_)
        have h2 := Fg_tr h (Fg_mono k2 rfl)
        refine qP_bind (fr_X7_reckonFactor hK h2) (fun r3 k3 => ?_)
        have h3 := k3
        refine qP_bind (fr_X7_combine Fg_refl) (fun r4 k4 => ?_)
        have h4 := Fg_tr h3 (Fg_mono k4 rfl)
        refine qP_bind (fr_X7_takeOutCommon Fg_refl) (fun r5 k5 => ?_)
        have h5 := Fg_tr h4 (Fg_mono k5 rfl)
        exact qP_some h5
    · exact qP_some h
theorem fr_X7_reckonTerm_L7 (n : Nat) {N : Nat} {i1 i2 : Int} {K : Int → qm → Option (Unit × qm)} (hK : ∀ {y0 : Int} {M M0 : qm}, Fg 4260607557632 M0 M → qP (K y0 M) (fun r => Fg 4260607557632 M0 r.2)) {M M0 : qm} (h : Fg 4260607557632 M0 M) : qP (qf_X7_reckonTerm_L7 N K n i1 i2 M) (pU (fun r => Fg 4260607557632 M0 r.2) (fun r => Fg 4260607557632 M0 r.2)) := by
  unfold qf_X7_reckonTerm_L7
  exact qP_loop (I := fun s => Fg 4260607557632 M0 s.2.2) (fun s hs => fr_X7_reckonTerm_L7_b hK hs) n _ h
theorem fr_X7_reckonTerm {N : Nat} {i1 : Int} {K : Int → qm → Option (Unit × qm)} (hK : ∀ {y0 : Int} {M M0 : qm}, Fg 4260607557632 M0 M → qP (K y0 M) (fun r => Fg 4260607557632 M0 r.2)) {M M0 : qm} (h : Fg 4260607557632 M0 M) : qP (qf_X7_reckonTerm N K i1 M) (fun r => Fg 4260607557632 M0 r.2) := by
  unfold qf_X7_reckonTerm
  refine qP_bind (fr_X7_reckonFactor hK h) (fun r1 k1 => ?_)
  have h1 := k1
  refine qP_bind (fr_X7_reckonTerm_L7 _ hK h1) (fun r2 k2 => ?_)
  rcases r2 with x2 | x2
  · exact qP_some k2
  · obtain ⟨y2_0, y2_1⟩ := x2
    have h2 : Fg _ _ y2_1 := k2
    exact qP_some h2
theorem fr_X7_reckonSide_B_L52_b {N : Nat} {i1 i3 : Int} {K : Int → qm → Option (Unit × qm)} (hK : ∀ {y0 : Int} {M M0 : qm}, Fg 4260607557632 M0 M → qP (K y0 M) (fun r => Fg 4260607557632 M0 r.2)) {M M0 : qm} (h : Fg 4260607557632 M0 M) : qP (qf_X7_reckonSide_B_L52_b N K i1 i3 M) (pU (pU (fun r => Fg 4260607557632 M0 r.2) (fun r => Fg 4260607557632 M0 r.2)) (fun r => Fg 4260607557632 M0 r.2.2)) := by
  unfold qf_X7_reckonSide_B_L52_b
  refine qP_ite ?_ ?_
  · exact qP_some h
  · refine qP_ite ?_ ?_
    · refine qP_pure (fun r1 => ?_)
      refine qP_ite ?_ ?_
      · exact qP_some h
      · refine qP_bind (fr_X7_takeWord Fg_refl) (fun r2 k2 => ?_)
        have h2 := Fg_tr h (Fg_mono k2 rfl)
        refine qP_bind (fr_X7_reckonTerm hK h2) (fun r3 k3 => ?_)
        have h3 := k3
        refine qP_bind (fr_X7_combine Fg_refl) (fun r4 k4 => ?_)
        have h4 := Fg_tr h3 (Fg_mono k4 rfl)
        refine qP_bind (fr_X7_takeOutCommon Fg_refl) (fun r5 k5 => ?_)
        have h5 := Fg_tr h4 (Fg_mono k5 rfl)
        exact qP_some h5
    · exact qP_some h
theorem fr_X7_reckonSide_B_L52 (n : Nat) {N : Nat} {i1 i3 : Int} {K : Int → qm → Option (Unit × qm)} (hK : ∀ {y0 : Int} {M M0 : qm}, Fg 4260607557632 M0 M → qP (K y0 M) (fun r => Fg 4260607557632 M0 r.2)) {M M0 : qm} (h : Fg 4260607557632 M0 M) : qP (qf_X7_reckonSide_B_L52 N K n i1 i3 M) (pU (fun r => Fg 4260607557632 M0 r.2) (fun r => Fg 4260607557632 M0 r.2)) := by
  unfold qf_X7_reckonSide_B_L52
  exact qP_loop (I := fun s => Fg 4260607557632 M0 s.2.2) (fun s hs => fr_X7_reckonSide_B_L52_b hK hs) n _ h
theorem fr_X7_reckonSide_B_J50 {N : Nat} {i1 : Int} {K : Int → qm → Option (Unit × qm)} (hK : ∀ {y0 : Int} {M M0 : qm}, Fg 4260607557632 M0 M → qP (K y0 M) (fun r => Fg 4260607557632 M0 r.2)) {M M0 : qm} (h : Fg 4260607557632 M0 M) : qP (qf_X7_reckonSide_B_J50 N K i1 M) (fun r => Fg 4260607557632 M0 r.2) := by
  unfold qf_X7_reckonSide_B_J50
  refine qP_bind (fr_X7_reckonSide_B_L52 _ hK h) (fun r1 k1 => ?_)
  rcases r1 with x1 | x1
  · exact qP_some k1
  · obtain ⟨y1_0, y1_1⟩ := x1
    have h1 : Fg _ _ y1_1 := k1
    exact qP_some h1
theorem fr_X7_reckonSide_B_J29 {N : Nat} {i1 i2 : Int} {K : Int → qm → Option (Unit × qm)} (hK : ∀ {y0 : Int} {M M0 : qm}, Fg 4260607557632 M0 M → qP (K y0 M) (fun r => Fg 4260607557632 M0 r.2)) {M M0 : qm} (h : Fg 4260607557632 M0 M) : qP (qf_X7_reckonSide_B_J29 N K i1 i2 M) (fun r => Fg 4260607557632 M0 r.2) := by
  unfold qf_X7_reckonSide_B_J29
  refine qP_bind (fr_X7_reckonTerm hK h) (fun r1 k1 => ?_)
  have h1 := k1
  refine qP_ite ?_ ?_
  · exact (fr_X7_reckonSide_B_J50 hK h1)
  · refine qP_bind (fr_X7_combine Fg_refl) (fun r2 k2 => ?_)
    have h2 := Fg_tr h1 (Fg_mono k2 rfl)
    refine qP_bind (fr_X7_takeOutCommon Fg_refl) (fun r3 k3 => ?_)
    have h3 := Fg_tr h2 (Fg_mono k3 rfl)
    exact (fr_X7_reckonSide_B_J50 hK h3)
theorem fr_X7_reckonSide_B_J19 {N : Nat} {i1 t0 : Int} {K : Int → qm → Option (Unit × qm)} (hK : ∀ {y0 : Int} {M M0 : qm}, Fg 4260607557632 M0 M → qP (K y0 M) (fun r => Fg 4260607557632 M0 r.2)) {M M0 : qm} (h : Fg 4260607557632 M0 M) : qP (qf_X7_reckonSide_B_J19 N K i1 t0 M) (fun r => Fg 4260607557632 M0 r.2) := by
  unfold qf_X7_reckonSide_B_J19
  refine qP_ite ?_ ?_
  · exact (fr_X7_reckonSide_B_J29 hK h)
  · refine qP_bind (fr_X7_takeWord Fg_refl) (fun r1 k1 => ?_)
    have h1 := Fg_tr h (Fg_mono k1 rfl)
    exact (fr_X7_reckonSide_B_J29 hK h1)
theorem fr_X7_reckonSide_B {N : Nat} {i1 : Int} {K : Int → qm → Option (Unit × qm)} (hK : ∀ {y0 : Int} {M M0 : qm}, Fg 4260607557632 M0 M → qP (K y0 M) (fun r => Fg 4260607557632 M0 r.2)) {M M0 : qm} (h : Fg 4260607557632 M0 M) : qP (qf_X7_reckonSide_B N K i1 M) (fun r => Fg 4260607557632 M0 r.2) := by
  unfold qf_X7_reckonSide_B
  refine qP_ite ?_ ?_
  · refine qP_ite ?_ ?_
    · exact (fr_X7_reckonSide_B_J19 hK h)
    · exact (fr_X7_reckonSide_B_J19 hK h)
  · exact qP_none
theorem fr_X7_reckonSide_r (n : Nat) : ∀ {N : Nat} {i1 : Int} {M M0 : qm}, Fg 4260607557632 M0 M → qP (qr_X7_reckonSide N n i1 M) (fun r => Fg 4260607557632 M0 r.2) := by
  induction n with
  | zero =>
    intros
    exact qP_none
  | succ n ih =>
    intro N i1 M M0 h
    exact fr_X7_reckonSide_B (fun h => ih h) h
theorem fr_X7_reckonSide {N : Nat} {i1 : Int} {M M0 : qm} (h : Fg 4260607557632 M0 M) : qP (qf_X7_reckonSide N i1 M) (fun r => Fg 4260607557632 M0 r.2) := by
  unfold qf_X7_reckonSide
  exact (fr_X7_reckonSide_r _ h)
theorem fr_X7_compareWith {N : Nat} {i1 j2 j4 : Int} {M M0 : qm} (h : Fg 274877906944 M0 M) : qP (qf_X7_compareWith N i1 j2 j4 M) (fun r => Fg 274877906944 M0 r.2) := by
  unfold qf_X7_compareWith
  refine qP_bind (fr_X7_multiply Fg_refl) (fun r1 k1 => ?_)
  have h1 := Fg_tr h (Fg_mono k1 rfl)
  refine qP_bind (fr_X7_multiply Fg_refl) (fun r2 k2 => ?_)
  have h2 := Fg_tr h1 (Fg_mono k2 rfl)
  refine qP_ite ?_ ?_
  · refine qP_ite ?_ ?_
    · refine qP_ite ?_ ?_
      · exact qP_some h2
      · exact qP_some h2
    · refine qP_ite ?_ ?_
      · refine qP_ite ?_ ?_
        · exact qP_some h2
        · exact qP_some h2
      · refine qP_ite ?_ ?_
        · refine qP_ite ?_ ?_
          · exact qP_some h2
          · exact qP_some h2
        · refine qP_ite ?_ ?_
          · refine qP_ite ?_ ?_
            · exact qP_some h2
            · exact qP_some h2
          · refine qP_ite ?_ ?_
            · exact qP_some h2
            · exact qP_some h2
  · exact qP_some h2
theorem fr_X7_reckonClause {N : Nat} {a1 : Int} {M M0 : qm} (h : Fg 215366840090624 M0 M) : qP (qf_X7_reckonClause N a1 M) (fun r => Fg 215366840090624 M0 r.2) := by
  unfold qf_X7_reckonClause
  refine qP_bind (fr_X7_reckonSide Fg_refl) (fun r1 k1 => ?_)
  have h1 := Fg_tr h (Fg_mono k1 rfl)
  refine qP_ite ?_ ?_
  · refine qP_bnd (m0 := _) (Fg_wa (k := 46) h1 rfl rfl) (fun M2 h2 => ?_)
    refine qP_bnd (m0 := _) (Fg_wa (k := 46) h2 rfl rfl) (fun M3 h3 => ?_)
    refine qP_bind (fr_X7_takeWord Fg_refl) (fun r4 k4 => ?_)
    have h4 := Fg_tr h3 (Fg_mono k4 rfl)
    refine qP_bind (fr_X7_reckonSide Fg_refl) (fun r5 k5 => ?_)
    have h5 := Fg_tr h4 (Fg_mono k5 rfl)
    refine qP_ite ?_ ?_
    · refine qP_bnd (m0 := _) (Fg_wa (k := 46) h5 rfl rfl) (fun M6 h6 => ?_)
      refine qP_bnd (m0 := _) (Fg_wa (k := 46) h6 rfl rfl) (fun M7 h7 => ?_)
      refine qP_bind (fr_X7_compareWith Fg_refl) (fun r8 k8 => ?_)
      have h8 := Fg_tr h7 (Fg_mono k8 rfl)
      refine qP_ite ?_ ?_
      · exact qP_some h8
      · exact qP_none
    · exact qP_some h5
  · exact qP_some h1
theorem fr_X7_reckonClause_s1 {N : Nat} {M M0 : qm} (h : Fg 215366840090624 M0 M) : qP (qf_X7_reckonClause_s1 N M) (fun r => Fg 215366840090624 M0 r.2) := by
  unfold qf_X7_reckonClause_s1
  refine qP_bind (fr_X7_reckonSide Fg_refl) (fun r1 k1 => ?_)
  have h1 := Fg_tr h (Fg_mono k1 rfl)
  refine qP_ite ?_ ?_
  · refine qP_bnd (m0 := _) (Fg_wa (k := 47) h1 rfl rfl) (fun M2 h2 => ?_)
    refine qP_bnd (m0 := _) (Fg_wa (k := 47) h2 rfl rfl) (fun M3 h3 => ?_)
    refine qP_bind (fr_X7_takeWord Fg_refl) (fun r4 k4 => ?_)
    have h4 := Fg_tr h3 (Fg_mono k4 rfl)
    refine qP_bind (fr_X7_reckonSide Fg_refl) (fun r5 k5 => ?_)
    have h5 := Fg_tr h4 (Fg_mono k5 rfl)
    refine qP_ite ?_ ?_
    · refine qP_bnd (m0 := _) (Fg_wa (k := 47) h5 rfl rfl) (fun M6 h6 => ?_)
      refine qP_bnd (m0 := _) (Fg_wa (k := 47) h6 rfl rfl) (fun M7 h7 => ?_)
      refine qP_bind (fr_X7_compareWith Fg_refl) (fun r8 k8 => ?_)
      have h8 := Fg_tr h7 (Fg_mono k8 rfl)
      refine qP_ite ?_ ?_
      · exact qP_some h8
      · exact qP_none
    · exact qP_some h5
  · exact qP_some h1
theorem fr_X7_askRule_L79_b {N : Nat} {a3 i4 i5 i6 : Int} {M M0 : qm} (h : Fg 215366840090624 M0 M) : qP (qf_X7_askRule_L79_b N a3 i4 i5 i6 M) (pU (pU (fun r => Fg 215366840090624 M0 r.2) (fun r => Fg 215366840090624 M0 r.2)) (fun r => Fg 215366840090624 M0 r.2.2.2.2)) := by
  unfold qf_X7_askRule_L79_b
  refine qP_ite ?_ ?_
  · exact qP_some h
  · refine qP_ite ?_ ?_
    · refine qP_ite ?_ ?_
      · exact qP_some h
      · refine qP_ite ?_ ?_
        · refine qP_ite ?_ ?_
          · refine qP_bind (fr_X7_takeWord Fg_refl) (fun r1 k1 => ?_)
            have h1 := Fg_tr h (Fg_mono k1 rfl)
            refine qP_bind (fr_X7_reckonClause_s1 Fg_refl) (fun r2 k2 => ?_)
            have h2 := Fg_tr h1 (Fg_mono k2 rfl)
            refine qP_ite ?_ ?_
            · exact qP_some h2
            · exact qP_some h2
          · exact qP_some h
        · exact qP_none
    · exact qP_some h
theorem fr_X7_askRule_L79 (n : Nat) {N : Nat} {a3 i4 i5 i6 : Int} {M M0 : qm} (h : Fg 215366840090624 M0 M) : qP (qf_X7_askRule_L79 N n a3 i4 i5 i6 M) (pU (fun r => Fg 215366840090624 M0 r.2) (fun r => Fg 215366840090624 M0 r.2)) := by
  unfold qf_X7_askRule_L79
  exact qP_loop (I := fun s => Fg 215366840090624 M0 s.2.2.2.2) (fun s hs => fr_X7_askRule_L79_b hs) n _ h
theorem fr_X7_askRule_J163 {N : Nat} {a3 t0 t1 t2 : Int} {M M0 : qm} (h : Fg 215366840090624 M0 M) : qP (qf_X7_askRule_J163 N a3 t0 t1 t2 M) (fun r => Fg 215366840090624 M0 r.2) := by
  unfold qf_X7_askRule_J163
  refine qP_ite ?_ ?_
  · refine qP_bnd (m0 := _) (Fg_wa (k := 46) h rfl rfl) (fun M1 h1 => ?_)
    refine qP_bnd (m0 := _) (Fg_wa (k := 46) h1 rfl rfl) (fun M2 h2 => ?_)
    refine qP_bnd (m0 := _) (Fg_wa (k := 46) h2 rfl rfl) (fun M3 h3 => ?_)
    exact qP_some h3
  · exact qP_none
theorem fr_X7_askRule_J145 {N : Nat} {a3 i5 : Int} {M M0 : qm} (h : Fg 215366840090624 M0 M) : qP (qf_X7_askRule_J145 N a3 i5 M) (fun r => Fg 215366840090624 M0 r.2) := by
  unfold qf_X7_askRule_J145
  refine qP_ite ?_ ?_
  · exact (fr_X7_askRule_J163 h)
  · exact (fr_X7_askRule_J163 h)
theorem fr_X7_askRule_J66 {N : Nat} {a3 i4 t0 : Int} {M M0 : qm} (h : Fg 215366840090624 M0 M) : qP (qf_X7_askRule_J66 N a3 i4 t0 M) (fun r => Fg 215366840090624 M0 r.2) := by
  unfold qf_X7_askRule_J66
  refine qP_ite ?_ ?_
  · refine qP_bind (fr_X7_askRule_L79 _ h) (fun r1 k1 => ?_)
    rcases r1 with x1 | x1
    · exact qP_some k1
    · obtain ⟨y1_0, y1_1⟩ := x1
      have h1 : Fg _ _ y1_1 := k1
      exact (fr_X7_askRule_J145 h1)
  · exact (fr_X7_askRule_J145 h)
theorem fr_X7_askRule {N : Nat} {i1 i2 : Int} {M M0 : qm} (h : Fg 215366840090624 M0 M) : qP (qf_X7_askRule N i1 i2 M) (fun r => Fg 215366840090624 M0 r.2) := by
  unfold qf_X7_askRule
  refine qP_ite ?_ ?_
  · refine qP_bnd (m0 := _) (Fg_f2 (k := 46) h (fun _ => rfl) rfl) (fun M1 h1 => ?_)
    refine qP_ite ?_ ?_
    · refine qP_ite ?_ ?_
      · refine qP_bnd (m0 := _) (Fg_w h1 rfl) (fun M2 h2 => ?_)
        refine qP_bnd (m0 := _) (Fg_w h2 rfl) (fun M3 h3 => ?_)
        refine qP_ite ?_ ?_
        · refine qP_bnd (m0 := _) (Fg_w h3 rfl) (fun M4 h4 => ?_)
          refine qP_bind (fr_X7_reckonClause Fg_refl) (fun r5 k5 => ?_)
          have h5 := Fg_tr h4 (Fg_mono k5 rfl)
          refine qP_ite ?_ ?_
          · exact (fr_X7_askRule_J66 h5)
          · exact (fr_X7_askRule_J66 h5)
        · exact qP_none
      · refine qP_bnd (m0 := _) (Fg_wa (k := 46) h1 rfl rfl) (fun M6 h6 => ?_)
        exact qP_some h6
    · exact qP_none
  · exact qP_none
theorem fr_X7_askAll_L2_b {N : Nat} {i1 i2 : Int} {M M0 : qm} (h : Fg 215401199828992 M0 M) : qP (qf_X7_askAll_L2_b N i1 i2 M) (pU (pU (fun r => Fg 215401199828992 M0 r.2) (fun r => Fg 215401199828992 M0 r.2)) (fun r => Fg 215401199828992 M0 r.2.2)) := by
  unfold qf_X7_askAll_L2_b
  refine qP_ite ?_ ?_
  · exact qP_some h
  · refine qP_bind (fr_X7_askRule Fg_refl) (fun r1 k1 => ?_)
    have h1 := Fg_tr h (Fg_mono k1 rfl)
    exact qP_some h1
theorem fr_X7_askAll_L2 (n : Nat) {N : Nat} {i1 i2 : Int} {M M0 : qm} (h : Fg 215401199828992 M0 M) : qP (qf_X7_askAll_L2 N n i1 i2 M) (pU (fun r => Fg 215401199828992 M0 r.2) (fun r => Fg 215401199828992 M0 r.2)) := by
  unfold qf_X7_askAll_L2
  exact qP_loop (I := fun s => Fg 215401199828992 M0 s.2.2) (fun s hs => fr_X7_askAll_L2_b hs) n _ h
theorem fr_X7_askAll {N : Nat} {i1 : Int} {M M0 : qm} (h : Fg 215401199828992 M0 M) : qP (qf_X7_askAll N i1 M) (fun r => Fg 215401199828992 M0 r.2) := by
  unfold qf_X7_askAll
  refine qP_bind (fr_X7_askAll_L2 _ h) (fun r1 k1 => ?_)
  rcases r1 with x1 | x1
  · exact qP_some k1
  · obtain ⟨y1_0, y1_1⟩ := x1
    have h1 : Fg _ _ y1_1 := k1
    refine qP_bnd (m0 := _) (Fg_w h1 rfl) (fun M2 h2 => ?_)
    exact qP_some h2
theorem fr_X11_check {N : Nat} {i1 : Int} {M M0 : qm} (h : Fg 215401199828992 M0 M) : qP (qf_X11_check N i1 M) (fun r => Fg 215401199828992 M0 r.2) := by
  unfold qf_X11_check
  refine qP_pure (fun r1 => ?_)
  refine qP_pure (fun r2 => ?_)
  rcases r2 with x3 | x3
  · refine qP_bind (fr_X7_askAll Fg_refl) (fun r4 k4 => ?_)
    have h4 := Fg_tr h (Fg_mono k4 rfl)
    refine qP_pure (fun r5 => ?_)
    exact qP_some h4
  · exact qP_some h
theorem fr_L_check {N : Nat} {i1 : Int} {M M0 : qm} (h : Fg 165263992197562149737978827008192759957101170741070304821162198818601447809077836456297302609928821211897803221657039405056 M0 M) : qP (qf_L_check N i1 M) (fun r => Fg 165263992197562149737978827008192759957101170741070304821162198818601447809077836456297302609928821211897803221657039405056 M0 r.2) := by
  unfold qf_L_check
  refine qP_bind (fr_X11_check Fg_refl) (fun r1 k1 => ?_)
  have h1 := Fg_tr h (Fg_mono k1 rfl)
  obtain ⟨x1, m1⟩ := r1
  rcases x1 with x1 | x1
  · have h1 : Fg _ _ m1 := h1
    refine qP_bnd (m0 := _) (Fg_wa (k := 406) h1 rfl rfl) (fun M2 h2 => ?_)
    exact qP_some h2
  · have h1 : Fg _ _ m1 := h1
    refine qP_ite ?_ ?_
    · exact qP_some h1
    · exact qP_none
theorem fr_X15_push_J171 {N : Nat} {M M0 : qm} (h : Fg 43422034973750586644274947879610810318075561973295299177068652944769597571072 M0 M) : qP (qf_X15_push_J171 N M) (fun r => Fg 43422034973750586644274947879610810318075561973295299177068652944769597571072 M0 r.2) := by
  unfold qf_X15_push_J171
  refine qP_bnd (m0 := _) (Fg_w h rfl) (fun M1 h1 => ?_)
  exact qP_some h1
theorem fr_X15_opens {N : Nat} {i1 j2 : Int} {M M0 : qm} (h : Fg 1294077440023230710144016724176942272334582932281947479092973291962368 M0 M) : qP (qf_X15_opens N i1 j2 M) (fun r => Fg 1294077440023230710144016724176942272334582932281947479092973291962368 M0 r.2) := by
  unfold qf_X15_opens
  refine qP_ite ?_ ?_
  · refine qP_bnd (m0 := _) (Fg_w h rfl) (fun M1 h1 => ?_)
    refine qP_bnd (m0 := _) (Fg_w h1 rfl) (fun M2 h2 => ?_)
    exact qP_some h2
  · exact qP_some h
theorem fr_X15_push_J133 {N : Nat} {M M0 : qm} (h : Fg 43422034973750586644274947879610810318075561973295299177068652944769597571072 M0 M) : qP (qf_X15_push_J133 N M) (fun r => Fg 43422034973750586644274947879610810318075561973295299177068652944769597571072 M0 r.2) := by
  unfold qf_X15_push_J133
  refine qP_ite ?_ ?_
  · refine qP_ite ?_ ?_
    · refine qP_bnd (m0 := _) (Fg_wa (k := 253) h rfl rfl) (fun M1 h1 => ?_)
      refine qP_ite ?_ ?_
      · refine qP_ite ?_ ?_
        · refine qP_bnd (m0 := _) (Fg_wa (k := 254) h1 rfl rfl) (fun M2 h2 => ?_)
          exact (fr_X15_push_J171 h2)
        · exact qP_none
      · exact qP_none
    · exact qP_none
  · exact qP_none
theorem fr_X15_push_J127 {N : Nat} {M M0 : qm} (h : Fg 43422034973750586644274947879610810318075561973295299177068652944769597571072 M0 M) : qP (qf_X15_push_J127 N M) (fun r => Fg 43422034973750586644274947879610810318075561973295299177068652944769597571072 M0 r.2) := by
  unfold qf_X15_push_J127
  refine qP_bind (fr_X15_opens Fg_refl) (fun r1 k1 => ?_)
  have h1 := Fg_tr h (Fg_mono k1 rfl)
  exact (fr_X15_push_J133 h1)
theorem fr_X15_push_J46 {N : Nat} {j1 j3 t0 : Int} {M M0 : qm} (h : Fg 43422034973750586644274947879610810318075561973295299177068652944769597571072 M0 M) : qP (qf_X15_push_J46 N j1 j3 t0 M) (fun r => Fg 43422034973750586644274947879610810318075561973295299177068652944769597571072 M0 r.2) := by
  unfold qf_X15_push_J46
  refine qP_ite ?_ ?_
  · exact (fr_X15_push_J171 h)
  · refine qP_ite ?_ ?_
    · exact qP_none
    · refine qP_ite ?_ ?_
      · refine qP_bnd (m0 := _) (Fg_wa (k := 253) h rfl rfl) (fun M1 h1 => ?_)
        refine qP_ite ?_ ?_
        · exact qP_none
        · refine qP_ite ?_ ?_
          · refine qP_bnd (m0 := _) (Fg_wa (k := 254) h1 rfl rfl) (fun M2 h2 => ?_)
            refine qP_ite ?_ ?_
            · refine qP_ite ?_ ?_
              · exact (fr_X15_push_J171 h2)
              · refine qP_ite ?_ ?_
                · refine qP_ite ?_ ?_
                  · exact (fr_X15_push_J127 h2)
                  · refine qP_ite ?_ ?_
                    · refine qP_ite ?_ ?_
                      · exact (fr_X15_push_J127 h2)
                      · exact (fr_X15_push_J133 h2)
                    · exact qP_none
                · exact qP_none
            · exact qP_none
          · exact qP_none
      · exact qP_none
theorem fr_X15_push {N : Nat} {j1 j3 : Int} {M M0 : qm} (h : Fg 43422034973750586644274947879610810318075561973295299177068652944769597571072 M0 M) : qP (qf_X15_push N j1 j3 M) (fun r => Fg 43422034973750586644274947879610810318075561973295299177068652944769597571072 M0 r.2) := by
  unfold qf_X15_push
  refine qP_pure (fun r1 => ?_)
  rcases r1 with x2 | x2
  · exact qP_some h
  · refine qP_ite ?_ ?_
    · exact (fr_X15_push_J46 h)
    · exact (fr_X15_push_J46 h)
theorem fr_X15_times_J35 {N : Nat} {j5 : Int} {M M0 : qm} (h : Fg 1294077440023230710144016724176942272334582932281947479092973291962368 M0 M) : qP (qf_X15_times_J35 N j5 M) (fun r => Fg 1294077440023230710144016724176942272334582932281947479092973291962368 M0 r.2) := by
  unfold qf_X15_times_J35
  refine qP_bind (fr_X15_opens Fg_refl) (fun r1 k1 => ?_)
  have h1 := Fg_tr h (Fg_mono k1 rfl)
  exact qP_some h1
theorem fr_X15_times {N : Nat} {j1 j3 : Int} {M M0 : qm} (h : Fg 1294077440023230710144016724176942272334582932281947479092973291962368 M0 M) : qP (qf_X15_times N j1 j3 M) (fun r => Fg 1294077440023230710144016724176942272334582932281947479092973291962368 M0 r.2) := by
  unfold qf_X15_times
  refine qP_ite ?_ ?_
  · exact qP_some h
  · refine qP_ite ?_ ?_
    · exact qP_some h
    · refine qP_ite ?_ ?_
      · exact qP_none
      · refine qP_ite ?_ ?_
        · refine qP_ite ?_ ?_
          · exact qP_none
          · refine qP_ite ?_ ?_
            · exact qP_some h
            · exact (fr_X15_times_J35 h)
        · exact (fr_X15_times_J35 h)
theorem fr_X15_plus_J136 {N : Nat} {j6 t0 : Int} {M M0 : qm} (h : Fg 1294077440023230710144016724176942272334582932281947479092973291962368 M0 M) : qP (qf_X15_plus_J136 N j6 t0 M) (fun r => Fg 1294077440023230710144016724176942272334582932281947479092973291962368 M0 r.2) := by
  unfold qf_X15_plus_J136
  refine qP_ite ?_ ?_
  · exact qP_some h
  · refine qP_bind (fr_X15_opens Fg_refl) (fun r1 k1 => ?_)
    have h1 := Fg_tr h (Fg_mono k1 rfl)
    exact qP_some h1
theorem fr_X15_plus_J135 {N : Nat} {j6 : Int} {M M0 : qm} (h : Fg 1294077440023230710144016724176942272334582932281947479092973291962368 M0 M) : qP (qf_X15_plus_J135 N j6 M) (fun r => Fg 1294077440023230710144016724176942272334582932281947479092973291962368 M0 r.2) := by
  unfold qf_X15_plus_J135
  exact (fr_X15_plus_J136 h)
theorem fr_X15_plus_J128 {N : Nat} {j6 t0 t1 : Int} {M M0 : qm} (h : Fg 1294077440023230710144016724176942272334582932281947479092973291962368 M0 M) : qP (qf_X15_plus_J128 N j6 t0 t1 M) (fun r => Fg 1294077440023230710144016724176942272334582932281947479092973291962368 M0 r.2) := by
  unfold qf_X15_plus_J128
  refine qP_ite ?_ ?_
  · exact (fr_X15_plus_J135 h)
  · exact (fr_X15_plus_J136 h)
theorem fr_X15_plus_J117 {N : Nat} {j1 j6 t0 : Int} {M M0 : qm} (h : Fg 1294077440023230710144016724176942272334582932281947479092973291962368 M0 M) : qP (qf_X15_plus_J117 N j1 j6 t0 M) (fun r => Fg 1294077440023230710144016724176942272334582932281947479092973291962368 M0 r.2) := by
  unfold qf_X15_plus_J117
  refine qP_ite ?_ ?_
  · exact (fr_X15_plus_J128 h)
  · exact (fr_X15_plus_J128 h)
theorem fr_X15_plus_J102 {N : Nat} {j1 j6 t0 t1 : Int} {M M0 : qm} (h : Fg 1294077440023230710144016724176942272334582932281947479092973291962368 M0 M) : qP (qf_X15_plus_J102 N j1 j6 t0 t1 M) (fun r => Fg 1294077440023230710144016724176942272334582932281947479092973291962368 M0 r.2) := by
  unfold qf_X15_plus_J102
  refine qP_ite ?_ ?_
  · refine qP_ite ?_ ?_
    · exact (fr_X15_plus_J117 h)
    · exact (fr_X15_plus_J117 h)
  · exact (fr_X15_plus_J135 h)
theorem fr_X15_plus_J91 {N : Nat} {j1 j3 j6 t0 : Int} {M M0 : qm} (h : Fg 1294077440023230710144016724176942272334582932281947479092973291962368 M0 M) : qP (qf_X15_plus_J91 N j1 j3 j6 t0 M) (fun r => Fg 1294077440023230710144016724176942272334582932281947479092973291962368 M0 r.2) := by
  unfold qf_X15_plus_J91
  refine qP_ite ?_ ?_
  · exact (fr_X15_plus_J102 h)
  · exact (fr_X15_plus_J102 h)
theorem fr_X15_plus_J76 {N : Nat} {j6 : Int} {M M0 : qm} (h : Fg 1294077440023230710144016724176942272334582932281947479092973291962368 M0 M) : qP (qf_X15_plus_J76 N j6 M) (fun r => Fg 1294077440023230710144016724176942272334582932281947479092973291962368 M0 r.2) := by
  unfold qf_X15_plus_J76
  exact (fr_X15_plus_J136 h)
theorem fr_X15_plus_J69 {N : Nat} {j6 t0 t1 : Int} {M M0 : qm} (h : Fg 1294077440023230710144016724176942272334582932281947479092973291962368 M0 M) : qP (qf_X15_plus_J69 N j6 t0 t1 M) (fun r => Fg 1294077440023230710144016724176942272334582932281947479092973291962368 M0 r.2) := by
  unfold qf_X15_plus_J69
  refine qP_ite ?_ ?_
  · exact (fr_X15_plus_J76 h)
  · exact (fr_X15_plus_J136 h)
theorem fr_X15_plus_J58 {N : Nat} {j1 j6 t0 : Int} {M M0 : qm} (h : Fg 1294077440023230710144016724176942272334582932281947479092973291962368 M0 M) : qP (qf_X15_plus_J58 N j1 j6 t0 M) (fun r => Fg 1294077440023230710144016724176942272334582932281947479092973291962368 M0 r.2) := by
  unfold qf_X15_plus_J58
  refine qP_ite ?_ ?_
  · exact (fr_X15_plus_J69 h)
  · exact (fr_X15_plus_J69 h)
theorem fr_X15_plus_J43 {N : Nat} {j1 j6 t0 t1 : Int} {M M0 : qm} (h : Fg 1294077440023230710144016724176942272334582932281947479092973291962368 M0 M) : qP (qf_X15_plus_J43 N j1 j6 t0 t1 M) (fun r => Fg 1294077440023230710144016724176942272334582932281947479092973291962368 M0 r.2) := by
  unfold qf_X15_plus_J43
  refine qP_ite ?_ ?_
  · exact (fr_X15_plus_J76 h)
  · refine qP_ite ?_ ?_
    · exact (fr_X15_plus_J58 h)
    · exact (fr_X15_plus_J58 h)
theorem fr_X15_plus_J32 {N : Nat} {j1 j3 j6 t0 : Int} {M M0 : qm} (h : Fg 1294077440023230710144016724176942272334582932281947479092973291962368 M0 M) : qP (qf_X15_plus_J32 N j1 j3 j6 t0 M) (fun r => Fg 1294077440023230710144016724176942272334582932281947479092973291962368 M0 r.2) := by
  unfold qf_X15_plus_J32
  refine qP_ite ?_ ?_
  · exact (fr_X15_plus_J43 h)
  · exact (fr_X15_plus_J43 h)
theorem fr_X15_plus_J14 {N : Nat} {j1 j3 i5 t0 : Int} {M M0 : qm} (h : Fg 1294077440023230710144016724176942272334582932281947479092973291962368 M0 M) : qP (qf_X15_plus_J14 N j1 j3 i5 t0 M) (fun r => Fg 1294077440023230710144016724176942272334582932281947479092973291962368 M0 r.2) := by
  unfold qf_X15_plus_J14
  refine qP_ite ?_ ?_
  · refine qP_ite ?_ ?_
    · exact (fr_X15_plus_J91 h)
    · exact (fr_X15_plus_J91 h)
  · refine qP_ite ?_ ?_
    · exact (fr_X15_plus_J32 h)
    · exact (fr_X15_plus_J32 h)
theorem fr_X15_plus {N : Nat} {j1 j3 i5 : Int} {M M0 : qm} (h : Fg 1294077440023230710144016724176942272334582932281947479092973291962368 M0 M) : qP (qf_X15_plus N j1 j3 i5 M) (fun r => Fg 1294077440023230710144016724176942272334582932281947479092973291962368 M0 r.2) := by
  unfold qf_X15_plus
  refine qP_ite ?_ ?_
  · exact (fr_X15_plus_J14 h)
  · exact (fr_X15_plus_J14 h)
theorem fr_X15_operate_J158 {N : Nat} {j4 j8 t2 t3 t4 : Int} {M M0 : qm} (h : Fg 43422034973750586644274947879610810318075561973295299177068652944769597571072 M0 M) : qP (qf_X15_operate_J158 N j4 j8 t2 t3 t4 M) (fun r => Fg 43422034973750586644274947879610810318075561973295299177068652944769597571072 M0 r.2) := by
  unfold qf_X15_operate_J158
  refine qP_bind (fr_X15_plus Fg_refl) (fun r1 k1 => ?_)
  have h1 := Fg_tr h (Fg_mono k1 rfl)
  refine qP_bind (fr_X15_times Fg_refl) (fun r2 k2 => ?_)
  have h2 := Fg_tr h1 (Fg_mono k2 rfl)
  refine qP_bind (fr_X15_push Fg_refl) (fun r3 k3 => ?_)
  have h3 := Fg_tr h2 (Fg_mono k3 rfl)
  exact qP_some h3
theorem fr_X15_operate_J122 {N : Nat} {t1 t3 t4 : Int} {M M0 : qm} (h : Fg 43422034973750586644274947879610810318075561973295299177068652944769597571072 M0 M) : qP (qf_X15_operate_J122 N t1 t3 t4 M) (fun r => Fg 43422034973750586644274947879610810318075561973295299177068652944769597571072 M0 r.2) := by
  unfold qf_X15_operate_J122
  refine qP_bind (fr_X15_times Fg_refl) (fun r1 k1 => ?_)
  have h1 := Fg_tr h (Fg_mono k1 rfl)
  refine qP_bind (fr_X15_push Fg_refl) (fun r2 k2 => ?_)
  have h2 := Fg_tr h1 (Fg_mono k2 rfl)
  exact qP_some h2
theorem fr_X15_operate_J104 {N : Nat} {i1 j4 j6 j8 t2 t3 : Int} {M M0 : qm} (h : Fg 43422034973750586644274947879610810318075561973295299177068652944769597571072 M0 M) : qP (qf_X15_operate_J104 N i1 j4 j6 j8 t2 t3 M) (fun r => Fg 43422034973750586644274947879610810318075561973295299177068652944769597571072 M0 r.2) := by
  unfold qf_X15_operate_J104
  refine qP_bind (fr_X15_times Fg_refl) (fun r1 k1 => ?_)
  have h1 := Fg_tr h (Fg_mono k1 rfl)
  refine qP_ite ?_ ?_
  · exact (fr_X15_operate_J122 h1)
  · exact (fr_X15_operate_J122 h1)
theorem fr_X15_operate_J84 {N : Nat} {i1 j2 j4 j6 j8 : Int} {M M0 : qm} (h : Fg 43422034973750586644274947879610810318075561973295299177068652944769597571072 M0 M) : qP (qf_X15_operate_J84 N i1 j2 j4 j6 j8 M) (fun r => Fg 43422034973750586644274947879610810318075561973295299177068652944769597571072 M0 r.2) := by
  unfold qf_X15_operate_J84
  refine qP_ite ?_ ?_
  · refine qP_bind (fr_X15_times Fg_refl) (fun r1 k1 => ?_)
    have h1 := Fg_tr h (Fg_mono k1 rfl)
    refine qP_bind (fr_X15_times Fg_refl) (fun r2 k2 => ?_)
    have h2 := Fg_tr h1 (Fg_mono k2 rfl)
    refine qP_ite ?_ ?_
    · exact (fr_X15_operate_J158 h2)
    · exact (fr_X15_operate_J158 h2)
  · refine qP_ite ?_ ?_
    · exact (fr_X15_operate_J104 h)
    · exact (fr_X15_operate_J104 h)
theorem fr_X15_operate {N : Nat} {i1 : Int} {M M0 : qm} (h : Fg 43422034973750586644274947879610810318075561973295299177068652944769597571072 M0 M) : qP (qf_X15_operate N i1 M) (fun r => Fg 43422034973750586644274947879610810318075561973295299177068652944769597571072 M0 r.2) := by
  unfold qf_X15_operate
  refine qP_bnd (m0 := _) (Fg_w h rfl) (fun M1 h1 => ?_)
  refine qP_ite ?_ ?_
  · refine qP_ite ?_ ?_
    · refine qP_ite ?_ ?_
      · refine qP_ite ?_ ?_
        · refine qP_ite ?_ ?_
          · refine qP_ite ?_ ?_
            · refine qP_bind (fr_X15_opens Fg_refl) (fun r2 k2 => ?_)
              have h2 := Fg_tr h1 (Fg_mono k2 rfl)
              refine qP_bind (fr_X15_push Fg_refl) (fun r3 k3 => ?_)
              have h3 := Fg_tr h2 (Fg_mono k3 rfl)
              exact qP_some h3
            · exact (fr_X15_operate_J84 h1)
          · exact (fr_X15_operate_J84 h1)
        · exact qP_none
      · exact qP_none
    · exact qP_none
  · exact qP_none
theorem fr_X15_reckon_L7_b {N : Nat} {i2 i3 : Int} {M M0 : qm} (h : Fg 43422034973750586644274947879610810318075561973295299177068652944769597571072 M0 M) : qP (qf_X15_reckon_L7_b N i2 i3 M) (pU (pU (fun r => Fg 43422034973750586644274947879610810318075561973295299177068652944769597571072 M0 r.2) (fun r => Fg 43422034973750586644274947879610810318075561973295299177068652944769597571072 M0 r.2)) (fun r => Fg 43422034973750586644274947879610810318075561973295299177068652944769597571072 M0 r.2.2)) := by
  unfold qf_X15_reckon_L7_b
  refine qP_ite ?_ ?_
  · exact qP_some h
  · refine qP_ite ?_ ?_
    · refine qP_ite ?_ ?_
      · refine qP_ite ?_ ?_
        · refine qP_ite ?_ ?_
          · refine qP_bind (fr_X15_push Fg_refl) (fun r1 k1 => ?_)
            have h1 := Fg_tr h (Fg_mono k1 rfl)
            exact qP_some h1
          · exact qP_none
        · refine qP_ite ?_ ?_
          · refine qP_ite ?_ ?_
            · refine qP_ite ?_ ?_
              · refine qP_pure (fun r2 => ?_)
                refine qP_ite ?_ ?_
                · refine qP_ite ?_ ?_
                  · refine qP_bind (fr_X15_push Fg_refl) (fun r3 k3 => ?_)
                    have h3 := Fg_tr h (Fg_mono k3 rfl)
                    exact qP_some h3
                  · exact qP_none
                · refine qP_ite ?_ ?_
                  · refine qP_bind (fr_X15_opens Fg_refl) (fun r4 k4 => ?_)
                    have h4 := Fg_tr h (Fg_mono k4 rfl)
                    exact qP_some h4
                  · exact qP_none
              · exact qP_none
            · refine qP_ite ?_ ?_
              · refine qP_bind (fr_X15_operate Fg_refl) (fun r5 k5 => ?_)
                have h5 := Fg_tr h (Fg_mono k5 rfl)
                exact qP_some h5
              · exact qP_none
          · exact qP_none
      · exact qP_none
    · exact qP_some h
theorem fr_X15_reckon_L7 (n : Nat) {N : Nat} {i2 i3 : Int} {M M0 : qm} (h : Fg 43422034973750586644274947879610810318075561973295299177068652944769597571072 M0 M) : qP (qf_X15_reckon_L7 N n i2 i3 M) (pU (fun r => Fg 43422034973750586644274947879610810318075561973295299177068652944769597571072 M0 r.2) (fun r => Fg 43422034973750586644274947879610810318075561973295299177068652944769597571072 M0 r.2)) := by
  unfold qf_X15_reckon_L7
  exact qP_loop (I := fun s => Fg 43422034973750586644274947879610810318075561973295299177068652944769597571072 M0 s.2.2) (fun s hs => fr_X15_reckon_L7_b hs) n _ h
theorem fr_X15_reckon {N : Nat} {i1 i2 : Int} {M M0 : qm} (h : Fg 43422034973750586644274947879610810318075561973295299177068652944769597571072 M0 M) : qP (qf_X15_reckon N i1 i2 M) (fun r => Fg 43422034973750586644274947879610810318075561973295299177068652944769597571072 M0 r.2) := by
  unfold qf_X15_reckon
  refine qP_bnd (m0 := _) (Fg_w h rfl) (fun M1 h1 => ?_)
  refine qP_bind (fr_X15_reckon_L7 _ h1) (fun r2 k2 => ?_)
  rcases r2 with x2 | x2
  · exact qP_some k2
  · obtain ⟨y2_0, y2_1⟩ := x2
    have h2 : Fg _ _ y2_1 := k2
    exact qP_some h2
theorem fr_X15_holds_J122 {N : Nat} {i1 : Int} {M M0 : qm} (h : Fg 45118213332247595693597754056390908801039035852627622504655311269903680405504 M0 M) : qP (qf_X15_holds_J122 N i1 M) (fun r => Fg 45118213332247595693597754056390908801039035852627622504655311269903680405504 M0 r.2) := by
  unfold qf_X15_holds_J122
  refine qP_bind (fr_X15_times Fg_refl) (fun r1 k1 => ?_)
  have h1 := Fg_tr h (Fg_mono k1 rfl)
  refine qP_bind (fr_X15_times Fg_refl) (fun r2 k2 => ?_)
  have h2 := Fg_tr h1 (Fg_mono k2 rfl)
  refine qP_ite ?_ ?_
  · refine qP_ite ?_ ?_
    · refine qP_ite ?_ ?_
      · refine qP_ite ?_ ?_
        · exact qP_some h2
        · exact qP_some h2
      · refine qP_ite ?_ ?_
        · refine qP_ite ?_ ?_
          · exact qP_some h2
          · exact qP_some h2
        · refine qP_ite ?_ ?_
          · refine qP_ite ?_ ?_
            · exact qP_some h2
            · exact qP_some h2
          · refine qP_ite ?_ ?_
            · refine qP_ite ?_ ?_
              · exact qP_some h2
              · exact qP_some h2
            · refine qP_ite ?_ ?_
              · exact qP_some h2
              · exact qP_some h2
    · exact qP_none
  · exact qP_some h2
theorem fr_X15_holds_J69 {N : Nat} {i1 i2 : Int} {M M0 : qm} (h : Fg 45118213332247595693597754056390908801039035852627622504655311269903680405504 M0 M) : qP (qf_X15_holds_J69 N i1 i2 M) (fun r => Fg 45118213332247595693597754056390908801039035852627622504655311269903680405504 M0 r.2) := by
  unfold qf_X15_holds_J69
  refine qP_ite ?_ ?_
  · refine qP_ite ?_ ?_
    · refine qP_bind (fr_X15_reckon Fg_refl) (fun r1 k1 => ?_)
      have h1 := Fg_tr h (Fg_mono k1 rfl)
      refine qP_ite ?_ ?_
      · refine qP_ite ?_ ?_
        · exact (fr_X15_holds_J122 h1)
        · refine qP_ite ?_ ?_
          · refine qP_bnd (m0 := _) (Fg_wa (k := 248) h1 rfl rfl) (fun M2 h2 => ?_)
            refine qP_ite ?_ ?_
            · refine qP_bnd (m0 := _) (Fg_wa (k := 249) h2 rfl rfl) (fun M3 h3 => ?_)
              exact (fr_X15_holds_J122 h3)
            · exact qP_none
          · exact qP_none
      · exact qP_some h1
    · exact qP_none
  · exact qP_none
theorem fr_X15_holds {N : Nat} {i1 i2 : Int} {M M0 : qm} (h : Fg 45118213332247595693597754056390908801039035852627622504655311269903680405504 M0 M) : qP (qf_X15_holds N i1 i2 M) (fun r => Fg 45118213332247595693597754056390908801039035852627622504655311269903680405504 M0 r.2) := by
  unfold qf_X15_holds
  refine qP_ite ?_ ?_
  · refine qP_ite ?_ ?_
    · refine qP_bind (fr_X15_reckon Fg_refl) (fun r1 k1 => ?_)
      have h1 := Fg_tr h (Fg_mono k1 rfl)
      refine qP_ite ?_ ?_
      · refine qP_bnd (m0 := _) (Fg_w h1 rfl) (fun M2 h2 => ?_)
        refine qP_bnd (m0 := _) (Fg_w h2 rfl) (fun M3 h3 => ?_)
        refine qP_ite ?_ ?_
        · exact (fr_X15_holds_J69 h3)
        · refine qP_ite ?_ ?_
          · refine qP_bnd (m0 := _) (Fg_wa (k := 246) h3 rfl rfl) (fun M4 h4 => ?_)
            refine qP_ite ?_ ?_
            · refine qP_bnd (m0 := _) (Fg_wa (k := 247) h4 rfl rfl) (fun M5 h5 => ?_)
              exact (fr_X15_holds_J69 h5)
            · exact qP_none
          · exact qP_none
      · exact qP_some h1
    · exact qP_none
  · exact qP_none
theorem fr_X15_ask_L82_b {N : Nat} {i1 i4 i6 i7 : Int} {M M0 : qm} (h : Fg 45118213332247595693597754056390908801039035852627622504655311269903680405504 M0 M) : qP (qf_X15_ask_L82_b N i1 i4 i6 i7 M) (pU (pU (fun r => Fg 45118213332247595693597754056390908801039035852627622504655311269903680405504 M0 r.2) (fun r => Fg 45118213332247595693597754056390908801039035852627622504655311269903680405504 M0 r.2)) (fun r => Fg 45118213332247595693597754056390908801039035852627622504655311269903680405504 M0 r.2.2.2.2)) := by
  unfold qf_X15_ask_L82_b
  refine qP_ite ?_ ?_
  · refine qP_ite ?_ ?_
    · exact qP_some h
    · refine qP_ite ?_ ?_
      · exact qP_some h
      · refine qP_bind (fr_X15_holds Fg_refl) (fun r1 k1 => ?_)
        have h1 := Fg_tr h (Fg_mono k1 rfl)
        exact qP_some h1
  · exact qP_none
theorem fr_X15_ask_L82 (n : Nat) {N : Nat} {i1 i4 i6 i7 : Int} {M M0 : qm} (h : Fg 45118213332247595693597754056390908801039035852627622504655311269903680405504 M0 M) : qP (qf_X15_ask_L82 N n i1 i4 i6 i7 M) (pU (fun r => Fg 45118213332247595693597754056390908801039035852627622504655311269903680405504 M0 r.2) (fun r => Fg 45118213332247595693597754056390908801039035852627622504655311269903680405504 M0 r.2)) := by
  unfold qf_X15_ask_L82
  exact qP_loop (I := fun s => Fg 45118213332247595693597754056390908801039035852627622504655311269903680405504 M0 s.2.2.2.2) (fun s hs => fr_X15_ask_L82_b hs) n _ h
theorem fr_X15_ask_J116 {N : Nat} {i6 : Int} {M M0 : qm} (h : Fg 45118213332247595693597754056390908801039035852627622504655311269903680405504 M0 M) : qP (qf_X15_ask_J116 N i6 M) (fun r => Fg 45118213332247595693597754056390908801039035852627622504655311269903680405504 M0 r.2) := by
  unfold qf_X15_ask_J116
  refine qP_ite ?_ ?_
  · refine qP_ite ?_ ?_
    · exact qP_some h
    · exact qP_some h
  · exact qP_some h
theorem fr_X15_ask_J77 {N : Nat} {i1 i4 t0 : Int} {M M0 : qm} (h : Fg 45118213332247595693597754056390908801039035852627622504655311269903680405504 M0 M) : qP (qf_X15_ask_J77 N i1 i4 t0 M) (fun r => Fg 45118213332247595693597754056390908801039035852627622504655311269903680405504 M0 r.2) := by
  unfold qf_X15_ask_J77
  refine qP_bind (fr_X15_ask_L82 _ h) (fun r1 k1 => ?_)
  rcases r1 with x1 | x1
  · exact qP_some k1
  · obtain ⟨y1_0, y1_1⟩ := x1
    have h1 : Fg _ _ y1_1 := k1
    exact (fr_X15_ask_J116 h1)
theorem fr_X15_ask_J42 {N : Nat} {i1 i4 t1 t2 : Int} {M M0 : qm} (h : Fg 45118213332247595693597754056390908801039035852627622504655311269903680405504 M0 M) : qP (qf_X15_ask_J42 N i1 i4 t1 t2 M) (fun r => Fg 45118213332247595693597754056390908801039035852627622504655311269903680405504 M0 r.2) := by
  unfold qf_X15_ask_J42
  refine qP_bind (fr_X15_holds Fg_refl) (fun r1 k1 => ?_)
  have h1 := Fg_tr h (Fg_mono k1 rfl)
  refine qP_ite ?_ ?_
  · refine qP_ite ?_ ?_
    · refine qP_ite ?_ ?_
      · refine qP_ite ?_ ?_
        · exact (fr_X15_ask_J77 h1)
        · exact (fr_X15_ask_J77 h1)
      · exact qP_none
    · exact qP_some h1
  · exact qP_some h1
theorem fr_X15_ask {N : Nat} {i1 i2 i3 : Int} {M M0 : qm} (h : Fg 45118213332247595693597754056390908801039035852627622504655311269903680405504 M0 M) : qP (qf_X15_ask N i1 i2 i3 M) (fun r => Fg 45118213332247595693597754056390908801039035852627622504655311269903680405504 M0 r.2) := by
  unfold qf_X15_ask
  refine qP_bnd (m0 := _) (Fg_w h rfl) (fun M1 h1 => ?_)
  refine qP_bnd (m0 := _) (Fg_w h1 rfl) (fun M2 h2 => ?_)
  refine qP_ite ?_ ?_
  · refine qP_ite ?_ ?_
    · refine qP_ite ?_ ?_
      · refine qP_ite ?_ ?_
        · exact (fr_X15_ask_J42 h2)
        · exact (fr_X15_ask_J42 h2)
      · exact qP_none
    · exact qP_some h2
  · exact qP_none
theorem fr_X15_run_J94 {N : Nat} {i1 i3 t0 t1 : Int} {M M0 : qm} (h : Fg 50602506621425012944292866685394845901851216300848438846065326029970283167744 M0 M) : qP (qf_X15_run_J94 N i1 i3 t0 t1 M) (pU (pU (fun r => Fg 50602506621425012944292866685394845901851216300848438846065326029970283167744 M0 r.2) (fun r => Fg 50602506621425012944292866685394845901851216300848438846065326029970283167744 M0 r.2)) (fun r => Fg 50602506621425012944292866685394845901851216300848438846065326029970283167744 M0 r.2.2.2)) := by
  unfold qf_X15_run_J94
  exact qP_some h
theorem fr_X15_run_L9_b {N : Nat} {i1 i2 i3 : Int} {M M0 : qm} (h : Fg 50602506621425012944292866685394845901851216300848438846065326029970283167744 M0 M) : qP (qf_X15_run_L9_b N i1 i2 i3 M) (pU (pU (fun r => Fg 50602506621425012944292866685394845901851216300848438846065326029970283167744 M0 r.2) (fun r => Fg 50602506621425012944292866685394845901851216300848438846065326029970283167744 M0 r.2)) (fun r => Fg 50602506621425012944292866685394845901851216300848438846065326029970283167744 M0 r.2.2.2)) := by
  unfold qf_X15_run_L9_b
  refine qP_ite ?_ ?_
  · exact qP_some h
  · refine qP_ite ?_ ?_
    · refine qP_bnd (m0 := _) (Fg_wa (k := 246) h rfl rfl) (fun M1 h1 => ?_)
      refine qP_ite ?_ ?_
      · refine qP_bnd (m0 := _) (Fg_wa (k := 247) h1 rfl rfl) (fun M2 h2 => ?_)
        refine qP_ite ?_ ?_
        · refine qP_bnd (m0 := _) (Fg_wa (k := 248) h2 rfl rfl) (fun M3 h3 => ?_)
          refine qP_ite ?_ ?_
          · refine qP_bnd (m0 := _) (Fg_wa (k := 249) h3 rfl rfl) (fun M4 h4 => ?_)
            refine qP_bind (fr_X15_ask Fg_refl) (fun r5 k5 => ?_)
            have h5 := Fg_tr h4 (Fg_mono k5 rfl)
            refine qP_ite ?_ ?_
            · refine qP_bnd (m0 := _) (Fg_wa (k := 245) h5 rfl rfl) (fun M6 h6 => ?_)
              refine qP_ite ?_ ?_
              · refine qP_bnd (m0 := _) (Fg_wa (k := 250) h6 rfl rfl) (fun M7 h7 => ?_)
                refine qP_ite ?_ ?_
                · refine qP_bnd (m0 := _) (Fg_wa (k := 251) h7 rfl rfl) (fun M8 h8 => ?_)
                  refine qP_ite ?_ ?_
                  · refine qP_ite ?_ ?_
                    · exact (fr_X15_run_J94 h8)
                    · exact (fr_X15_run_J94 h8)
                  · exact qP_none
                · exact qP_none
              · exact qP_none
            · exact qP_none
          · exact qP_none
        · exact qP_none
      · exact qP_none
    · exact qP_none
theorem fr_X15_run_L9 (n : Nat) {N : Nat} {i1 i2 i3 : Int} {M M0 : qm} (h : Fg 50602506621425012944292866685394845901851216300848438846065326029970283167744 M0 M) : qP (qf_X15_run_L9 N n i1 i2 i3 M) (pU (fun r => Fg 50602506621425012944292866685394845901851216300848438846065326029970283167744 M0 r.2) (fun r => Fg 50602506621425012944292866685394845901851216300848438846065326029970283167744 M0 r.2)) := by
  unfold qf_X15_run_L9
  exact qP_loop (I := fun s => Fg 50602506621425012944292866685394845901851216300848438846065326029970283167744 M0 s.2.2.2) (fun s hs => fr_X15_run_L9_b hs) n _ h
theorem fr_X15_run {N : Nat} {i1 : Int} {M M0 : qm} (h : Fg 50602506621425012944292866685394845901851216300848438846065326029970283167744 M0 M) : qP (qf_X15_run N i1 M) (fun r => Fg 50602506621425012944292866685394845901851216300848438846065326029970283167744 M0 r.2) := by
  unfold qf_X15_run
  refine qP_bnd (m0 := _) (Fg_w h rfl) (fun M1 h1 => ?_)
  refine qP_bind (fr_X15_run_L9 _ h1) (fun r2 k2 => ?_)
  rcases r2 with x2 | x2
  · exact qP_some k2
  · obtain ⟨y2_0, y2_1⟩ := x2
    have h2 : Fg _ _ y2_1 := k2
    exact qP_some h2
theorem fr_X18_check {N : Nat} {i1 : Int} {M M0 : qm} (h : Fg 50602506621425012944292866686856347539182119219052123678781609049626215710720 M0 M) : qP (qf_X18_check N i1 M) (fun r => Fg 50602506621425012944292866686856347539182119219052123678781609049626215710720 M0 r.2) := by
  unfold qf_X18_check
  refine qP_pure (fun r1 => ?_)
  refine qP_bind (fr_X18_goes Fg_refl) (fun r2 k2 => ?_)
  have h2 := Fg_tr h (Fg_mono k2 rfl)
  refine qP_ite ?_ ?_
  · exact qP_some h2
  · refine qP_bind (fr_X15_run Fg_refl) (fun r3 k3 => ?_)
    have h3 := Fg_tr h2 (Fg_mono k3 rfl)
    exact qP_some h3
theorem fr_L_rule {N : Nat} {i1 i2 : Int} {M M0 : qm} (h : Fg 165263992197562149737978827008192759957101170741070304821162198818601447809077836456297302609928821211897803006255839576064 M0 M) : qP (qf_L_rule N i1 i2 M) (fun r => Fg 165263992197562149737978827008192759957101170741070304821162198818601447809077836456297302609928821211897803006255839576064 M0 r.2) := by
  unfold qf_L_rule
  refine qP_pure (fun r1 => ?_)
  rcases r1 with x2 | x2
  · refine qP_bnd (m0 := _) (Fg_wa (k := 406) h rfl rfl) (fun M3 h3 => ?_)
    exact qP_some h3
  · refine qP_ite ?_ ?_
    · exact qP_some h
    · refine qP_ite ?_ ?_
      · exact qP_some h
      · exact qP_none
theorem fr_X18_rule_J44 {N : Nat} {i1 i2 t1 t2 : Int} {M M0 : qm} (h : Fg 1461501637330902918203684832716283019655932542976 M0 M) : qP (qf_X18_rule_J44 N i1 i2 t1 t2 M) (fun r => Fg 1461501637330902918203684832716283019655932542976 M0 r.2) := by
  unfold qf_X18_rule_J44
  refine qP_bind (fr_X18_goes Fg_refl) (fun r1 k1 => ?_)
  have h1 := Fg_tr h (Fg_mono k1 rfl)
  refine qP_ite ?_ ?_
  · exact qP_some h1
  · refine qP_pure (fun r2 => ?_)
    exact qP_some h1
theorem fr_X18_rule_J29 {N : Nat} {i1 i2 t1 : Int} {M M0 : qm} (h : Fg 1461501637330902918203684832716283019655932542976 M0 M) : qP (qf_X18_rule_J29 N i1 i2 t1 M) (fun r => Fg 1461501637330902918203684832716283019655932542976 M0 r.2) := by
  unfold qf_X18_rule_J29
  refine qP_ite ?_ ?_
  · exact (fr_X18_rule_J44 h)
  · exact (fr_X18_rule_J44 h)
theorem fr_X18_rule_J28 {N : Nat} {i1 i2 : Int} {M M0 : qm} (h : Fg 1461501637330902918203684832716283019655932542976 M0 M) : qP (qf_X18_rule_J28 N i1 i2 M) (fun r => Fg 1461501637330902918203684832716283019655932542976 M0 r.2) := by
  unfold qf_X18_rule_J28
  exact (fr_X18_rule_J29 h)
theorem fr_X18_rule {N : Nat} {i1 i2 : Int} {M M0 : qm} (h : Fg 1461501637330902918203684832716283019655932542976 M0 M) : qP (qf_X18_rule N i1 i2 M) (fun r => Fg 1461501637330902918203684832716283019655932542976 M0 r.2) := by
  unfold qf_X18_rule
  refine qP_pure (fun r1 => ?_)
  refine qP_ite ?_ ?_
  · exact (fr_X18_rule_J28 h)
  · refine qP_pure (fun r2 => ?_)
    refine qP_ite ?_ ?_
    · exact (fr_X18_rule_J28 h)
    · exact (fr_X18_rule_J29 h)
theorem fr_X10_numberCells_L4_b {N : Nat} {i1 i2 : Int} {M M0 : qm} (h : Fg 54043195528445952 M0 M) : qP (qf_X10_numberCells_L4_b N i1 i2 M) (pU (pU (fun r => Fg 54043195528445952 M0 r.2) (fun r => Fg 54043195528445952 M0 r.2)) (fun r => Fg 54043195528445952 M0 r.2.2)) := by
  unfold qf_X10_numberCells_L4_b
  refine qP_ite ?_ ?_
  · exact qP_some h
  · refine qP_ite ?_ ?_
    · refine qP_bnd (m0 := _) (Fg_wa (k := 54) h rfl rfl) (fun M1 h1 => ?_)
      refine qP_pure (fun r2 => ?_)
      refine qP_ite ?_ ?_
      · exact qP_some h1
      · refine qP_pure (fun r3 => ?_)
        refine qP_ite ?_ ?_
        · exact qP_some h1
        · refine qP_ite ?_ ?_
          · refine qP_bnd (m0 := _) (Fg_wa (k := 54) h1 rfl rfl) (fun M4 h4 => ?_)
            refine qP_ite ?_ ?_
            · refine qP_bnd (m0 := _) (Fg_wa (k := 55) h4 rfl rfl) (fun M5 h5 => ?_)
              exact qP_some h5
            · exact qP_none
          · exact qP_none
    · exact qP_none
theorem fr_X10_numberCells_L4 (n : Nat) {N : Nat} {i1 i2 : Int} {M M0 : qm} (h : Fg 54043195528445952 M0 M) : qP (qf_X10_numberCells_L4 N n i1 i2 M) (pU (fun r => Fg 54043195528445952 M0 r.2) (fun r => Fg 54043195528445952 M0 r.2)) := by
  unfold qf_X10_numberCells_L4
  exact qP_loop (I := fun s => Fg 54043195528445952 M0 s.2.2) (fun s hs => fr_X10_numberCells_L4_b hs) n _ h
theorem fr_X10_numberCells_J119 {N : Nat} {i1 i2 i3 i4 t0 : Int} {M M0 : qm} (h : Fg 54043195528445952 M0 M) : qP (qf_X10_numberCells_J119 N i1 i2 i3 i4 t0 M) (pU (pU (fun r => Fg 54043195528445952 M0 r.2) (fun r => Fg 54043195528445952 M0 r.2)) (fun r => Fg 54043195528445952 M0 r.2.2.2)) := by
  unfold qf_X10_numberCells_J119
  refine qP_ite ?_ ?_
  · exact qP_some h
  · refine qP_ite ?_ ?_
    · refine qP_pure (fun r1 => ?_)
      refine qP_ite ?_ ?_
      · exact qP_some h
      · refine qP_ite ?_ ?_
        · refine qP_ite ?_ ?_
          · refine qP_ite ?_ ?_
            · refine qP_bnd (m0 := _) (Fg_wa (k := 54) h rfl rfl) (fun M2 h2 => ?_)
              refine qP_ite ?_ ?_
              · refine qP_bnd (m0 := _) (Fg_wa (k := 55) h2 rfl rfl) (fun M3 h3 => ?_)
                exact qP_some h3
              · exact qP_none
            · exact qP_none
          · exact qP_none
        · exact qP_none
    · exact qP_none
theorem fr_X10_numberCells_J118 {N : Nat} {i1 i2 i3 i4 : Int} {M M0 : qm} (h : Fg 54043195528445952 M0 M) : qP (qf_X10_numberCells_J118 N i1 i2 i3 i4 M) (pU (pU (fun r => Fg 54043195528445952 M0 r.2) (fun r => Fg 54043195528445952 M0 r.2)) (fun r => Fg 54043195528445952 M0 r.2.2.2)) := by
  unfold qf_X10_numberCells_J118
  exact (fr_X10_numberCells_J119 h)
theorem fr_X10_numberCells_L66_b {N : Nat} {i1 i2 i3 : Int} {M M0 : qm} (h : Fg 54043195528445952 M0 M) : qP (qf_X10_numberCells_L66_b N i1 i2 i3 M) (pU (pU (fun r => Fg 54043195528445952 M0 r.2) (fun r => Fg 54043195528445952 M0 r.2)) (fun r => Fg 54043195528445952 M0 r.2.2.2)) := by
  unfold qf_X10_numberCells_L66_b
  refine qP_ite ?_ ?_
  · exact qP_some h
  · refine qP_ite ?_ ?_
    · refine qP_pure (fun r1 => ?_)
      refine qP_pure (fun r2 => ?_)
      refine qP_ite ?_ ?_
      · exact (fr_X10_numberCells_J118 h)
      · refine qP_ite ?_ ?_
        · refine qP_ite ?_ ?_
          · refine qP_ite ?_ ?_
            · exact (fr_X10_numberCells_J118 h)
            · exact (fr_X10_numberCells_J119 h)
          · exact (fr_X10_numberCells_J118 h)
        · exact qP_none
    · exact qP_none
theorem fr_X10_numberCells_L66 (n : Nat) {N : Nat} {i1 i2 i3 : Int} {M M0 : qm} (h : Fg 54043195528445952 M0 M) : qP (qf_X10_numberCells_L66 N n i1 i2 i3 M) (pU (fun r => Fg 54043195528445952 M0 r.2) (fun r => Fg 54043195528445952 M0 r.2)) := by
  unfold qf_X10_numberCells_L66
  exact qP_loop (I := fun s => Fg 54043195528445952 M0 s.2.2.2) (fun s hs => fr_X10_numberCells_L66_b hs) n _ h
theorem fr_X10_numberCells_L59_b {N : Nat} {i1 i2 : Int} {M M0 : qm} (h : Fg 54043195528445952 M0 M) : qP (qf_X10_numberCells_L59_b N i1 i2 M) (pU (pU (fun r => Fg 54043195528445952 M0 r.2) (fun r => Fg 54043195528445952 M0 r.2)) (fun r => Fg 54043195528445952 M0 r.2.2)) := by
  unfold qf_X10_numberCells_L59_b
  refine qP_ite ?_ ?_
  · exact qP_some h
  · refine qP_bind (fr_X10_numberCells_L66 _ h) (fun r1 k1 => ?_)
    rcases r1 with x1 | x1
    · exact qP_some k1
    · obtain ⟨y1_0, y1_1⟩ := x1
      have h1 : Fg _ _ y1_1 := k1
      exact qP_some h1
theorem fr_X10_numberCells_L59 (n : Nat) {N : Nat} {i1 i2 : Int} {M M0 : qm} (h : Fg 54043195528445952 M0 M) : qP (qf_X10_numberCells_L59 N n i1 i2 M) (pU (fun r => Fg 54043195528445952 M0 r.2) (fun r => Fg 54043195528445952 M0 r.2)) := by
  unfold qf_X10_numberCells_L59
  exact qP_loop (I := fun s => Fg 54043195528445952 M0 s.2.2) (fun s hs => fr_X10_numberCells_L59_b hs) n _ h
theorem fr_X10_numberCells {N : Nat} {M M0 : qm} (h : Fg 54043195528445952 M0 M) : qP (qf_X10_numberCells N M) (fun r => Fg 54043195528445952 M0 r.2) := by
  unfold qf_X10_numberCells
  refine qP_bind (fr_X10_numberCells_L4 _ h) (fun r1 k1 => ?_)
  rcases r1 with x1 | x1
  · exact qP_some k1
  · obtain ⟨y1_0, y1_1⟩ := x1
    have h1 : Fg _ _ y1_1 := k1
    refine qP_bind (fr_X10_numberCells_L59 _ h1) (fun r2 k2 => ?_)
    rcases r2 with x2 | x2
    · exact qP_some k2
    · obtain ⟨y2_0, y2_1⟩ := x2
      have h2 : Fg _ _ y2_1 := k2
      exact qP_some h2
theorem fr_X0_notePortal_J121 {N : Nat} {i4 t1 t2 : Int} {M M0 : qm} (h : Fg 295147905179352825856 M0 M) : qP (qf_X0_notePortal_J121 N i4 t1 t2 M) (fun r => Fg 295147905179352825856 M0 r.2) := by
  unfold qf_X0_notePortal_J121
  refine qP_ite ?_ ?_
  · refine qP_bnd (m0 := _) (Fg_wa (k := 68) h rfl rfl) (fun M1 h1 => ?_)
    refine qP_ite ?_ ?_
    · refine qP_bnd (m0 := _) (Fg_wa (k := 68) h1 rfl rfl) (fun M2 h2 => ?_)
      exact qP_some h2
    · exact qP_none
  · exact qP_none
theorem fr_X0_notePortal_J70 {N : Nat} {i4 i5 i6 i7 t1 t2 : Int} {M M0 : qm} (h : Fg 295147905179352825856 M0 M) : qP (qf_X0_notePortal_J70 N i4 i5 i6 i7 t1 t2 M) (fun r => Fg 295147905179352825856 M0 r.2) := by
  unfold qf_X0_notePortal_J70
  refine qP_ite ?_ ?_
  · refine qP_bnd (m0 := _) (Fg_wa (k := 68) h rfl rfl) (fun M1 h1 => ?_)
    refine qP_ite ?_ ?_
    · refine qP_bnd (m0 := _) (Fg_wa (k := 68) h1 rfl rfl) (fun M2 h2 => ?_)
      refine qP_ite ?_ ?_
      · refine qP_bnd (m0 := _) (Fg_wa (k := 68) h2 rfl rfl) (fun M3 h3 => ?_)
        refine qP_ite ?_ ?_
        · exact (fr_X0_notePortal_J121 h3)
        · exact (fr_X0_notePortal_J121 h3)
      · exact qP_none
    · exact qP_none
  · exact qP_none
theorem fr_X0_notePortal {N : Nat} {i1 i2 i3 : Int} {M M0 : qm} (h : Fg 295147905179352825856 M0 M) : qP (qf_X0_notePortal N i1 i2 i3 M) (fun r => Fg 295147905179352825856 M0 r.2) := by
  unfold qf_X0_notePortal
  refine qP_pure (fun r1 => ?_)
  refine qP_pure (fun r2 => ?_)
  refine qP_pure (fun r3 => ?_)
  refine qP_ite ?_ ?_
  · refine qP_bnd (m0 := _) (Fg_wa (k := 68) h rfl rfl) (fun M4 h4 => ?_)
    refine qP_ite ?_ ?_
    · exact (fr_X0_notePortal_J70 h4)
    · exact (fr_X0_notePortal_J70 h4)
  · exact qP_none
theorem fr_X0_setFact {N : Nat} {i1 i2 i3 : Int} {M M0 : qm} (h : Fg 295147905179352825856 M0 M) : qP (qf_X0_setFact N i1 i2 i3 M) (fun r => Fg 295147905179352825856 M0 r.2) := by
  unfold qf_X0_setFact
  refine qP_ite ?_ ?_
  · refine qP_bnd (m0 := _) (Fg_wa (k := 68) h rfl rfl) (fun M1 h1 => ?_)
    exact qP_some h1
  · exact qP_none
theorem fr_X0_scanDoor_J58 {N : Nat} {i1 i2 i3 i4 i5 i6 i7 t0 : Int} {M M0 : qm} (h : Fg 295147905179352825856 M0 M) : qP (qf_X0_scanDoor_J58 N i1 i2 i3 i4 i5 i6 i7 t0 M) (pU (pU (fun r => Fg 295147905179352825856 M0 r.2) (fun r => Fg 295147905179352825856 M0 r.2)) (fun r => Fg 295147905179352825856 M0 r.2.2.2.2.2.2.2)) := by
  unfold qf_X0_scanDoor_J58
  refine qP_pure (fun r1 => ?_)
  refine qP_pure (fun r2 => ?_)
  refine qP_ite ?_ ?_
  · exact qP_some h
  · refine qP_ite ?_ ?_
    · exact qP_some h
    · refine qP_ite ?_ ?_
      · exact qP_some h
      · refine qP_ite ?_ ?_
        · exact qP_some h
        · refine qP_bind (fr_X0_notePortal Fg_refl) (fun r3 k3 => ?_)
          have h3 := Fg_tr h (Fg_mono k3 rfl)
          refine qP_bind (fr_X0_setFact Fg_refl) (fun r4 k4 => ?_)
          have h4 := Fg_tr h3 (Fg_mono k4 rfl)
          refine qP_pure (fun r5 => ?_)
          refine qP_bind (fr_X0_setFact Fg_refl) (fun r6 k6 => ?_)
          have h6 := Fg_tr h4 (Fg_mono k6 rfl)
          refine qP_pure (fun r7 => ?_)
          refine qP_bind (fr_X0_setFact Fg_refl) (fun r8 k8 => ?_)
          have h8 := Fg_tr h6 (Fg_mono k8 rfl)
          exact qP_some h8
theorem fr_X0_scanDoor_J53 {N : Nat} {i1 i2 i3 i4 i5 i6 i7 : Int} {M M0 : qm} (h : Fg 295147905179352825856 M0 M) : qP (qf_X0_scanDoor_J53 N i1 i2 i3 i4 i5 i6 i7 M) (pU (pU (fun r => Fg 295147905179352825856 M0 r.2) (fun r => Fg 295147905179352825856 M0 r.2)) (fun r => Fg 295147905179352825856 M0 r.2.2.2.2.2.2.2)) := by
  unfold qf_X0_scanDoor_J53
  exact (fr_X0_scanDoor_J58 h)
theorem fr_X0_scanDoor_L26_b {N : Nat} {i1 i2 i3 i4 i5 i6 i7 : Int} {M M0 : qm} (h : Fg 295147905179352825856 M0 M) : qP (qf_X0_scanDoor_L26_b N i1 i2 i3 i4 i5 i6 i7 M) (pU (pU (fun r => Fg 295147905179352825856 M0 r.2) (fun r => Fg 295147905179352825856 M0 r.2)) (fun r => Fg 295147905179352825856 M0 r.2.2.2.2.2.2.2)) := by
  unfold qf_X0_scanDoor_L26_b
  refine qP_ite ?_ ?_
  · exact qP_some h
  · refine qP_ite ?_ ?_
    · exact (fr_X0_scanDoor_J53 h)
    · refine qP_pure (fun r1 => ?_)
      refine qP_ite ?_ ?_
      · exact (fr_X0_scanDoor_J58 h)
      · exact (fr_X0_scanDoor_J53 h)
theorem fr_X0_scanDoor_L26 (n : Nat) {N : Nat} {i1 i2 i3 i4 i5 i6 i7 : Int} {M M0 : qm} (h : Fg 295147905179352825856 M0 M) : qP (qf_X0_scanDoor_L26 N n i1 i2 i3 i4 i5 i6 i7 M) (pU (fun r => Fg 295147905179352825856 M0 r.2) (fun r => Fg 295147905179352825856 M0 r.2)) := by
  unfold qf_X0_scanDoor_L26
  exact qP_loop (I := fun s => Fg 295147905179352825856 M0 s.2.2.2.2.2.2.2) (fun s hs => fr_X0_scanDoor_L26_b hs) n _ h
theorem fr_X0_scanDoor {N : Nat} {i1 i2 i3 i4 : Int} {M M0 : qm} (h : Fg 295147905179352825856 M0 M) : qP (qf_X0_scanDoor N i1 i2 i3 i4 M) (fun r => Fg 295147905179352825856 M0 r.2) := by
  unfold qf_X0_scanDoor
  refine qP_pure (fun r1 => ?_)
  refine qP_pure (fun r2 => ?_)
  refine qP_bind (fr_X0_scanDoor_L26 _ h) (fun r3 k3 => ?_)
  rcases r3 with x3 | x3
  · exact qP_some k3
  · obtain ⟨y3_0, y3_1⟩ := x3
    have h3 : Fg _ _ y3_1 := k3
    exact qP_some h3
theorem fr_X0_scanLines_L18_b {N : Nat} {i1 i2 i3 i4 : Int} {M M0 : qm} (h : Fg 295147905179352825856 M0 M) : qP (qf_X0_scanLines_L18_b N i1 i2 i3 i4 M) (pU (pU (fun r => Fg 295147905179352825856 M0 r.2) (fun r => Fg 295147905179352825856 M0 r.2)) (fun r => Fg 295147905179352825856 M0 r.2.2.2.2)) := by
  unfold qf_X0_scanLines_L18_b
  refine qP_ite ?_ ?_
  · refine qP_ite ?_ ?_
    · exact qP_some h
    · refine qP_bind (fr_X0_scanDoor Fg_refl) (fun r1 k1 => ?_)
      have h1 := Fg_tr h (Fg_mono k1 rfl)
      exact qP_some h1
  · exact qP_none
theorem fr_X0_scanLines_L18 (n : Nat) {N : Nat} {i1 i2 i3 i4 : Int} {M M0 : qm} (h : Fg 295147905179352825856 M0 M) : qP (qf_X0_scanLines_L18 N n i1 i2 i3 i4 M) (pU (fun r => Fg 295147905179352825856 M0 r.2) (fun r => Fg 295147905179352825856 M0 r.2)) := by
  unfold qf_X0_scanLines_L18
  exact qP_loop (I := fun s => Fg 295147905179352825856 M0 s.2.2.2.2) (fun s hs => fr_X0_scanLines_L18_b hs) n _ h
theorem fr_X0_scanLines_L4_b {N : Nat} {i1 i2 i3 : Int} {M M0 : qm} (h : Fg 295147905179352825856 M0 M) : qP (qf_X0_scanLines_L4_b N i1 i2 i3 M) (pU (pU (fun r => Fg 295147905179352825856 M0 r.2) (fun r => Fg 295147905179352825856 M0 r.2)) (fun r => Fg 295147905179352825856 M0 r.2.2.2)) := by
  unfold qf_X0_scanLines_L4_b
  refine qP_ite ?_ ?_
  · exact qP_some h
  · refine qP_bind (fr_X0_scanLines_L18 _ h) (fun r1 k1 => ?_)
    rcases r1 with x1 | x1
    · exact qP_some k1
    · obtain ⟨y1_0, y1_1⟩ := x1
      have h1 : Fg _ _ y1_1 := k1
      exact qP_some h1
theorem fr_X0_scanLines_L4 (n : Nat) {N : Nat} {i1 i2 i3 : Int} {M M0 : qm} (h : Fg 295147905179352825856 M0 M) : qP (qf_X0_scanLines_L4 N n i1 i2 i3 M) (pU (fun r => Fg 295147905179352825856 M0 r.2) (fun r => Fg 295147905179352825856 M0 r.2)) := by
  unfold qf_X0_scanLines_L4
  exact qP_loop (I := fun s => Fg 295147905179352825856 M0 s.2.2.2) (fun s hs => fr_X0_scanLines_L4_b hs) n _ h
theorem fr_X0_scanLines {N : Nat} {i1 : Int} {M M0 : qm} (h : Fg 295147905179352825856 M0 M) : qP (qf_X0_scanLines N i1 M) (fun r => Fg 295147905179352825856 M0 r.2) := by
  unfold qf_X0_scanLines
  refine qP_bind (fr_X0_scanLines_L4 _ h) (fun r1 k1 => ?_)
  rcases r1 with x1 | x1
  · exact qP_some k1
  · obtain ⟨y1_0, y1_1⟩ := x1
    have h1 : Fg _ _ y1_1 := k1
    exact qP_some h1
theorem fr_X0_findPortals {N : Nat} {M M0 : qm} (h : Fg 2067764718512380051456 M0 M) : qP (qf_X0_findPortals N M) (fun r => Fg 2067764718512380051456 M0 r.2) := by
  unfold qf_X0_findPortals
  refine qP_bind (fr_X0_scanLines Fg_refl) (fun r1 k1 => ?_)
  have h1 := Fg_tr h (Fg_mono k1 rfl)
  refine qP_ite ?_ ?_
  · refine qP_bnd (m0 := _) (Fg_nw (k := 68) h1 (fun _ => rfl) rfl) (fun M2 h2 => ?_)
    refine qP_ite ?_ ?_
    · refine qP_bnd (m0 := _) (Fg_nw (k := 69) h2 (fun _ => rfl) rfl) (fun M3 h3 => ?_)
      refine qP_bnd (m0 := _) (Fg_w h3 rfl) (fun M4 h4 => ?_)
      refine qP_ite ?_ ?_
      · refine qP_bnd (m0 := _) (Fg_nw (k := 70) h4 (fun _ => rfl) rfl) (fun M5 h5 => ?_)
        refine qP_bnd (m0 := _) (Fg_w h5 rfl) (fun M6 h6 => ?_)
        refine qP_bind (fr_X0_scanLines Fg_refl) (fun r7 k7 => ?_)
        have h7 := Fg_tr h6 (Fg_mono k7 rfl)
        exact qP_some h7
      · exact qP_none
    · exact qP_none
  · exact qP_none
theorem fr_X11_build_J48 {N : Nat} {i1 t0 : Int} {M M0 : qm} (h : Fg 170141183460469233799506280824992432129 M0 M) : qP (qf_X11_build_J48 N i1 t0 M) (fun r => Fg 170141183460469233799506280824992432129 M0 r.2) := by
  unfold qf_X11_build_J48
  refine qP_pure (fun r1 => ?_)
  rcases r1 with x2 | x2
  · refine qP_bind (fr_X7_askAll Fg_refl) (fun r3 k3 => ?_)
    have h3 := Fg_tr h (Fg_mono k3 rfl)
    refine qP_pure (fun r4 => ?_)
    refine qP_ite ?_ ?_
    · refine qP_bnd (m0 := _) (Fg_w h3 rfl) (fun M5 h5 => ?_)
      refine qP_bind (fr_X10_numberCells Fg_refl) (fun r6 k6 => ?_)
      have h6 := Fg_tr h5 (Fg_mono k6 rfl)
      refine qP_bind (fr_X0_findPortals Fg_refl) (fun r7 k7 => ?_)
      have h7 := Fg_tr h6 (Fg_mono k7 rfl)
      refine qP_bnd (m0 := _) (Fg_w h7 rfl) (fun M8 h8 => ?_)
      exact qP_some h8
    · exact qP_some h3
  · exact qP_some h
theorem fr_X11_build_J47 {N : Nat} {i1 : Int} {M M0 : qm} (h : Fg 170141183460469233799506280824992432129 M0 M) : qP (qf_X11_build_J47 N i1 M) (fun r => Fg 170141183460469233799506280824992432129 M0 r.2) := by
  unfold qf_X11_build_J47
  exact (fr_X11_build_J48 h)
theorem fr_X11_build {N : Nat} {i1 : Int} {M M0 : qm} (h : Fg 170141183460469233799506280824992432129 M0 M) : qP (qf_X11_build N i1 M) (fun r => Fg 170141183460469233799506280824992432129 M0 r.2) := by
  unfold qf_X11_build
  refine qP_pure (fun r1 => ?_)
  refine qP_pure (fun r2 => ?_)
  rcases r2 with x3 | x3
  · refine qP_ite ?_ ?_
    · refine qP_ite ?_ ?_
      · exact (fr_X11_build_J47 h)
      · refine qP_pure (fun r4 => ?_)
        refine qP_ite ?_ ?_
        · exact (fr_X11_build_J47 h)
        · exact (fr_X11_build_J48 h)
    · exact (fr_X11_build_J47 h)
  · exact qP_some h
theorem fr_L_build {N : Nat} {i1 : Int} {M M0 : qm} (h : Fg 165263992197562149737978827008192759957101170741070304821162198818601447809077836456467443793389290445697309287080832008193 M0 M) : qP (qf_L_build N i1 M) (fun r => Fg 165263992197562149737978827008192759957101170741070304821162198818601447809077836456467443793389290445697309287080832008193 M0 r.2) := by
  unfold qf_L_build
  refine qP_bind (fr_X11_build Fg_refl) (fun r1 k1 => ?_)
  have h1 := Fg_tr h (Fg_mono k1 rfl)
  obtain ⟨x1, m1⟩ := r1
  rcases x1 with x1 | x1
  · have h1 : Fg _ _ m1 := h1
    refine qP_bnd (m0 := _) (Fg_wa (k := 406) h1 rfl rfl) (fun M2 h2 => ?_)
    exact qP_some h2
  · have h1 : Fg _ _ m1 := h1
    refine qP_ite ?_ ?_
    · exact qP_some h1
    · refine qP_ite ?_ ?_
      · exact qP_some h1
      · exact qP_none
theorem fr_X11_build_c_J48 {N : Nat} {i1 t0 : Int} {M M0 : qm} (h : Fg 215401199828992 M0 M) : qP (qf_X11_build_c_J48 N i1 t0 M) (fun r => Fg 215401199828992 M0 r.2) := by
  unfold qf_X11_build_c_J48
  refine qP_pure (fun r1 => ?_)
  rcases r1 with x2 | x2
  · refine qP_bind (fr_X7_askAll Fg_refl) (fun r3 k3 => ?_)
    have h3 := Fg_tr h (Fg_mono k3 rfl)
    refine qP_pure (fun r4 => ?_)
    refine qP_ite ?_ ?_
    · exact qP_none
    · exact qP_some h3
  · exact qP_some h
theorem fr_X11_build_c_J47 {N : Nat} {i1 : Int} {M M0 : qm} (h : Fg 215401199828992 M0 M) : qP (qf_X11_build_c_J47 N i1 M) (fun r => Fg 215401199828992 M0 r.2) := by
  unfold qf_X11_build_c_J47
  exact (fr_X11_build_c_J48 h)
theorem fr_X11_build_c {N : Nat} {i1 : Int} {M M0 : qm} (h : Fg 215401199828992 M0 M) : qP (qf_X11_build_c N i1 M) (fun r => Fg 215401199828992 M0 r.2) := by
  unfold qf_X11_build_c
  refine qP_pure (fun r1 => ?_)
  refine qP_pure (fun r2 => ?_)
  rcases r2 with x3 | x3
  · refine qP_ite ?_ ?_
    · refine qP_ite ?_ ?_
      · exact (fr_X11_build_c_J47 h)
      · refine qP_pure (fun r4 => ?_)
        refine qP_ite ?_ ?_
        · exact (fr_X11_build_c_J47 h)
        · exact (fr_X11_build_c_J48 h)
    · exact (fr_X11_build_c_J47 h)
  · exact qP_some h
theorem fr_L_build_c {N : Nat} {i1 : Int} {M M0 : qm} (h : Fg 165263992197562149737978827008192759957101170741070304821162198818601447809077836456297302609928821211897803221657039405056 M0 M) : qP (qf_L_build_c N i1 M) (fun r => Fg 165263992197562149737978827008192759957101170741070304821162198818601447809077836456297302609928821211897803221657039405056 M0 r.2) := by
  unfold qf_L_build_c
  refine qP_bind (fr_X11_build_c Fg_refl) (fun r1 k1 => ?_)
  have h1 := Fg_tr h (Fg_mono k1 rfl)
  obtain ⟨x1, m1⟩ := r1
  rcases x1 with x1 | x1
  · have h1 : Fg _ _ m1 := h1
    refine qP_bnd (m0 := _) (Fg_wa (k := 406) h1 rfl rfl) (fun M2 h2 => ?_)
    exact qP_some h2
  · have h1 : Fg _ _ m1 := h1
    refine qP_ite ?_ ?_
    · exact qP_some h1
    · refine qP_ite ?_ ?_
      · exact qP_some h1
      · exact qP_none
theorem fr_X18_build_L147_b {N : Nat} {i3 : Int} {M M0 : qm} (h : Fg 30986998542435156845919751155270389942184787437303800526344525357710070764039390293639472650722518226656026570471319273472 M0 M) : qP (qf_X18_build_L147_b N i3 M) (pU (pU (fun r => Fg 30986998542435156845919751155270389942184787437303800526344525357710070764039390293639472650722518226656026570471319273472 M0 r.2) (fun r => Fg 30986998542435156845919751155270389942184787437303800526344525357710070764039390293639472650722518226656026570471319273472 M0 r.2)) (fun r => Fg 30986998542435156845919751155270389942184787437303800526344525357710070764039390293639472650722518226656026570471319273472 M0 r.2)) := by
  unfold qf_X18_build_L147_b
  refine qP_ite ?_ ?_
  · exact qP_some h
  · refine qP_pure (fun r1 => ?_)
    refine qP_ite ?_ ?_
    · refine qP_bnd (m0 := _) (Fg_wa (k := 403) h rfl rfl) (fun M2 h2 => ?_)
      exact qP_some h2
    · exact qP_none
theorem fr_X18_build_L147 (n : Nat) {N : Nat} {i3 : Int} {M M0 : qm} (h : Fg 30986998542435156845919751155270389942184787437303800526344525357710070764039390293639472650722518226656026570471319273472 M0 M) : qP (qf_X18_build_L147 N n i3 M) (pU (fun r => Fg 30986998542435156845919751155270389942184787437303800526344525357710070764039390293639472650722518226656026570471319273472 M0 r.2) (fun r => Fg 30986998542435156845919751155270389942184787437303800526344525357710070764039390293639472650722518226656026570471319273472 M0 r.2)) := by
  unfold qf_X18_build_L147
  exact qP_loop (I := fun s => Fg 30986998542435156845919751155270389942184787437303800526344525357710070764039390293639472650722518226656026570471319273472 M0 s.2) (fun s hs => fr_X18_build_L147_b hs) n _ h
theorem fr_X18_portal {N : Nat} {i1 i2 i3 : Int} {M M0 : qm} (h : Fg 5392253770048721091234247450228317814854567132293502423143940094021978118957587677451610223751957256656243392512 M0 M) : qP (qf_X18_portal N i1 i2 i3 M) (fun r => Fg 5392253770048721091234247450228317814854567132293502423143940094021978118957587677451610223751957256656243392512 M0 r.2) := by
  unfold qf_X18_portal
  refine qP_pure (fun r1 => ?_)
  refine qP_pure (fun r2 => ?_)
  refine qP_pure (fun r3 => ?_)
  refine qP_pure (fun r4 => ?_)
  refine qP_ite ?_ ?_
  · exact qP_some h
  · refine qP_pure (fun r5 => ?_)
    refine qP_ite ?_ ?_
    · exact qP_some h
    · refine qP_ite ?_ ?_
      · refine qP_bnd (m0 := _) (Fg_wa (k := 363) h rfl rfl) (fun M6 h6 => ?_)
        refine qP_ite ?_ ?_
        · refine qP_bnd (m0 := _) (Fg_wa (k := 364) h6 rfl rfl) (fun M7 h7 => ?_)
          refine qP_ite ?_ ?_
          · refine qP_bnd (m0 := _) (Fg_wa (k := 365) h7 rfl rfl) (fun M8 h8 => ?_)
            refine qP_ite ?_ ?_
            · refine qP_bnd (m0 := _) (Fg_wa (k := 366) h8 rfl rfl) (fun M9 h9 => ?_)
              refine qP_pure (fun r10 => ?_)
              refine qP_ite ?_ ?_
              · refine qP_bnd (m0 := _) (Fg_wa (k := 367) h9 rfl rfl) (fun M11 h11 => ?_)
                refine qP_ite ?_ ?_
                · refine qP_bnd (m0 := _) (Fg_wa (k := 371) h11 rfl rfl) (fun M12 h12 => ?_)
                  refine qP_bnd (m0 := _) (Fg_w h12 rfl) (fun M13 h13 => ?_)
                  exact qP_some h13
                · exact qP_none
              · exact qP_none
            · exact qP_none
          · exact qP_none
        · exact qP_none
      · exact qP_none
theorem fr_X18_findPortals_L41_b {N : Nat} {i1 i2 i3 i4 : Int} {M M0 : qm} (h : Fg 5392253770048721091234247450228317814854567132293502423143940094021978118957587677451610223751957256656243392512 M0 M) : qP (qf_X18_findPortals_L41_b N i1 i2 i3 i4 M) (pU (pU (fun r => Fg 5392253770048721091234247450228317814854567132293502423143940094021978118957587677451610223751957256656243392512 M0 r.2) (fun r => Fg 5392253770048721091234247450228317814854567132293502423143940094021978118957587677451610223751957256656243392512 M0 r.2)) (fun r => Fg 5392253770048721091234247450228317814854567132293502423143940094021978118957587677451610223751957256656243392512 M0 r.2.2.2.2)) := by
  unfold qf_X18_findPortals_L41_b
  refine qP_ite ?_ ?_
  · exact qP_some h
  · refine qP_bind (fr_X18_portal Fg_refl) (fun r1 k1 => ?_)
    have h1 := Fg_tr h (Fg_mono k1 rfl)
    refine qP_pure (fun r2 => ?_)
    exact qP_some h1
theorem fr_X18_findPortals_L41 (n : Nat) {N : Nat} {i1 i2 i3 i4 : Int} {M M0 : qm} (h : Fg 5392253770048721091234247450228317814854567132293502423143940094021978118957587677451610223751957256656243392512 M0 M) : qP (qf_X18_findPortals_L41 N n i1 i2 i3 i4 M) (pU (fun r => Fg 5392253770048721091234247450228317814854567132293502423143940094021978118957587677451610223751957256656243392512 M0 r.2) (fun r => Fg 5392253770048721091234247450228317814854567132293502423143940094021978118957587677451610223751957256656243392512 M0 r.2)) := by
  unfold qf_X18_findPortals_L41
  exact qP_loop (I := fun s => Fg 5392253770048721091234247450228317814854567132293502423143940094021978118957587677451610223751957256656243392512 M0 s.2.2.2.2) (fun s hs => fr_X18_findPortals_L41_b hs) n _ h
theorem fr_X18_findPortals_L15_b {N : Nat} {i1 i2 : Int} {M M0 : qm} (h : Fg 5392253770048721091234247450228317814854567132293502423143940094021978118957587677451610223751957256656243392512 M0 M) : qP (qf_X18_findPortals_L15_b N i1 i2 M) (pU (pU (fun r => Fg 5392253770048721091234247450228317814854567132293502423143940094021978118957587677451610223751957256656243392512 M0 r.2) (fun r => Fg 5392253770048721091234247450228317814854567132293502423143940094021978118957587677451610223751957256656243392512 M0 r.2)) (fun r => Fg 5392253770048721091234247450228317814854567132293502423143940094021978118957587677451610223751957256656243392512 M0 r.2.2)) := by
  unfold qf_X18_findPortals_L15_b
  refine qP_ite ?_ ?_
  · refine qP_ite ?_ ?_
    · exact qP_some h
    · refine qP_pure (fun r1 => ?_)
      refine qP_bind (fr_X18_findPortals_L41 _ h) (fun r2 k2 => ?_)
      rcases r2 with x2 | x2
      · exact qP_some k2
      · obtain ⟨y2_0, y2_1⟩ := x2
        have h2 : Fg _ _ y2_1 := k2
        exact qP_some h2
  · exact qP_none
theorem fr_X18_findPortals_L15 (n : Nat) {N : Nat} {i1 i2 : Int} {M M0 : qm} (h : Fg 5392253770048721091234247450228317814854567132293502423143940094021978118957587677451610223751957256656243392512 M0 M) : qP (qf_X18_findPortals_L15 N n i1 i2 M) (pU (fun r => Fg 5392253770048721091234247450228317814854567132293502423143940094021978118957587677451610223751957256656243392512 M0 r.2) (fun r => Fg 5392253770048721091234247450228317814854567132293502423143940094021978118957587677451610223751957256656243392512 M0 r.2)) := by
  unfold qf_X18_findPortals_L15
  exact qP_loop (I := fun s => Fg 5392253770048721091234247450228317814854567132293502423143940094021978118957587677451610223751957256656243392512 M0 s.2.2) (fun s hs => fr_X18_findPortals_L15_b hs) n _ h
theorem fr_X18_findPortals_L2_b {N : Nat} {i1 : Int} {M M0 : qm} (h : Fg 5392253770048721091234247450228317814854567132293502423143940094021978118957587677451610223751957256656243392512 M0 M) : qP (qf_X18_findPortals_L2_b N i1 M) (pU (pU (fun r => Fg 5392253770048721091234247450228317814854567132293502423143940094021978118957587677451610223751957256656243392512 M0 r.2) (fun r => Fg 5392253770048721091234247450228317814854567132293502423143940094021978118957587677451610223751957256656243392512 M0 r.2)) (fun r => Fg 5392253770048721091234247450228317814854567132293502423143940094021978118957587677451610223751957256656243392512 M0 r.2)) := by
  unfold qf_X18_findPortals_L2_b
  refine qP_ite ?_ ?_
  · exact qP_some h
  · refine qP_bind (fr_X18_findPortals_L15 _ h) (fun r1 k1 => ?_)
    rcases r1 with x1 | x1
    · exact qP_some k1
    · obtain ⟨y1_0, y1_1⟩ := x1
      have h1 : Fg _ _ y1_1 := k1
      exact qP_some h1
theorem fr_X18_findPortals_L2 (n : Nat) {N : Nat} {i1 : Int} {M M0 : qm} (h : Fg 5392253770048721091234247450228317814854567132293502423143940094021978118957587677451610223751957256656243392512 M0 M) : qP (qf_X18_findPortals_L2 N n i1 M) (pU (fun r => Fg 5392253770048721091234247450228317814854567132293502423143940094021978118957587677451610223751957256656243392512 M0 r.2) (fun r => Fg 5392253770048721091234247450228317814854567132293502423143940094021978118957587677451610223751957256656243392512 M0 r.2)) := by
  unfold qf_X18_findPortals_L2
  exact qP_loop (I := fun s => Fg 5392253770048721091234247450228317814854567132293502423143940094021978118957587677451610223751957256656243392512 M0 s.2) (fun s hs => fr_X18_findPortals_L2_b hs) n _ h
theorem fr_X18_findPortals {N : Nat} {M M0 : qm} (h : Fg 5392253770048721091234247450228317814854567132293502423143940094021978118957587677451610223751957256656243392512 M0 M) : qP (qf_X18_findPortals N M) (fun r => Fg 5392253770048721091234247450228317814854567132293502423143940094021978118957587677451610223751957256656243392512 M0 r.2) := by
  unfold qf_X18_findPortals
  refine qP_bind (fr_X18_findPortals_L2 _ h) (fun r1 k1 => ?_)
  rcases r1 with x1 | x1
  · exact qP_some k1
  · obtain ⟨y1_0, y1_1⟩ := x1
    have h1 : Fg _ _ y1_1 := k1
    exact qP_some h1
theorem fr_X18_findWays_J77 {N : Nat} {i1 i2 i3 t0 : Int} {M M0 : qm} (h : Fg 10328999512347634358623676688012047497318823171316894051322637426162590488067364778518581413120551325743612687890989973504 M0 M) : qP (qf_X18_findWays_J77 N i1 i2 i3 t0 M) (pU (pU (fun r => Fg 10328999512347634358623676688012047497318823171316894051322637426162590488067364778518581413120551325743612687890989973504 M0 r.2) (fun r => Fg 10328999512347634358623676688012047497318823171316894051322637426162590488067364778518581413120551325743612687890989973504 M0 r.2)) (fun r => Fg 10328999512347634358623676688012047497318823171316894051322637426162590488067364778518581413120551325743612687890989973504 M0 r.2.2.2)) := by
  unfold qf_X18_findWays_J77
  refine qP_ite ?_ ?_
  · refine qP_ite ?_ ?_
    · refine qP_ite ?_ ?_
      · refine qP_bnd (m0 := _) (Fg_wa (k := 402) h rfl rfl) (fun M1 h1 => ?_)
        exact qP_some h1
      · exact qP_none
    · exact qP_none
  · refine qP_ite ?_ ?_
    · refine qP_bnd (m0 := _) (Fg_wa (k := 402) h rfl rfl) (fun M2 h2 => ?_)
      exact qP_some h2
    · exact qP_none
theorem fr_X18_findWays_J76 {N : Nat} {i1 i2 i3 : Int} {M M0 : qm} (h : Fg 10328999512347634358623676688012047497318823171316894051322637426162590488067364778518581413120551325743612687890989973504 M0 M) : qP (qf_X18_findWays_J76 N i1 i2 i3 M) (pU (pU (fun r => Fg 10328999512347634358623676688012047497318823171316894051322637426162590488067364778518581413120551325743612687890989973504 M0 r.2) (fun r => Fg 10328999512347634358623676688012047497318823171316894051322637426162590488067364778518581413120551325743612687890989973504 M0 r.2)) (fun r => Fg 10328999512347634358623676688012047497318823171316894051322637426162590488067364778518581413120551325743612687890989973504 M0 r.2.2.2)) := by
  unfold qf_X18_findWays_J76
  exact (fr_X18_findWays_J77 h)
theorem fr_X18_findWays_L13_b {N : Nat} {i1 i2 i3 : Int} {M M0 : qm} (h : Fg 10328999512347634358623676688012047497318823171316894051322637426162590488067364778518581413120551325743612687890989973504 M0 M) : qP (qf_X18_findWays_L13_b N i1 i2 i3 M) (pU (pU (fun r => Fg 10328999512347634358623676688012047497318823171316894051322637426162590488067364778518581413120551325743612687890989973504 M0 r.2) (fun r => Fg 10328999512347634358623676688012047497318823171316894051322637426162590488067364778518581413120551325743612687890989973504 M0 r.2)) (fun r => Fg 10328999512347634358623676688012047497318823171316894051322637426162590488067364778518581413120551325743612687890989973504 M0 r.2.2.2)) := by
  unfold qf_X18_findWays_L13_b
  refine qP_ite ?_ ?_
  · exact qP_some h
  · refine qP_pure (fun r1 => ?_)
    refine qP_ite ?_ ?_
    · refine qP_pure (fun r2 => ?_)
      refine qP_pure (fun r3 => ?_)
      refine qP_pure (fun r4 => ?_)
      refine qP_ite ?_ ?_
      · exact (fr_X18_findWays_J76 h)
      · refine qP_pure (fun r5 => ?_)
        refine qP_ite ?_ ?_
        · exact (fr_X18_findWays_J76 h)
        · exact (fr_X18_findWays_J77 h)
    · exact qP_some h
theorem fr_X18_findWays_L13 (n : Nat) {N : Nat} {i1 i2 i3 : Int} {M M0 : qm} (h : Fg 10328999512347634358623676688012047497318823171316894051322637426162590488067364778518581413120551325743612687890989973504 M0 M) : qP (qf_X18_findWays_L13 N n i1 i2 i3 M) (pU (fun r => Fg 10328999512347634358623676688012047497318823171316894051322637426162590488067364778518581413120551325743612687890989973504 M0 r.2) (fun r => Fg 10328999512347634358623676688012047497318823171316894051322637426162590488067364778518581413120551325743612687890989973504 M0 r.2)) := by
  unfold qf_X18_findWays_L13
  exact qP_loop (I := fun s => Fg 10328999512347634358623676688012047497318823171316894051322637426162590488067364778518581413120551325743612687890989973504 M0 s.2.2.2) (fun s hs => fr_X18_findWays_L13_b hs) n _ h
theorem fr_X18_findWays_L4_b {N : Nat} {i1 i2 : Int} {M M0 : qm} (h : Fg 10328999512347634358623676688012047497318823171316894051322637426162590488067364778518581413120551325743612687890989973504 M0 M) : qP (qf_X18_findWays_L4_b N i1 i2 M) (pU (pU (fun r => Fg 10328999512347634358623676688012047497318823171316894051322637426162590488067364778518581413120551325743612687890989973504 M0 r.2) (fun r => Fg 10328999512347634358623676688012047497318823171316894051322637426162590488067364778518581413120551325743612687890989973504 M0 r.2)) (fun r => Fg 10328999512347634358623676688012047497318823171316894051322637426162590488067364778518581413120551325743612687890989973504 M0 r.2.2)) := by
  unfold qf_X18_findWays_L4_b
  refine qP_ite ?_ ?_
  · exact qP_some h
  · refine qP_bind (fr_X18_findWays_L13 _ h) (fun r1 k1 => ?_)
    rcases r1 with x1 | x1
    · exact qP_some k1
    · obtain ⟨y1_0, y1_1⟩ := x1
      have h1 : Fg _ _ y1_1 := k1
      exact qP_some h1
theorem fr_X18_findWays_L4 (n : Nat) {N : Nat} {i1 i2 : Int} {M M0 : qm} (h : Fg 10328999512347634358623676688012047497318823171316894051322637426162590488067364778518581413120551325743612687890989973504 M0 M) : qP (qf_X18_findWays_L4 N n i1 i2 M) (pU (fun r => Fg 10328999512347634358623676688012047497318823171316894051322637426162590488067364778518581413120551325743612687890989973504 M0 r.2) (fun r => Fg 10328999512347634358623676688012047497318823171316894051322637426162590488067364778518581413120551325743612687890989973504 M0 r.2)) := by
  unfold qf_X18_findWays_L4
  exact qP_loop (I := fun s => Fg 10328999512347634358623676688012047497318823171316894051322637426162590488067364778518581413120551325743612687890989973504 M0 s.2.2) (fun s hs => fr_X18_findWays_L4_b hs) n _ h
theorem fr_X18_findWays_J242 {N : Nat} {i2 i3 i6 : Int} {M M0 : qm} (h : Fg 10328999512347634358623676688012047497318823171316894051322637426162590488067364778518581413120551325743612687890989973504 M0 M) : qP (qf_X18_findWays_J242 N i2 i3 i6 M) (pU (pU (fun r => Fg 10328999512347634358623676688012047497318823171316894051322637426162590488067364778518581413120551325743612687890989973504 M0 r.2) (fun r => Fg 10328999512347634358623676688012047497318823171316894051322637426162590488067364778518581413120551325743612687890989973504 M0 r.2)) (fun r => Fg 10328999512347634358623676688012047497318823171316894051322637426162590488067364778518581413120551325743612687890989973504 M0 r.2.2.2)) := by
  unfold qf_X18_findWays_J242
  refine qP_ite ?_ ?_
  · refine qP_bnd (m0 := _) (Fg_wa (k := 402) h rfl rfl) (fun M1 h1 => ?_)
    exact qP_some h1
  · exact qP_none
theorem fr_X18_findWays_J213 {N : Nat} {i1 i2 i3 t0 : Int} {M M0 : qm} (h : Fg 10328999512347634358623676688012047497318823171316894051322637426162590488067364778518581413120551325743612687890989973504 M0 M) : qP (qf_X18_findWays_J213 N i1 i2 i3 t0 M) (pU (pU (fun r => Fg 10328999512347634358623676688012047497318823171316894051322637426162590488067364778518581413120551325743612687890989973504 M0 r.2) (fun r => Fg 10328999512347634358623676688012047497318823171316894051322637426162590488067364778518581413120551325743612687890989973504 M0 r.2)) (fun r => Fg 10328999512347634358623676688012047497318823171316894051322637426162590488067364778518581413120551325743612687890989973504 M0 r.2.2.2)) := by
  unfold qf_X18_findWays_J213
  refine qP_ite ?_ ?_
  · exact qP_some h
  · refine qP_ite ?_ ?_
    · refine qP_ite ?_ ?_
      · exact (fr_X18_findWays_J242 h)
      · refine qP_ite ?_ ?_
        · refine qP_ite ?_ ?_
          · exact qP_some h
          · exact (fr_X18_findWays_J242 h)
        · exact qP_none
    · exact qP_none
theorem fr_X18_findWays_J196 {N : Nat} {i1 i2 i3 : Int} {M M0 : qm} (h : Fg 10328999512347634358623676688012047497318823171316894051322637426162590488067364778518581413120551325743612687890989973504 M0 M) : qP (qf_X18_findWays_J196 N i1 i2 i3 M) (pU (pU (fun r => Fg 10328999512347634358623676688012047497318823171316894051322637426162590488067364778518581413120551325743612687890989973504 M0 r.2) (fun r => Fg 10328999512347634358623676688012047497318823171316894051322637426162590488067364778518581413120551325743612687890989973504 M0 r.2)) (fun r => Fg 10328999512347634358623676688012047497318823171316894051322637426162590488067364778518581413120551325743612687890989973504 M0 r.2.2.2)) := by
  unfold qf_X18_findWays_J196
  exact (fr_X18_findWays_J213 h)
theorem fr_X18_findWays_L129_b {N : Nat} {i1 i2 i3 : Int} {M M0 : qm} (h : Fg 10328999512347634358623676688012047497318823171316894051322637426162590488067364778518581413120551325743612687890989973504 M0 M) : qP (qf_X18_findWays_L129_b N i1 i2 i3 M) (pU (pU (fun r => Fg 10328999512347634358623676688012047497318823171316894051322637426162590488067364778518581413120551325743612687890989973504 M0 r.2) (fun r => Fg 10328999512347634358623676688012047497318823171316894051322637426162590488067364778518581413120551325743612687890989973504 M0 r.2)) (fun r => Fg 10328999512347634358623676688012047497318823171316894051322637426162590488067364778518581413120551325743612687890989973504 M0 r.2.2.2)) := by
  unfold qf_X18_findWays_L129_b
  refine qP_ite ?_ ?_
  · exact qP_some h
  · refine qP_pure (fun r1 => ?_)
    refine qP_ite ?_ ?_
    · refine qP_pure (fun r2 => ?_)
      refine qP_pure (fun r3 => ?_)
      refine qP_pure (fun r4 => ?_)
      refine qP_ite ?_ ?_
      · refine qP_pure (fun r5 => ?_)
        refine qP_ite ?_ ?_
        · exact (fr_X18_findWays_J196 h)
        · refine qP_ite ?_ ?_
          · exact (fr_X18_findWays_J213 h)
          · exact qP_none
      · exact (fr_X18_findWays_J196 h)
    · exact qP_some h
theorem fr_X18_findWays_L129 (n : Nat) {N : Nat} {i1 i2 i3 : Int} {M M0 : qm} (h : Fg 10328999512347634358623676688012047497318823171316894051322637426162590488067364778518581413120551325743612687890989973504 M0 M) : qP (qf_X18_findWays_L129 N n i1 i2 i3 M) (pU (fun r => Fg 10328999512347634358623676688012047497318823171316894051322637426162590488067364778518581413120551325743612687890989973504 M0 r.2) (fun r => Fg 10328999512347634358623676688012047497318823171316894051322637426162590488067364778518581413120551325743612687890989973504 M0 r.2)) := by
  unfold qf_X18_findWays_L129
  exact qP_loop (I := fun s => Fg 10328999512347634358623676688012047497318823171316894051322637426162590488067364778518581413120551325743612687890989973504 M0 s.2.2.2) (fun s hs => fr_X18_findWays_L129_b hs) n _ h
theorem fr_X18_findWays_L120_b {N : Nat} {i1 i2 : Int} {M M0 : qm} (h : Fg 10328999512347634358623676688012047497318823171316894051322637426162590488067364778518581413120551325743612687890989973504 M0 M) : qP (qf_X18_findWays_L120_b N i1 i2 M) (pU (pU (fun r => Fg 10328999512347634358623676688012047497318823171316894051322637426162590488067364778518581413120551325743612687890989973504 M0 r.2) (fun r => Fg 10328999512347634358623676688012047497318823171316894051322637426162590488067364778518581413120551325743612687890989973504 M0 r.2)) (fun r => Fg 10328999512347634358623676688012047497318823171316894051322637426162590488067364778518581413120551325743612687890989973504 M0 r.2.2)) := by
  unfold qf_X18_findWays_L120_b
  refine qP_ite ?_ ?_
  · exact qP_some h
  · refine qP_bind (fr_X18_findWays_L129 _ h) (fun r1 k1 => ?_)
    rcases r1 with x1 | x1
    · exact qP_some k1
    · obtain ⟨y1_0, y1_1⟩ := x1
      have h1 : Fg _ _ y1_1 := k1
      exact qP_some h1
theorem fr_X18_findWays_L120 (n : Nat) {N : Nat} {i1 i2 : Int} {M M0 : qm} (h : Fg 10328999512347634358623676688012047497318823171316894051322637426162590488067364778518581413120551325743612687890989973504 M0 M) : qP (qf_X18_findWays_L120 N n i1 i2 M) (pU (fun r => Fg 10328999512347634358623676688012047497318823171316894051322637426162590488067364778518581413120551325743612687890989973504 M0 r.2) (fun r => Fg 10328999512347634358623676688012047497318823171316894051322637426162590488067364778518581413120551325743612687890989973504 M0 r.2)) := by
  unfold qf_X18_findWays_L120
  exact qP_loop (I := fun s => Fg 10328999512347634358623676688012047497318823171316894051322637426162590488067364778518581413120551325743612687890989973504 M0 s.2.2) (fun s hs => fr_X18_findWays_L120_b hs) n _ h
theorem fr_X18_findWays_L112_b {N : Nat} {i1 : Int} {M M0 : qm} (h : Fg 10328999512347634358623676688012047497318823171316894051322637426162590488067364778518581413120551325743612687890989973504 M0 M) : qP (qf_X18_findWays_L112_b N i1 M) (pU (pU (fun r => Fg 10328999512347634358623676688012047497318823171316894051322637426162590488067364778518581413120551325743612687890989973504 M0 r.2) (fun r => Fg 10328999512347634358623676688012047497318823171316894051322637426162590488067364778518581413120551325743612687890989973504 M0 r.2)) (fun r => Fg 10328999512347634358623676688012047497318823171316894051322637426162590488067364778518581413120551325743612687890989973504 M0 r.2)) := by
  unfold qf_X18_findWays_L112_b
  refine qP_ite ?_ ?_
  · exact qP_some h
  · refine qP_bind (fr_X18_findWays_L120 _ h) (fun r1 k1 => ?_)
    rcases r1 with x1 | x1
    · exact qP_some k1
    · obtain ⟨y1_0, y1_1⟩ := x1
      have h1 : Fg _ _ y1_1 := k1
      exact qP_some h1
theorem fr_X18_findWays_L112 (n : Nat) {N : Nat} {i1 : Int} {M M0 : qm} (h : Fg 10328999512347634358623676688012047497318823171316894051322637426162590488067364778518581413120551325743612687890989973504 M0 M) : qP (qf_X18_findWays_L112 N n i1 M) (pU (fun r => Fg 10328999512347634358623676688012047497318823171316894051322637426162590488067364778518581413120551325743612687890989973504 M0 r.2) (fun r => Fg 10328999512347634358623676688012047497318823171316894051322637426162590488067364778518581413120551325743612687890989973504 M0 r.2)) := by
  unfold qf_X18_findWays_L112
  exact qP_loop (I := fun s => Fg 10328999512347634358623676688012047497318823171316894051322637426162590488067364778518581413120551325743612687890989973504 M0 s.2) (fun s hs => fr_X18_findWays_L112_b hs) n _ h
theorem fr_X18_findWays {N : Nat} {M M0 : qm} (h : Fg 10328999512347634358623676688012047497318823171316894051322637426162590488067364778518581413120551325743612687890989973504 M0 M) : qP (qf_X18_findWays N M) (fun r => Fg 10328999512347634358623676688012047497318823171316894051322637426162590488067364778518581413120551325743612687890989973504 M0 r.2) := by
  unfold qf_X18_findWays
  refine qP_bind (fr_X18_findWays_L4 _ h) (fun r1 k1 => ?_)
  rcases r1 with x1 | x1
  · exact qP_some k1
  · obtain ⟨y1_0, y1_1⟩ := x1
    have h1 : Fg _ _ y1_1 := k1
    refine qP_bind (fr_X18_findWays_L112 _ h1) (fun r2 k2 => ?_)
    rcases r2 with x2 | x2
    · exact qP_some k2
    · obtain ⟨y2_0, y2_1⟩ := x2
      have h2 : Fg _ _ y2_1 := k2
      exact qP_some h2
theorem fr_X18_build_J49 {N : Nat} {i1 t1 t2 : Int} {M M0 : qm} (h : Fg 30986998542435156845919751155270389942184787437303800526344525357710070764039390293639472650722518226656026570471319273472 M0 M) : qP (qf_X18_build_J49 N i1 t1 t2 M) (fun r => Fg 30986998542435156845919751155270389942184787437303800526344525357710070764039390293639472650722518226656026570471319273472 M0 r.2) := by
  unfold qf_X18_build_J49
  refine qP_bind (fr_X18_goes Fg_refl) (fun r1 k1 => ?_)
  have h1 := Fg_tr h (Fg_mono k1 rfl)
  refine qP_ite ?_ ?_
  · exact qP_some h1
  · refine qP_bind (fr_X15_run Fg_refl) (fun r2 k2 => ?_)
    have h2 := Fg_tr h1 (Fg_mono k2 rfl)
    refine qP_pure (fun r3 => ?_)
    rcases r3 with x4 | x4
    · exact qP_some h2
    · refine qP_bnd (m0 := _) (Fg_w h2 rfl) (fun M5 h5 => ?_)
      refine qP_bnd (m0 := _) (Fg_w h5 rfl) (fun M6 h6 => ?_)
      refine qP_bnd (m0 := _) (Fg_w h6 rfl) (fun M7 h7 => ?_)
      refine qP_bind (fr_X18_build_L147 _ h7) (fun r8 k8 => ?_)
      rcases r8 with x8 | x8
      · exact qP_some k8
      · obtain ⟨y8_0, y8_1⟩ := x8
        have h8 : Fg _ _ y8_1 := k8
        refine qP_bind (fr_X18_findPortals Fg_refl) (fun r9 k9 => ?_)
        have h9 := Fg_tr h8 (Fg_mono k9 rfl)
        refine qP_bind (fr_X18_findWays Fg_refl) (fun r10 k10 => ?_)
        have h10 := Fg_tr h9 (Fg_mono k10 rfl)
        exact qP_some h10
theorem fr_X18_build_J48 {N : Nat} {i1 t1 : Int} {M M0 : qm} (h : Fg 30986998542435156845919751155270389942184787437303800526344525357710070764039390293639472650722518226656026570471319273472 M0 M) : qP (qf_X18_build_J48 N i1 t1 M) (fun r => Fg 30986998542435156845919751155270389942184787437303800526344525357710070764039390293639472650722518226656026570471319273472 M0 r.2) := by
  unfold qf_X18_build_J48
  exact (fr_X18_build_J49 h)
theorem fr_X18_build {N : Nat} {i1 : Int} {M M0 : qm} (h : Fg 30986998542435156845919751155270389942184787437303800526344525357710070764039390293639472650722518226656026570471319273472 M0 M) : qP (qf_X18_build N i1 M) (fun r => Fg 30986998542435156845919751155270389942184787437303800526344525357710070764039390293639472650722518226656026570471319273472 M0 r.2) := by
  unfold qf_X18_build
  refine qP_pure (fun r1 => ?_)
  refine qP_ite ?_ ?_
  · refine qP_ite ?_ ?_
    · exact (fr_X18_build_J48 h)
    · refine qP_ite ?_ ?_
      · exact (fr_X18_build_J48 h)
      · refine qP_ite ?_ ?_
        · exact (fr_X18_build_J48 h)
        · exact (fr_X18_build_J49 h)
  · exact (fr_X18_build_J48 h)
theorem fr_L_portal {N : Nat} {i1 i2 : Int} {M M0 : qm} (h : Fg 165263992197562149737978827008192759957101170741070304821162198818601447809077836456297302609928821211897803006255839576064 M0 M) : qP (qf_L_portal N i1 i2 M) (fun r => Fg 165263992197562149737978827008192759957101170741070304821162198818601447809077836456297302609928821211897803006255839576064 M0 r.2) := by
  unfold qf_L_portal
  refine qP_pure (fun r1 => ?_)
  rcases r1 with x2 | x2
  · refine qP_bnd (m0 := _) (Fg_wa (k := 406) h rfl rfl) (fun M3 h3 => ?_)
    exact qP_some h3
  · refine qP_ite ?_ ?_
    · exact qP_some h
    · refine qP_ite ?_ ?_
      · exact qP_some h
      · exact qP_none
theorem fr_X18_portal__J26 {N : Nat} {i1 i2 t1 : Int} {M M0 : qm} (h : Fg 1461501637330902918203684832716283019655932542976 M0 M) : qP (qf_X18_portal__J26 N i1 i2 t1 M) (fun r => Fg 1461501637330902918203684832716283019655932542976 M0 r.2) := by
  unfold qf_X18_portal__J26
  refine qP_bind (fr_X18_goes Fg_refl) (fun r1 k1 => ?_)
  have h1 := Fg_tr h (Fg_mono k1 rfl)
  refine qP_ite ?_ ?_
  · exact qP_some h1
  · refine qP_ite ?_ ?_
    · refine qP_ite ?_ ?_
      · exact qP_some h1
      · exact qP_none
    · refine qP_ite ?_ ?_
      · refine qP_ite ?_ ?_
        · exact qP_some h1
        · exact qP_none
      · refine qP_ite ?_ ?_
        · refine qP_ite ?_ ?_
          · exact qP_some h1
          · exact qP_none
        · refine qP_ite ?_ ?_
          · refine qP_ite ?_ ?_
            · exact qP_some h1
            · exact qP_none
          · refine qP_ite ?_ ?_
            · refine qP_ite ?_ ?_
              · refine qP_ite ?_ ?_
                · refine qP_pure (fun r2 => ?_)
                  exact qP_some h1
                · refine qP_pure (fun r3 => ?_)
                  exact qP_some h1
              · exact qP_none
            · exact qP_none
theorem fr_X18_portal__J25 {N : Nat} {i1 i2 : Int} {M M0 : qm} (h : Fg 1461501637330902918203684832716283019655932542976 M0 M) : qP (qf_X18_portal__J25 N i1 i2 M) (fun r => Fg 1461501637330902918203684832716283019655932542976 M0 r.2) := by
  unfold qf_X18_portal__J25
  exact (fr_X18_portal__J26 h)
theorem fr_X18_portal_ {N : Nat} {i1 i2 : Int} {M M0 : qm} (h : Fg 1461501637330902918203684832716283019655932542976 M0 M) : qP (qf_X18_portal_ N i1 i2 M) (fun r => Fg 1461501637330902918203684832716283019655932542976 M0 r.2) := by
  unfold qf_X18_portal_
  refine qP_pure (fun r1 => ?_)
  refine qP_ite ?_ ?_
  · exact (fr_X18_portal__J25 h)
  · refine qP_pure (fun r2 => ?_)
    refine qP_ite ?_ ?_
    · exact (fr_X18_portal__J25 h)
    · exact (fr_X18_portal__J26 h)
theorem fr_X10_addPerson {N : Nat} {i1 i2 : Int} {M M0 : qm} (h : Fg 74309393851613184 M0 M) : qP (qf_X10_addPerson N i1 i2 M) (fun r => Fg 74309393851613184 M0 r.2) := by
  unfold qf_X10_addPerson
  refine qP_ite ?_ ?_
  · refine qP_ite ?_ ?_
    · refine qP_pure (fun r1 => ?_)
      refine qP_bnd (m0 := _) (Fg_wa (k := 56) h rfl rfl) (fun M2 h2 => ?_)
      refine qP_bnd (m0 := _) (Fg_wa (k := 56) h2 rfl rfl) (fun M3 h3 => ?_)
      refine qP_bnd (m0 := _) (Fg_wa (k := 56) h3 rfl rfl) (fun M4 h4 => ?_)
      refine qP_bnd (m0 := _) (Fg_wa (k := 56) h4 rfl rfl) (fun M5 h5 => ?_)
      refine qP_bnd (m0 := _) (Fg_wa (k := 56) h5 rfl rfl) (fun M6 h6 => ?_)
      refine qP_bnd (m0 := _) (Fg_wa (k := 56) h6 rfl rfl) (fun M7 h7 => ?_)
      refine qP_bnd (m0 := _) (Fg_w h7 rfl) (fun M8 h8 => ?_)
      exact qP_some h8
    · exact qP_none
  · exact qP_some h
theorem fr_X11_person_J51 {N : Nat} {i1 i2 t0 : Int} {M M0 : qm} (h : Fg 74309393851613184 M0 M) : qP (qf_X11_person_J51 N i1 i2 t0 M) (fun r => Fg 74309393851613184 M0 r.2) := by
  unfold qf_X11_person_J51
  refine qP_pure (fun r1 => ?_)
  rcases r1 with x2 | x2
  · refine qP_bind (fr_X10_addPerson Fg_refl) (fun r3 k3 => ?_)
    have h3 := Fg_tr h (Fg_mono k3 rfl)
    exact qP_some h3
  · exact qP_some h
theorem fr_X11_person_J50 {N : Nat} {i1 i2 : Int} {M M0 : qm} (h : Fg 74309393851613184 M0 M) : qP (qf_X11_person_J50 N i1 i2 M) (fun r => Fg 74309393851613184 M0 r.2) := by
  unfold qf_X11_person_J50
  exact (fr_X11_person_J51 h)
theorem fr_X11_person_J24 {N : Nat} {i1 i2 t0 : Int} {M M0 : qm} (h : Fg 74309393851613184 M0 M) : qP (qf_X11_person_J24 N i1 i2 t0 M) (fun r => Fg 74309393851613184 M0 r.2) := by
  unfold qf_X11_person_J24
  refine qP_pure (fun r1 => ?_)
  rcases r1 with x2 | x2
  · refine qP_ite ?_ ?_
    · exact (fr_X11_person_J50 h)
    · refine qP_ite ?_ ?_
      · exact (fr_X11_person_J50 h)
      · exact (fr_X11_person_J51 h)
  · exact qP_some h
theorem fr_X11_person_J23 {N : Nat} {i1 i2 : Int} {M M0 : qm} (h : Fg 74309393851613184 M0 M) : qP (qf_X11_person_J23 N i1 i2 M) (fun r => Fg 74309393851613184 M0 r.2) := by
  unfold qf_X11_person_J23
  exact (fr_X11_person_J24 h)
theorem fr_X11_person {N : Nat} {i1 i2 : Int} {M M0 : qm} (h : Fg 74309393851613184 M0 M) : qP (qf_X11_person N i1 i2 M) (fun r => Fg 74309393851613184 M0 r.2) := by
  unfold qf_X11_person
  refine qP_pure (fun r1 => ?_)
  refine qP_ite ?_ ?_
  · exact (fr_X11_person_J23 h)
  · refine qP_pure (fun r2 => ?_)
    refine qP_ite ?_ ?_
    · exact (fr_X11_person_J23 h)
    · exact (fr_X11_person_J24 h)
theorem fr_L_person {N : Nat} {i1 i2 : Int} {M M0 : qm} (h : Fg 165263992197562149737978827008192759957101170741070304821162198818601447809077836456297302609928821211897877315649691189248 M0 M) : qP (qf_L_person N i1 i2 M) (fun r => Fg 165263992197562149737978827008192759957101170741070304821162198818601447809077836456297302609928821211897877315649691189248 M0 r.2) := by
  unfold qf_L_person
  refine qP_bind (fr_X11_person Fg_refl) (fun r1 k1 => ?_)
  have h1 := Fg_tr h (Fg_mono k1 rfl)
  obtain ⟨x1, m1⟩ := r1
  rcases x1 with x1 | x1
  · have h1 : Fg _ _ m1 := h1
    refine qP_bnd (m0 := _) (Fg_wa (k := 406) h1 rfl rfl) (fun M2 h2 => ?_)
    exact qP_some h2
  · have h1 : Fg _ _ m1 := h1
    refine qP_ite ?_ ?_
    · exact qP_some h1
    · refine qP_ite ?_ ?_
      · exact qP_some h1
      · exact qP_none
theorem fr_X18_person_J46 {N : Nat} {i1 i2 t1 t2 : Int} {M M0 : qm} (h : Fg 38786349849575815474587180098578869839375368344364424063761601319899379975244075385294157858778897230196660043251712 M0 M) : qP (qf_X18_person_J46 N i1 i2 t1 t2 M) (fun r => Fg 38786349849575815474587180098578869839375368344364424063761601319899379975244075385294157858778897230196660043251712 M0 r.2) := by
  unfold qf_X18_person_J46
  refine qP_bind (fr_X18_goes Fg_refl) (fun r1 k1 => ?_)
  have h1 := Fg_tr h (Fg_mono k1 rfl)
  refine qP_ite ?_ ?_
  · exact qP_some h1
  · refine qP_ite ?_ ?_
    · refine qP_bnd (m0 := _) (Fg_wa (k := 378) h1 rfl rfl) (fun M2 h2 => ?_)
      refine qP_ite ?_ ?_
      · refine qP_bnd (m0 := _) (Fg_wa (k := 379) h2 rfl rfl) (fun M3 h3 => ?_)
        refine qP_ite ?_ ?_
        · refine qP_bnd (m0 := _) (Fg_wa (k := 380) h3 rfl rfl) (fun M4 h4 => ?_)
          refine qP_ite ?_ ?_
          · refine qP_bnd (m0 := _) (Fg_wa (k := 381) h4 rfl rfl) (fun M5 h5 => ?_)
            refine qP_ite ?_ ?_
            · refine qP_bnd (m0 := _) (Fg_wa (k := 382) h5 rfl rfl) (fun M6 h6 => ?_)
              refine qP_ite ?_ ?_
              · refine qP_bnd (m0 := _) (Fg_wa (k := 383) h6 rfl rfl) (fun M7 h7 => ?_)
                refine qP_bnd (m0 := _) (Fg_w h7 rfl) (fun M8 h8 => ?_)
                exact qP_some h8
              · exact qP_none
            · exact qP_none
          · exact qP_none
        · exact qP_none
      · exact qP_none
    · exact qP_none
theorem fr_X18_person_J45 {N : Nat} {i1 i2 t1 : Int} {M M0 : qm} (h : Fg 38786349849575815474587180098578869839375368344364424063761601319899379975244075385294157858778897230196660043251712 M0 M) : qP (qf_X18_person_J45 N i1 i2 t1 M) (fun r => Fg 38786349849575815474587180098578869839375368344364424063761601319899379975244075385294157858778897230196660043251712 M0 r.2) := by
  unfold qf_X18_person_J45
  exact (fr_X18_person_J46 h)
theorem fr_X18_person_J25 {N : Nat} {i1 i2 t1 : Int} {M M0 : qm} (h : Fg 38786349849575815474587180098578869839375368344364424063761601319899379975244075385294157858778897230196660043251712 M0 M) : qP (qf_X18_person_J25 N i1 i2 t1 M) (fun r => Fg 38786349849575815474587180098578869839375368344364424063761601319899379975244075385294157858778897230196660043251712 M0 r.2) := by
  unfold qf_X18_person_J25
  refine qP_ite ?_ ?_
  · exact (fr_X18_person_J45 h)
  · refine qP_ite ?_ ?_
    · exact (fr_X18_person_J45 h)
    · exact (fr_X18_person_J46 h)
theorem fr_X18_person_J24 {N : Nat} {i1 i2 : Int} {M M0 : qm} (h : Fg 38786349849575815474587180098578869839375368344364424063761601319899379975244075385294157858778897230196660043251712 M0 M) : qP (qf_X18_person_J24 N i1 i2 M) (fun r => Fg 38786349849575815474587180098578869839375368344364424063761601319899379975244075385294157858778897230196660043251712 M0 r.2) := by
  unfold qf_X18_person_J24
  exact (fr_X18_person_J25 h)
theorem fr_X18_person {N : Nat} {i1 i2 : Int} {M M0 : qm} (h : Fg 38786349849575815474587180098578869839375368344364424063761601319899379975244075385294157858778897230196660043251712 M0 M) : qP (qf_X18_person N i1 i2 M) (fun r => Fg 38786349849575815474587180098578869839375368344364424063761601319899379975244075385294157858778897230196660043251712 M0 r.2) := by
  unfold qf_X18_person
  refine qP_pure (fun r1 => ?_)
  refine qP_ite ?_ ?_
  · exact (fr_X18_person_J24 h)
  · refine qP_ite ?_ ?_
    · exact (fr_X18_person_J24 h)
    · refine qP_ite ?_ ?_
      · exact (fr_X18_person_J24 h)
      · exact (fr_X18_person_J25 h)
theorem fr_X0_addCard {N : Nat} {i1 i2 : Int} {M M0 : qm} (h : Fg 2372712456480891076608 M0 M) : qP (qf_X0_addCard N i1 i2 M) (fun r => Fg 2372712456480891076608 M0 r.2) := by
  unfold qf_X0_addCard
  refine qP_ite ?_ ?_
  · refine qP_ite ?_ ?_
    · refine qP_bnd (m0 := _) (Fg_wa (k := 71) h rfl rfl) (fun M1 h1 => ?_)
      refine qP_bnd (m0 := _) (Fg_wa (k := 71) h1 rfl rfl) (fun M2 h2 => ?_)
      refine qP_bnd (m0 := _) (Fg_wa (k := 71) h2 rfl rfl) (fun M3 h3 => ?_)
      refine qP_bnd (m0 := _) (Fg_w h3 rfl) (fun M4 h4 => ?_)
      refine qP_bnd (m0 := _) (Fg_w h4 rfl) (fun M5 h5 => ?_)
      exact qP_some h5
    · exact qP_none
  · exact qP_some h
theorem fr_X11_card_J50 {N : Nat} {i1 i2 t0 : Int} {M M0 : qm} (h : Fg 2372712456480891076608 M0 M) : qP (qf_X11_card_J50 N i1 i2 t0 M) (fun r => Fg 2372712456480891076608 M0 r.2) := by
  unfold qf_X11_card_J50
  refine qP_pure (fun r1 => ?_)
  rcases r1 with x2 | x2
  · refine qP_bind (fr_X0_addCard Fg_refl) (fun r3 k3 => ?_)
    have h3 := Fg_tr h (Fg_mono k3 rfl)
    exact qP_some h3
  · exact qP_some h
theorem fr_X11_card_J49 {N : Nat} {i1 i2 : Int} {M M0 : qm} (h : Fg 2372712456480891076608 M0 M) : qP (qf_X11_card_J49 N i1 i2 M) (fun r => Fg 2372712456480891076608 M0 r.2) := by
  unfold qf_X11_card_J49
  exact (fr_X11_card_J50 h)
theorem fr_X11_card_J23 {N : Nat} {i1 i2 t0 : Int} {M M0 : qm} (h : Fg 2372712456480891076608 M0 M) : qP (qf_X11_card_J23 N i1 i2 t0 M) (fun r => Fg 2372712456480891076608 M0 r.2) := by
  unfold qf_X11_card_J23
  refine qP_pure (fun r1 => ?_)
  rcases r1 with x2 | x2
  · refine qP_ite ?_ ?_
    · exact (fr_X11_card_J49 h)
    · refine qP_ite ?_ ?_
      · exact (fr_X11_card_J49 h)
      · exact (fr_X11_card_J50 h)
  · exact qP_some h
theorem fr_X11_card_J22 {N : Nat} {i1 i2 : Int} {M M0 : qm} (h : Fg 2372712456480891076608 M0 M) : qP (qf_X11_card_J22 N i1 i2 M) (fun r => Fg 2372712456480891076608 M0 r.2) := by
  unfold qf_X11_card_J22
  exact (fr_X11_card_J23 h)
theorem fr_X11_card {N : Nat} {i1 i2 : Int} {M M0 : qm} (h : Fg 2372712456480891076608 M0 M) : qP (qf_X11_card N i1 i2 M) (fun r => Fg 2372712456480891076608 M0 r.2) := by
  unfold qf_X11_card
  refine qP_pure (fun r1 => ?_)
  refine qP_ite ?_ ?_
  · exact (fr_X11_card_J22 h)
  · refine qP_pure (fun r2 => ?_)
    refine qP_ite ?_ ?_
    · exact (fr_X11_card_J22 h)
    · exact (fr_X11_card_J23 h)
theorem fr_L_card {N : Nat} {i1 i2 : Int} {M M0 : qm} (h : Fg 165263992197562149737978827008192759957101170741070304821162198818601447809077836456297302609928821214270515462736730652672 M0 M) : qP (qf_L_card N i1 i2 M) (fun r => Fg 165263992197562149737978827008192759957101170741070304821162198818601447809077836456297302609928821214270515462736730652672 M0 r.2) := by
  unfold qf_L_card
  refine qP_bind (fr_X11_card Fg_refl) (fun r1 k1 => ?_)
  have h1 := Fg_tr h (Fg_mono k1 rfl)
  obtain ⟨x1, m1⟩ := r1
  rcases x1 with x1 | x1
  · have h1 : Fg _ _ m1 := h1
    refine qP_bnd (m0 := _) (Fg_wa (k := 406) h1 rfl rfl) (fun M2 h2 => ?_)
    exact qP_some h2
  · have h1 : Fg _ _ m1 := h1
    refine qP_ite ?_ ?_
    · exact qP_some h1
    · refine qP_ite ?_ ?_
      · exact qP_some h1
      · exact qP_none
theorem fr_X18_tell_J45 {N : Nat} {i1 i2 i3 : Int} {M M0 : qm} (h : Fg 141216790207877813496808079718914711877405785545348160857926683560817415117884316253602850544141888393557018554721632256 M0 M) : qP (qf_X18_tell_J45 N i1 i2 i3 M) (fun r => Fg 141216790207877813496808079718914711877405785545348160857926683560817415117884316253602850544141888393557018554721632256 M0 r.2) := by
  unfold qf_X18_tell_J45
  refine qP_ite ?_ ?_
  · refine qP_bnd (m0 := _) (Fg_wa (k := 393) h rfl rfl) (fun M1 h1 => ?_)
    refine qP_ite ?_ ?_
    · refine qP_bnd (m0 := _) (Fg_wa (k := 394) h1 rfl rfl) (fun M2 h2 => ?_)
      refine qP_ite ?_ ?_
      · refine qP_bnd (m0 := _) (Fg_wa (k := 395) h2 rfl rfl) (fun M3 h3 => ?_)
        refine qP_bnd (m0 := _) (Fg_w h3 rfl) (fun M4 h4 => ?_)
        exact qP_some h4
      · exact qP_none
    · exact qP_none
  · exact qP_none
theorem fr_X18_tell {N : Nat} {i1 i2 i3 : Int} {M M0 : qm} (h : Fg 141216790207877813496808079718914711877405785545348160857926683560817415117884316253602850544141888393557018554721632256 M0 M) : qP (qf_X18_tell N i1 i2 i3 M) (fun r => Fg 141216790207877813496808079718914711877405785545348160857926683560817415117884316253602850544141888393557018554721632256 M0 r.2) := by
  unfold qf_X18_tell
  refine qP_ite ?_ ?_
  · exact qP_none
  · exact (fr_X18_tell_J45 h)
theorem fr_X18_card_J45 {N : Nat} {i1 i2 t1 t2 : Int} {M M0 : qm} (h : Fg 141689614282234547247355428200116435243066742416593746217942063081668552312853498467416270014543927781756233705903357952 M0 M) : qP (qf_X18_card_J45 N i1 i2 t1 t2 M) (fun r => Fg 141689614282234547247355428200116435243066742416593746217942063081668552312853498467416270014543927781756233705903357952 M0 r.2) := by
  unfold qf_X18_card_J45
  refine qP_bind (fr_X18_goes Fg_refl) (fun r1 k1 => ?_)
  have h1 := Fg_tr h (Fg_mono k1 rfl)
  refine qP_ite ?_ ?_
  · exact qP_some h1
  · refine qP_ite ?_ ?_
    · refine qP_bnd (m0 := _) (Fg_wa (k := 386) h1 rfl rfl) (fun M2 h2 => ?_)
      refine qP_ite ?_ ?_
      · refine qP_bnd (m0 := _) (Fg_wa (k := 387) h2 rfl rfl) (fun M3 h3 => ?_)
        refine qP_bind (fr_X18_tell Fg_refl) (fun r4 k4 => ?_)
        have h4 := Fg_tr h3 (Fg_mono k4 rfl)
        refine qP_bnd (m0 := _) (Fg_w h4 rfl) (fun M5 h5 => ?_)
        exact qP_some h5
      · exact qP_none
    · exact qP_none
theorem fr_X18_card_J44 {N : Nat} {i1 i2 t1 : Int} {M M0 : qm} (h : Fg 141689614282234547247355428200116435243066742416593746217942063081668552312853498467416270014543927781756233705903357952 M0 M) : qP (qf_X18_card_J44 N i1 i2 t1 M) (fun r => Fg 141689614282234547247355428200116435243066742416593746217942063081668552312853498467416270014543927781756233705903357952 M0 r.2) := by
  unfold qf_X18_card_J44
  exact (fr_X18_card_J45 h)
theorem fr_X18_card_J24 {N : Nat} {i1 i2 t1 : Int} {M M0 : qm} (h : Fg 141689614282234547247355428200116435243066742416593746217942063081668552312853498467416270014543927781756233705903357952 M0 M) : qP (qf_X18_card_J24 N i1 i2 t1 M) (fun r => Fg 141689614282234547247355428200116435243066742416593746217942063081668552312853498467416270014543927781756233705903357952 M0 r.2) := by
  unfold qf_X18_card_J24
  refine qP_ite ?_ ?_
  · exact (fr_X18_card_J44 h)
  · refine qP_ite ?_ ?_
    · exact (fr_X18_card_J44 h)
    · exact (fr_X18_card_J45 h)
theorem fr_X18_card_J23 {N : Nat} {i1 i2 : Int} {M M0 : qm} (h : Fg 141689614282234547247355428200116435243066742416593746217942063081668552312853498467416270014543927781756233705903357952 M0 M) : qP (qf_X18_card_J23 N i1 i2 M) (fun r => Fg 141689614282234547247355428200116435243066742416593746217942063081668552312853498467416270014543927781756233705903357952 M0 r.2) := by
  unfold qf_X18_card_J23
  exact (fr_X18_card_J24 h)
theorem fr_X18_card {N : Nat} {i1 i2 : Int} {M M0 : qm} (h : Fg 141689614282234547247355428200116435243066742416593746217942063081668552312853498467416270014543927781756233705903357952 M0 M) : qP (qf_X18_card N i1 i2 M) (fun r => Fg 141689614282234547247355428200116435243066742416593746217942063081668552312853498467416270014543927781756233705903357952 M0 r.2) := by
  unfold qf_X18_card
  refine qP_pure (fun r1 => ?_)
  refine qP_ite ?_ ?_
  · exact (fr_X18_card_J23 h)
  · refine qP_pure (fun r2 => ?_)
    refine qP_ite ?_ ?_
    · exact (fr_X18_card_J23 h)
    · exact (fr_X18_card_J24 h)
theorem fr_X0_addRight {N : Nat} {i1 i2 i3 i4 i5 : Int} {M M0 : qm} (h : Fg 4736201540924927377408 M0 M) : qP (qf_X0_addRight N i1 i2 i3 i4 i5 M) (fun r => Fg 4736201540924927377408 M0 r.2) := by
  unfold qf_X0_addRight
  refine qP_ite ?_ ?_
  · refine qP_ite ?_ ?_
    · refine qP_bnd (m0 := _) (Fg_wa (k := 72) h rfl rfl) (fun M1 h1 => ?_)
      refine qP_bnd (m0 := _) (Fg_wa (k := 72) h1 rfl rfl) (fun M2 h2 => ?_)
      refine qP_bnd (m0 := _) (Fg_wa (k := 72) h2 rfl rfl) (fun M3 h3 => ?_)
      refine qP_bnd (m0 := _) (Fg_wa (k := 72) h3 rfl rfl) (fun M4 h4 => ?_)
      refine qP_bnd (m0 := _) (Fg_wa (k := 72) h4 rfl rfl) (fun M5 h5 => ?_)
      refine qP_bnd (m0 := _) (Fg_wa (k := 72) h5 rfl rfl) (fun M6 h6 => ?_)
      refine qP_bnd (m0 := _) (Fg_w h6 rfl) (fun M7 h7 => ?_)
      refine qP_bnd (m0 := _) (Fg_w h7 rfl) (fun M8 h8 => ?_)
      exact qP_some h8
    · exact qP_none
  · exact qP_some h
theorem fr_X11_right_J94 {N : Nat} {i1 i2 i3 i4 i5 t0 : Int} {M M0 : qm} (h : Fg 4736201540924927377408 M0 M) : qP (qf_X11_right_J94 N i1 i2 i3 i4 i5 t0 M) (fun r => Fg 4736201540924927377408 M0 r.2) := by
  unfold qf_X11_right_J94
  refine qP_pure (fun r1 => ?_)
  rcases r1 with x2 | x2
  · refine qP_bind (fr_X0_addRight Fg_refl) (fun r3 k3 => ?_)
    have h3 := Fg_tr h (Fg_mono k3 rfl)
    exact qP_some h3
  · exact qP_some h
theorem fr_X11_right_J93 {N : Nat} {i1 i2 i3 i4 i5 : Int} {M M0 : qm} (h : Fg 4736201540924927377408 M0 M) : qP (qf_X11_right_J93 N i1 i2 i3 i4 i5 M) (fun r => Fg 4736201540924927377408 M0 r.2) := by
  unfold qf_X11_right_J93
  exact (fr_X11_right_J94 h)
theorem fr_X11_right_J67 {N : Nat} {i1 i2 i3 i4 i5 t0 : Int} {M M0 : qm} (h : Fg 4736201540924927377408 M0 M) : qP (qf_X11_right_J67 N i1 i2 i3 i4 i5 t0 M) (fun r => Fg 4736201540924927377408 M0 r.2) := by
  unfold qf_X11_right_J67
  refine qP_pure (fun r1 => ?_)
  rcases r1 with x2 | x2
  · refine qP_ite ?_ ?_
    · exact (fr_X11_right_J93 h)
    · refine qP_ite ?_ ?_
      · exact (fr_X11_right_J93 h)
      · exact (fr_X11_right_J94 h)
  · exact qP_some h
theorem fr_X11_right_J66 {N : Nat} {i1 i2 i3 i4 i5 : Int} {M M0 : qm} (h : Fg 4736201540924927377408 M0 M) : qP (qf_X11_right_J66 N i1 i2 i3 i4 i5 M) (fun r => Fg 4736201540924927377408 M0 r.2) := by
  unfold qf_X11_right_J66
  exact (fr_X11_right_J67 h)
theorem fr_X11_right_J36 {N : Nat} {i1 i2 i3 i4 i5 t0 : Int} {M M0 : qm} (h : Fg 4736201540924927377408 M0 M) : qP (qf_X11_right_J36 N i1 i2 i3 i4 i5 t0 M) (fun r => Fg 4736201540924927377408 M0 r.2) := by
  unfold qf_X11_right_J36
  refine qP_pure (fun r1 => ?_)
  rcases r1 with x2 | x2
  · refine qP_pure (fun r3 => ?_)
    refine qP_ite ?_ ?_
    · exact (fr_X11_right_J66 h)
    · refine qP_pure (fun r4 => ?_)
      refine qP_ite ?_ ?_
      · exact (fr_X11_right_J66 h)
      · exact (fr_X11_right_J67 h)
  · exact qP_some h
theorem fr_X11_right_J35 {N : Nat} {i1 i2 i3 i4 i5 : Int} {M M0 : qm} (h : Fg 4736201540924927377408 M0 M) : qP (qf_X11_right_J35 N i1 i2 i3 i4 i5 M) (fun r => Fg 4736201540924927377408 M0 r.2) := by
  unfold qf_X11_right_J35
  exact (fr_X11_right_J36 h)
theorem fr_X11_right {N : Nat} {i1 i2 i3 i4 i5 : Int} {M M0 : qm} (h : Fg 4736201540924927377408 M0 M) : qP (qf_X11_right N i1 i2 i3 i4 i5 M) (fun r => Fg 4736201540924927377408 M0 r.2) := by
  unfold qf_X11_right
  refine qP_pure (fun r1 => ?_)
  refine qP_ite ?_ ?_
  · exact (fr_X11_right_J35 h)
  · refine qP_pure (fun r2 => ?_)
    refine qP_ite ?_ ?_
    · exact (fr_X11_right_J35 h)
    · refine qP_pure (fun r3 => ?_)
      refine qP_ite ?_ ?_
      · exact (fr_X11_right_J35 h)
      · exact (fr_X11_right_J36 h)
theorem fr_L_right {N : Nat} {i1 i2 i3 i4 i5 : Int} {M M0 : qm} (h : Fg 165263992197562149737978827008192759957101170741070304821162198818601447809077836456297302609928821216634004547180766953472 M0 M) : qP (qf_L_right N i1 i2 i3 i4 i5 M) (fun r => Fg 165263992197562149737978827008192759957101170741070304821162198818601447809077836456297302609928821216634004547180766953472 M0 r.2) := by
  unfold qf_L_right
  refine qP_bind (fr_X11_right Fg_refl) (fun r1 k1 => ?_)
  have h1 := Fg_tr h (Fg_mono k1 rfl)
  obtain ⟨x1, m1⟩ := r1
  rcases x1 with x1 | x1
  · have h1 : Fg _ _ m1 := h1
    refine qP_bnd (m0 := _) (Fg_wa (k := 406) h1 rfl rfl) (fun M2 h2 => ?_)
    exact qP_some h2
  · have h1 : Fg _ _ m1 := h1
    refine qP_ite ?_ ?_
    · exact qP_some h1
    · refine qP_ite ?_ ?_
      · exact qP_some h1
      · exact qP_none
theorem fr_X18_right_J78 {N : Nat} {i1 i2 i3 i4 i5 t1 t2 : Int} {M M0 : qm} (h : Fg 160760185281289475186098483608585944324725336223499022405229037089323668722467726758914304953566814636133157612577357824 M0 M) : qP (qf_X18_right_J78 N i1 i2 i3 i4 i5 t1 t2 M) (fun r => Fg 160760185281289475186098483608585944324725336223499022405229037089323668722467726758914304953566814636133157612577357824 M0 r.2) := by
  unfold qf_X18_right_J78
  refine qP_bind (fr_X18_goes Fg_refl) (fun r1 k1 => ?_)
  have h1 := Fg_tr h (Fg_mono k1 rfl)
  refine qP_ite ?_ ?_
  · exact qP_some h1
  · refine qP_ite ?_ ?_
    · refine qP_bnd (m0 := _) (Fg_wa (k := 388) h1 rfl rfl) (fun M2 h2 => ?_)
      refine qP_ite ?_ ?_
      · refine qP_bnd (m0 := _) (Fg_wa (k := 389) h2 rfl rfl) (fun M3 h3 => ?_)
        refine qP_ite ?_ ?_
        · refine qP_bnd (m0 := _) (Fg_wa (k := 390) h3 rfl rfl) (fun M4 h4 => ?_)
          refine qP_ite ?_ ?_
          · refine qP_bnd (m0 := _) (Fg_wa (k := 391) h4 rfl rfl) (fun M5 h5 => ?_)
            refine qP_ite ?_ ?_
            · refine qP_bnd (m0 := _) (Fg_wa (k := 392) h5 rfl rfl) (fun M6 h6 => ?_)
              refine qP_bind (fr_X18_tell Fg_refl) (fun r7 k7 => ?_)
              have h7 := Fg_tr h6 (Fg_mono k7 rfl)
              refine qP_bnd (m0 := _) (Fg_w h7 rfl) (fun M8 h8 => ?_)
              exact qP_some h8
            · exact qP_none
          · exact qP_none
        · exact qP_none
      · exact qP_none
    · exact qP_none
theorem fr_X18_right_J77 {N : Nat} {i1 i2 i3 i4 i5 t1 : Int} {M M0 : qm} (h : Fg 160760185281289475186098483608585944324725336223499022405229037089323668722467726758914304953566814636133157612577357824 M0 M) : qP (qf_X18_right_J77 N i1 i2 i3 i4 i5 t1 M) (fun r => Fg 160760185281289475186098483608585944324725336223499022405229037089323668722467726758914304953566814636133157612577357824 M0 r.2) := by
  unfold qf_X18_right_J77
  exact (fr_X18_right_J78 h)
theorem fr_X18_right_J52 {N : Nat} {i1 i2 i3 i4 i5 t0 : Int} {M M0 : qm} (h : Fg 160760185281289475186098483608585944324725336223499022405229037089323668722467726758914304953566814636133157612577357824 M0 M) : qP (qf_X18_right_J52 N i1 i2 i3 i4 i5 t0 M) (fun r => Fg 160760185281289475186098483608585944324725336223499022405229037089323668722467726758914304953566814636133157612577357824 M0 r.2) := by
  unfold qf_X18_right_J52
  refine qP_ite ?_ ?_
  · exact (fr_X18_right_J77 h)
  · refine qP_ite ?_ ?_
    · exact (fr_X18_right_J77 h)
    · exact (fr_X18_right_J78 h)
theorem fr_X18_right_J51 {N : Nat} {i1 i2 i3 i4 i5 : Int} {M M0 : qm} (h : Fg 160760185281289475186098483608585944324725336223499022405229037089323668722467726758914304953566814636133157612577357824 M0 M) : qP (qf_X18_right_J51 N i1 i2 i3 i4 i5 M) (fun r => Fg 160760185281289475186098483608585944324725336223499022405229037089323668722467726758914304953566814636133157612577357824 M0 r.2) := by
  unfold qf_X18_right_J51
  exact (fr_X18_right_J52 h)
theorem fr_X18_right {N : Nat} {i1 i2 i3 i4 i5 : Int} {M M0 : qm} (h : Fg 160760185281289475186098483608585944324725336223499022405229037089323668722467726758914304953566814636133157612577357824 M0 M) : qP (qf_X18_right N i1 i2 i3 i4 i5 M) (fun r => Fg 160760185281289475186098483608585944324725336223499022405229037089323668722467726758914304953566814636133157612577357824 M0 r.2) := by
  unfold qf_X18_right
  refine qP_pure (fun r1 => ?_)
  refine qP_ite ?_ ?_
  · exact (fr_X18_right_J51 h)
  · refine qP_pure (fun r2 => ?_)
    refine qP_ite ?_ ?_
    · exact (fr_X18_right_J51 h)
    · refine qP_pure (fun r3 => ?_)
      refine qP_ite ?_ ?_
      · exact (fr_X18_right_J51 h)
      · refine qP_pure (fun r4 => ?_)
        refine qP_ite ?_ ?_
        · exact (fr_X18_right_J51 h)
        · refine qP_pure (fun r5 => ?_)
          refine qP_ite ?_ ?_
          · exact (fr_X18_right_J51 h)
          · exact (fr_X18_right_J52 h)
theorem fr_X0_note_J73 {N : Nat} {i3 : Int} {M M0 : qm} (h : Fg 9472403081849854754816 M0 M) : qP (qf_X0_note_J73 N i3 M) (fun r => Fg 9472403081849854754816 M0 r.2) := by
  unfold qf_X0_note_J73
  refine qP_bnd (m0 := _) (Fg_w h rfl) (fun M1 h1 => ?_)
  exact qP_some h1
theorem fr_X0_note {N : Nat} {i1 i2 : Int} {M M0 : qm} (h : Fg 9472403081849854754816 M0 M) : qP (qf_X0_note N i1 i2 M) (fun r => Fg 9472403081849854754816 M0 r.2) := by
  unfold qf_X0_note
  refine qP_pure (fun r1 => ?_)
  refine qP_ite ?_ ?_
  · exact (fr_X0_note_J73 h)
  · refine qP_ite ?_ ?_
    · refine qP_bnd (m0 := _) (Fg_wa (k := 73) h rfl rfl) (fun M2 h2 => ?_)
      refine qP_ite ?_ ?_
      · refine qP_bnd (m0 := _) (Fg_wa (k := 73) h2 rfl rfl) (fun M3 h3 => ?_)
        refine qP_ite ?_ ?_
        · refine qP_bnd (m0 := _) (Fg_wa (k := 73) h3 rfl rfl) (fun M4 h4 => ?_)
          refine qP_bnd (m0 := _) (Fg_w h4 rfl) (fun M5 h5 => ?_)
          exact (fr_X0_note_J73 h5)
        · exact qP_none
      · exact qP_none
    · exact qP_none
theorem fr_X0_tellEnd {N : Nat} {i1 i2 : Int} {M M0 : qm} (h : Fg 9472403081849854754816 M0 M) : qP (qf_X0_tellEnd N i1 i2 M) (fun r => Fg 9472403081849854754816 M0 r.2) := by
  unfold qf_X0_tellEnd
  refine qP_bind (fr_X0_note Fg_refl) (fun r1 k1 => ?_)
  have h1 := Fg_tr h (Fg_mono k1 rfl)
  exact qP_some h1
theorem fr_X11_end_J32 {N : Nat} {i1 i2 t0 : Int} {M M0 : qm} (h : Fg 9472403081849854754816 M0 M) : qP (qf_X11_end_J32 N i1 i2 t0 M) (fun r => Fg 9472403081849854754816 M0 r.2) := by
  unfold qf_X11_end_J32
  refine qP_pure (fun r1 => ?_)
  rcases r1 with x2 | x2
  · refine qP_pure (fun r3 => ?_)
    rcases r3 with x4 | x4
    · refine qP_bind (fr_X0_tellEnd Fg_refl) (fun r5 k5 => ?_)
      have h5 := Fg_tr h (Fg_mono k5 rfl)
      exact qP_some h5
    · exact qP_some h
  · exact qP_some h
theorem fr_X11_end_J31 {N : Nat} {i1 i2 : Int} {M M0 : qm} (h : Fg 9472403081849854754816 M0 M) : qP (qf_X11_end_J31 N i1 i2 M) (fun r => Fg 9472403081849854754816 M0 r.2) := by
  unfold qf_X11_end_J31
  exact (fr_X11_end_J32 h)
theorem fr_X11_end {N : Nat} {i1 i2 : Int} {M M0 : qm} (h : Fg 9472403081849854754816 M0 M) : qP (qf_X11_end N i1 i2 M) (fun r => Fg 9472403081849854754816 M0 r.2) := by
  unfold qf_X11_end
  refine qP_pure (fun r1 => ?_)
  refine qP_ite ?_ ?_
  · exact (fr_X11_end_J31 h)
  · refine qP_pure (fun r2 => ?_)
    refine qP_ite ?_ ?_
    · exact (fr_X11_end_J31 h)
    · exact (fr_X11_end_J32 h)
theorem fr_L_end {N : Nat} {i1 i2 : Int} {M M0 : qm} (h : Fg 165263992197562149737978827008192759957101170741070304821162198818601447809077836456297302609928821221370206088105694330880 M0 M) : qP (qf_L_end N i1 i2 M) (fun r => Fg 165263992197562149737978827008192759957101170741070304821162198818601447809077836456297302609928821221370206088105694330880 M0 r.2) := by
  unfold qf_L_end
  refine qP_bind (fr_X11_end Fg_refl) (fun r1 k1 => ?_)
  have h1 := Fg_tr h (Fg_mono k1 rfl)
  obtain ⟨x1, m1⟩ := r1
  rcases x1 with x1 | x1
  · have h1 : Fg _ _ m1 := h1
    refine qP_bnd (m0 := _) (Fg_wa (k := 406) h1 rfl rfl) (fun M2 h2 => ?_)
    exact qP_some h2
  · have h1 : Fg _ _ m1 := h1
    refine qP_ite ?_ ?_
    · exact qP_some h1
    · refine qP_ite ?_ ?_
      · exact qP_some h1
      · exact qP_none
theorem fr_X18_end_J24 {N : Nat} {i1 i2 t1 : Int} {M M0 : qm} (h : Fg 141216790207877813496808079718914711877405785545348160857926683560817416579385953584505768747826721109840038210654175232 M0 M) : qP (qf_X18_end_J24 N i1 i2 t1 M) (fun r => Fg 141216790207877813496808079718914711877405785545348160857926683560817416579385953584505768747826721109840038210654175232 M0 r.2) := by
  unfold qf_X18_end_J24
  refine qP_bind (fr_X18_goes Fg_refl) (fun r1 k1 => ?_)
  have h1 := Fg_tr h (Fg_mono k1 rfl)
  refine qP_ite ?_ ?_
  · exact qP_some h1
  · refine qP_pure (fun r2 => ?_)
    refine qP_bind (fr_X18_tell Fg_refl) (fun r3 k3 => ?_)
    have h3 := Fg_tr h1 (Fg_mono k3 rfl)
    exact qP_some h3
theorem fr_X18_end_J23 {N : Nat} {i1 i2 : Int} {M M0 : qm} (h : Fg 141216790207877813496808079718914711877405785545348160857926683560817416579385953584505768747826721109840038210654175232 M0 M) : qP (qf_X18_end_J23 N i1 i2 M) (fun r => Fg 141216790207877813496808079718914711877405785545348160857926683560817416579385953584505768747826721109840038210654175232 M0 r.2) := by
  unfold qf_X18_end_J23
  exact (fr_X18_end_J24 h)
