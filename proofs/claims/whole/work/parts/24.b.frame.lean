/-! ===== frames, by program (wip/tools/q/genfr.py) ===== -/
theorem fr_X18_end {N : Nat} {i1 i2 : Int} {M M0 : qm} (h : Fg 141216790207877813496808079718914711877405785545348160857926683560817416579385953584505768747826721109840038210654175232 M0 M) : qP (qf_X18_end N i1 i2 M) (fun r => Fg 141216790207877813496808079718914711877405785545348160857926683560817416579385953584505768747826721109840038210654175232 M0 r.2) := by
  unfold qf_X18_end
  refine qP_pure (fun r1 => ?_)
  refine qP_ite ?_ ?_
  · exact (fr_X18_end_J23 h)
  · refine qP_pure (fun r2 => ?_)
    refine qP_ite ?_ ?_
    · exact (fr_X18_end_J23 h)
    · exact (fr_X18_end_J24 h)
theorem fr_X0_tellLost {N : Nat} {i1 i2 : Int} {M M0 : qm} (h : Fg 9472403081849854754816 M0 M) : qP (qf_X0_tellLost N i1 i2 M) (fun r => Fg 9472403081849854754816 M0 r.2) := by
  unfold qf_X0_tellLost
  refine qP_bind (fr_X0_note Fg_refl) (fun r1 k1 => ?_)
  have h1 := Fg_tr h (Fg_mono k1 rfl)
  exact qP_some h1
theorem fr_X11_lost_J23 {N : Nat} {i1 i2 t0 : Int} {M M0 : qm} (h : Fg 9472403081849854754816 M0 M) : qP (qf_X11_lost_J23 N i1 i2 t0 M) (fun r => Fg 9472403081849854754816 M0 r.2) := by
  unfold qf_X11_lost_J23
  refine qP_pure (fun r1 => ?_)
  rcases r1 with x2 | x2
  · refine qP_pure (fun r3 => ?_)
    rcases r3 with x4 | x4
    · refine qP_bind (fr_X0_tellLost Fg_refl) (fun r5 k5 => ?_)
      have h5 := Fg_tr h (Fg_mono k5 rfl)
      exact qP_some h5
    · exact qP_some h
  · exact qP_some h
theorem fr_X11_lost_J22 {N : Nat} {i1 i2 : Int} {M M0 : qm} (h : Fg 9472403081849854754816 M0 M) : qP (qf_X11_lost_J22 N i1 i2 M) (fun r => Fg 9472403081849854754816 M0 r.2) := by
  unfold qf_X11_lost_J22
  exact (fr_X11_lost_J23 h)
theorem fr_X11_lost {N : Nat} {i1 i2 : Int} {M M0 : qm} (h : Fg 9472403081849854754816 M0 M) : qP (qf_X11_lost N i1 i2 M) (fun r => Fg 9472403081849854754816 M0 r.2) := by
  unfold qf_X11_lost
  refine qP_pure (fun r1 => ?_)
  refine qP_ite ?_ ?_
  · exact (fr_X11_lost_J22 h)
  · refine qP_pure (fun r2 => ?_)
    refine qP_ite ?_ ?_
    · exact (fr_X11_lost_J22 h)
    · exact (fr_X11_lost_J23 h)
theorem fr_L_lost {N : Nat} {i1 i2 : Int} {M M0 : qm} (h : Fg 165263992197562149737978827008192759957101170741070304821162198818601447809077836456297302609928821221370206088105694330880 M0 M) : qP (qf_L_lost N i1 i2 M) (fun r => Fg 165263992197562149737978827008192759957101170741070304821162198818601447809077836456297302609928821221370206088105694330880 M0 r.2) := by
  unfold qf_L_lost
  refine qP_bind (fr_X11_lost Fg_refl) (fun r1 k1 => ?_)
  have h1 := Fg_tr h (Fg_mono k1 rfl)
  obtain ⟨x1, m1⟩ := r1
  rcases x1 with x1 | x1
  · have h1 : Fg _ _ m1 := h1
    refine qP_bnd (m0 := _) (Fg_wa (k := 406) h1 rfl rfl) (fun M2 h2 => ?_)
    exact qP_some h2
  · have h1 : Fg _ _ m1 := h1
    refine qP_ite ?_ ?_
    · exact qP_some h1
    · refine qP_ite ?_ ?_
      · exact qP_some h1
      · exact qP_none
theorem fr_X18_lost_J24 {N : Nat} {i1 i2 t1 : Int} {M M0 : qm} (h : Fg 141216790207877813496808079718914711877405785545348160857926683560817416579385953584505768747826721109840038210654175232 M0 M) : qP (qf_X18_lost_J24 N i1 i2 t1 M) (fun r => Fg 141216790207877813496808079718914711877405785545348160857926683560817416579385953584505768747826721109840038210654175232 M0 r.2) := by
  unfold qf_X18_lost_J24
  refine qP_bind (fr_X18_goes Fg_refl) (fun r1 k1 => ?_)
  have h1 := Fg_tr h (Fg_mono k1 rfl)
  refine qP_ite ?_ ?_
  · exact qP_some h1
  · refine qP_pure (fun r2 => ?_)
    refine qP_bind (fr_X18_tell Fg_refl) (fun r3 k3 => ?_)
    have h3 := Fg_tr h1 (Fg_mono k3 rfl)
    exact qP_some h3
theorem fr_X18_lost_J23 {N : Nat} {i1 i2 : Int} {M M0 : qm} (h : Fg 141216790207877813496808079718914711877405785545348160857926683560817416579385953584505768747826721109840038210654175232 M0 M) : qP (qf_X18_lost_J23 N i1 i2 M) (fun r => Fg 141216790207877813496808079718914711877405785545348160857926683560817416579385953584505768747826721109840038210654175232 M0 r.2) := by
  unfold qf_X18_lost_J23
  exact (fr_X18_lost_J24 h)
theorem fr_X18_lost {N : Nat} {i1 i2 : Int} {M M0 : qm} (h : Fg 141216790207877813496808079718914711877405785545348160857926683560817416579385953584505768747826721109840038210654175232 M0 M) : qP (qf_X18_lost N i1 i2 M) (fun r => Fg 141216790207877813496808079718914711877405785545348160857926683560817416579385953584505768747826721109840038210654175232 M0 r.2) := by
  unfold qf_X18_lost
  refine qP_pure (fun r1 => ?_)
  refine qP_ite ?_ ?_
  · exact (fr_X18_lost_J23 h)
  · refine qP_pure (fun r2 => ?_)
    refine qP_ite ?_ ?_
    · exact (fr_X18_lost_J23 h)
    · exact (fr_X18_lost_J24 h)
theorem fr_X18_two {N : Nat} {i1 i2 : Int} {M M0 : qm} (h : Fg 601226901190101306339707032778070279008174732520529886901066490173747147760242679730391776302783807632107896832 M0 M) : qP (qf_X18_two N i1 i2 M) (fun r => Fg 601226901190101306339707032778070279008174732520529886901066490173747147760242679730391776302783807632107896832 M0 r.2) := by
  unfold qf_X18_two
  refine qP_pure (fun r1 => ?_)
  refine qP_bind (fr_X18_goes Fg_refl) (fun r2 k2 => ?_)
  have h2 := Fg_tr h (Fg_mono k2 rfl)
  refine qP_ite ?_ ?_
  · exact qP_some h2
  · refine qP_ite ?_ ?_
    · refine qP_ite ?_ ?_
      · refine qP_bnd (m0 := _) (Fg_wa (k := 368) h2 rfl rfl) (fun M3 h3 => ?_)
        refine qP_ite ?_ ?_
        · exact qP_some h3
        · exact qP_none
      · exact qP_none
    · exact qP_none
theorem fr_X0_setTwo_J15 {N : Nat} {i1 i2 t0 : Int} {M M0 : qm} (h : Fg 295147905179352825856 M0 M) : qP (qf_X0_setTwo_J15 N i1 i2 t0 M) (fun r => Fg 295147905179352825856 M0 r.2) := by
  unfold qf_X0_setTwo_J15
  refine qP_ite ?_ ?_
  · refine qP_bind (fr_X0_setFact Fg_refl) (fun r1 k1 => ?_)
    have h1 := Fg_tr h (Fg_mono k1 rfl)
    refine qP_ite ?_ ?_
    · exact qP_some h1
    · exact qP_none
  · refine qP_bind (fr_X0_setFact Fg_refl) (fun r2 k2 => ?_)
    have h2 := Fg_tr h (Fg_mono k2 rfl)
    refine qP_ite ?_ ?_
    · exact qP_some h2
    · exact qP_none
theorem fr_X0_setTwo {N : Nat} {i1 i2 : Int} {M M0 : qm} (h : Fg 295147905179352825856 M0 M) : qP (qf_X0_setTwo N i1 i2 M) (fun r => Fg 295147905179352825856 M0 r.2) := by
  unfold qf_X0_setTwo
  refine qP_pure (fun r1 => ?_)
  refine qP_ite ?_ ?_
  · exact (fr_X0_setTwo_J15 h)
  · exact (fr_X0_setTwo_J15 h)
theorem fr_X11_two {N : Nat} {i1 i2 : Int} {M M0 : qm} (h : Fg 295147905179352825856 M0 M) : qP (qf_X11_two N i1 i2 M) (fun r => Fg 295147905179352825856 M0 r.2) := by
  unfold qf_X11_two
  refine qP_pure (fun r1 => ?_)
  refine qP_pure (fun r2 => ?_)
  rcases r2 with x3 | x3
  · refine qP_pure (fun r4 => ?_)
    rcases r4 with x5 | x5
    · refine qP_bind (fr_X0_setTwo Fg_refl) (fun r6 k6 => ?_)
      have h6 := Fg_tr h (Fg_mono k6 rfl)
      refine qP_ite ?_ ?_
      · exact qP_some h6
      · exact qP_none
    · exact qP_some h
  · exact qP_some h
theorem fr_L_two_J16 {N : Nat} {t1 t2 : Int} {M M0 : qm} (h : Fg 165263992197562149737978827008192759957101170741070304821162198818601447809077836456297302609928821212192950911435192401920 M0 M) : qP (qf_L_two_J16 N t1 t2 M) (fun r => Fg 165263992197562149737978827008192759957101170741070304821162198818601447809077836456297302609928821212192950911435192401920 M0 r.2) := by
  unfold qf_L_two_J16
  refine qP_ite ?_ ?_
  · refine qP_bnd (m0 := _) (Fg_wa (k := 406) h rfl rfl) (fun M1 h1 => ?_)
    exact qP_some h1
  · exact qP_none
theorem fr_L_two {N : Nat} {i1 i2 : Int} {M M0 : qm} (h : Fg 165263992197562149737978827008192759957101170741070304821162198818601447809077836456297302609928821212192950911435192401920 M0 M) : qP (qf_L_two N i1 i2 M) (fun r => Fg 165263992197562149737978827008192759957101170741070304821162198818601447809077836456297302609928821212192950911435192401920 M0 r.2) := by
  unfold qf_L_two
  refine qP_bind (fr_X11_two Fg_refl) (fun r1 k1 => ?_)
  have h1 := Fg_tr h (Fg_mono k1 rfl)
  obtain ⟨x1, m1⟩ := r1
  rcases x1 with x1 | x1
  · have h1 : Fg _ _ m1 := h1
    refine qP_ite ?_ ?_
    · exact (fr_L_two_J16 h1)
    · exact (fr_L_two_J16 h1)
  · have h1 : Fg _ _ m1 := h1
    refine qP_ite ?_ ?_
    · exact qP_some h1
    · refine qP_ite ?_ ?_
      · exact qP_some h1
      · exact qP_none
theorem fr_X18_airlock_J180 {N : Nat} {i4 : Int} {M M0 : qm} (h : Fg 461742260113997803268895001173557974278278194575766953140019063379234106041652733153232532154069944814348445679616 M0 M) : qP (qf_X18_airlock_J180 N i4 M) (fun r => Fg 461742260113997803268895001173557974278278194575766953140019063379234106041652733153232532154069944814348445679616 M0 r.2) := by
  unfold qf_X18_airlock_J180
  refine qP_ite ?_ ?_
  · exact qP_some h
  · exact qP_some h
theorem fr_X18_airlock_J129 {N : Nat} {i3 i4 : Int} {M M0 : qm} (h : Fg 461742260113997803268895001173557974278278194575766953140019063379234106041652733153232532154069944814348445679616 M0 M) : qP (qf_X18_airlock_J129 N i3 i4 M) (fun r => Fg 461742260113997803268895001173557974278278194575766953140019063379234106041652733153232532154069944814348445679616 M0 r.2) := by
  unfold qf_X18_airlock_J129
  refine qP_ite ?_ ?_
  · exact (fr_X18_airlock_J180 h)
  · refine qP_ite ?_ ?_
    · refine qP_bnd (m0 := _) (Fg_w h rfl) (fun M1 h1 => ?_)
      refine qP_ite ?_ ?_
      · refine qP_ite ?_ ?_
        · refine qP_bnd (m0 := _) (Fg_wa (k := 376) h1 rfl rfl) (fun M2 h2 => ?_)
          refine qP_ite ?_ ?_
          · refine qP_ite ?_ ?_
            · refine qP_bnd (m0 := _) (Fg_wa (k := 377) h2 rfl rfl) (fun M3 h3 => ?_)
              exact (fr_X18_airlock_J180 h3)
            · exact qP_none
          · exact qP_none
        · exact qP_none
      · exact qP_none
    · exact (fr_X18_airlock_J180 h)
theorem fr_X18_airlock_J96 {N : Nat} {i1 i2 i4 : Int} {M M0 : qm} (h : Fg 461742260113997803268895001173557974278278194575766953140019063379234106041652733153232532154069944814348445679616 M0 M) : qP (qf_X18_airlock_J96 N i1 i2 i4 M) (fun r => Fg 461742260113997803268895001173557974278278194575766953140019063379234106041652733153232532154069944814348445679616 M0 r.2) := by
  unfold qf_X18_airlock_J96
  refine qP_ite ?_ ?_
  · refine qP_bnd (m0 := _) (Fg_wa (k := 376) h rfl rfl) (fun M1 h1 => ?_)
    refine qP_ite ?_ ?_
    · refine qP_bnd (m0 := _) (Fg_wa (k := 377) h1 rfl rfl) (fun M2 h2 => ?_)
      refine qP_bnd (m0 := _) (Fg_w h2 rfl) (fun M3 h3 => ?_)
      exact (fr_X18_airlock_J180 h3)
    · exact qP_none
  · exact qP_none
theorem fr_X18_airlock_J33 {N : Nat} {i1 i2 i3 t1 : Int} {M M0 : qm} (h : Fg 461742260113997803268895001173557974278278194575766953140019063379234106041652733153232532154069944814348445679616 M0 M) : qP (qf_X18_airlock_J33 N i1 i2 i3 t1 M) (fun r => Fg 461742260113997803268895001173557974278278194575766953140019063379234106041652733153232532154069944814348445679616 M0 r.2) := by
  unfold qf_X18_airlock_J33
  refine qP_bind (fr_X18_goes Fg_refl) (fun r1 k1 => ?_)
  have h1 := Fg_tr h (Fg_mono k1 rfl)
  refine qP_ite ?_ ?_
  · exact qP_some h1
  · refine qP_pure (fun r2 => ?_)
    refine qP_ite ?_ ?_
    · exact (fr_X18_airlock_J129 h1)
    · refine qP_ite ?_ ?_
      · exact (fr_X18_airlock_J129 h1)
      · refine qP_ite ?_ ?_
        · exact qP_none
        · exact (fr_X18_airlock_J96 h1)
theorem fr_X18_airlock_J32 {N : Nat} {i1 i2 i3 : Int} {M M0 : qm} (h : Fg 461742260113997803268895001173557974278278194575766953140019063379234106041652733153232532154069944814348445679616 M0 M) : qP (qf_X18_airlock_J32 N i1 i2 i3 M) (fun r => Fg 461742260113997803268895001173557974278278194575766953140019063379234106041652733153232532154069944814348445679616 M0 r.2) := by
  unfold qf_X18_airlock_J32
  exact (fr_X18_airlock_J33 h)
theorem fr_X18_airlock {N : Nat} {i1 i2 i3 : Int} {M M0 : qm} (h : Fg 461742260113997803268895001173557974278278194575766953140019063379234106041652733153232532154069944814348445679616 M0 M) : qP (qf_X18_airlock N i1 i2 i3 M) (fun r => Fg 461742260113997803268895001173557974278278194575766953140019063379234106041652733153232532154069944814348445679616 M0 r.2) := by
  unfold qf_X18_airlock
  refine qP_pure (fun r1 => ?_)
  refine qP_ite ?_ ?_
  · exact (fr_X18_airlock_J32 h)
  · refine qP_pure (fun r2 => ?_)
    refine qP_ite ?_ ?_
    · exact (fr_X18_airlock_J32 h)
    · refine qP_ite ?_ ?_
      · exact (fr_X18_airlock_J32 h)
      · exact (fr_X18_airlock_J33 h)
theorem fr_X0_setLockBit {N : Nat} {i1 i2 i3 : Int} {M M0 : qm} (h : Fg 1180591620717411303424 M0 M) : qP (qf_X0_setLockBit N i1 i2 i3 M) (fun r => Fg 1180591620717411303424 M0 r.2) := by
  unfold qf_X0_setLockBit
  refine qP_ite ?_ ?_
  · refine qP_ite ?_ ?_
    · refine qP_ite ?_ ?_
      · refine qP_bnd (m0 := _) (Fg_wa (k := 70) h rfl rfl) (fun M1 h1 => ?_)
        exact qP_some h1
      · exact qP_none
    · exact qP_none
  · refine qP_ite ?_ ?_
    · refine qP_ite ?_ ?_
      · refine qP_bnd (m0 := _) (Fg_wa (k := 70) h rfl rfl) (fun M2 h2 => ?_)
        exact qP_some h2
      · exact qP_none
    · exact qP_none
theorem fr_X0_setAirlock {N : Nat} {i1 i2 i3 : Int} {M M0 : qm} (h : Fg 1180591620717411303424 M0 M) : qP (qf_X0_setAirlock N i1 i2 i3 M) (fun r => Fg 1180591620717411303424 M0 r.2) := by
  unfold qf_X0_setAirlock
  refine qP_pure (fun r1 => ?_)
  refine qP_bind (fr_X0_setLockBit Fg_refl) (fun r2 k2 => ?_)
  have h2 := Fg_tr h (Fg_mono k2 rfl)
  refine qP_bind (fr_X0_setLockBit Fg_refl) (fun r3 k3 => ?_)
  have h3 := Fg_tr h2 (Fg_mono k3 rfl)
  refine qP_ite ?_ ?_
  · exact qP_some h3
  · exact qP_none
theorem fr_X11_airlock_J26 {N : Nat} {i1 i2 i3 t0 : Int} {M M0 : qm} (h : Fg 1180591620717411303424 M0 M) : qP (qf_X11_airlock_J26 N i1 i2 i3 t0 M) (fun r => Fg 1180591620717411303424 M0 r.2) := by
  unfold qf_X11_airlock_J26
  refine qP_pure (fun r1 => ?_)
  rcases r1 with x2 | x2
  · refine qP_pure (fun r3 => ?_)
    rcases r3 with x4 | x4
    · refine qP_bind (fr_X0_setAirlock Fg_refl) (fun r5 k5 => ?_)
      have h5 := Fg_tr h (Fg_mono k5 rfl)
      refine qP_ite ?_ ?_
      · exact qP_some h5
      · exact qP_none
    · exact qP_some h
  · exact qP_some h
theorem fr_X11_airlock_J25 {N : Nat} {i1 i2 i3 : Int} {M M0 : qm} (h : Fg 1180591620717411303424 M0 M) : qP (qf_X11_airlock_J25 N i1 i2 i3 M) (fun r => Fg 1180591620717411303424 M0 r.2) := by
  unfold qf_X11_airlock_J25
  exact (fr_X11_airlock_J26 h)
theorem fr_X11_airlock {N : Nat} {i1 i2 i3 : Int} {M M0 : qm} (h : Fg 1180591620717411303424 M0 M) : qP (qf_X11_airlock N i1 i2 i3 M) (fun r => Fg 1180591620717411303424 M0 r.2) := by
  unfold qf_X11_airlock
  refine qP_pure (fun r1 => ?_)
  refine qP_ite ?_ ?_
  · exact (fr_X11_airlock_J25 h)
  · refine qP_pure (fun r2 => ?_)
    refine qP_ite ?_ ?_
    · exact (fr_X11_airlock_J25 h)
    · refine qP_ite ?_ ?_
      · exact (fr_X11_airlock_J25 h)
      · exact (fr_X11_airlock_J26 h)
theorem fr_L_airlock_J18 {N : Nat} {t1 t2 : Int} {M M0 : qm} (h : Fg 165263992197562149737978827008192759957101170741070304821162198818601447809077836456297302609928821213078394626973250879488 M0 M) : qP (qf_L_airlock_J18 N t1 t2 M) (fun r => Fg 165263992197562149737978827008192759957101170741070304821162198818601447809077836456297302609928821213078394626973250879488 M0 r.2) := by
  unfold qf_L_airlock_J18
  refine qP_ite ?_ ?_
  · refine qP_bnd (m0 := _) (Fg_wa (k := 406) h rfl rfl) (fun M1 h1 => ?_)
    exact qP_some h1
  · exact qP_none
theorem fr_L_airlock {N : Nat} {i1 i2 i3 : Int} {M M0 : qm} (h : Fg 165263992197562149737978827008192759957101170741070304821162198818601447809077836456297302609928821213078394626973250879488 M0 M) : qP (qf_L_airlock N i1 i2 i3 M) (fun r => Fg 165263992197562149737978827008192759957101170741070304821162198818601447809077836456297302609928821213078394626973250879488 M0 r.2) := by
  unfold qf_L_airlock
  refine qP_bind (fr_X11_airlock Fg_refl) (fun r1 k1 => ?_)
  have h1 := Fg_tr h (Fg_mono k1 rfl)
  obtain ⟨x1, m1⟩ := r1
  rcases x1 with x1 | x1
  · have h1 : Fg _ _ m1 := h1
    refine qP_ite ?_ ?_
    · exact (fr_L_airlock_J18 h1)
    · exact (fr_L_airlock_J18 h1)
  · have h1 : Fg _ _ m1 := h1
    refine qP_ite ?_ ?_
    · exact qP_some h1
    · refine qP_ite ?_ ?_
      · exact qP_some h1
      · exact qP_none
theorem fr_X18_stands_J61 {N : Nat} {i1 i2 i3 t1 t2 : Int} {M M0 : qm} (h : Fg 3607361407140607838038242196668421674049048395123179321406398933734974699906941487363926494235287747512984666112 M0 M) : qP (qf_X18_stands_J61 N i1 i2 i3 t1 t2 M) (fun r => Fg 3607361407140607838038242196668421674049048395123179321406398933734974699906941487363926494235287747512984666112 M0 r.2) := by
  unfold qf_X18_stands_J61
  refine qP_ite ?_ ?_
  · refine qP_bnd (m0 := _) (Fg_wa (k := 370) h rfl rfl) (fun M1 h1 => ?_)
    refine qP_ite ?_ ?_
    · refine qP_bnd (m0 := _) (Fg_wa (k := 369) h1 rfl rfl) (fun M2 h2 => ?_)
      exact qP_some h2
    · exact qP_none
  · exact qP_none
theorem fr_X18_stands {N : Nat} {i1 i2 : Int} {M M0 : qm} (h : Fg 3607361407140607838038242196668421674049048395123179321406398933734974699906941487363926494235287747512984666112 M0 M) : qP (qf_X18_stands N i1 i2 M) (fun r => Fg 3607361407140607838038242196668421674049048395123179321406398933734974699906941487363926494235287747512984666112 M0 r.2) := by
  unfold qf_X18_stands
  refine qP_pure (fun r1 => ?_)
  refine qP_bind (fr_X18_goes Fg_refl) (fun r2 k2 => ?_)
  have h2 := Fg_tr h (Fg_mono k2 rfl)
  refine qP_ite ?_ ?_
  · exact qP_some h2
  · refine qP_ite ?_ ?_
    · refine qP_ite ?_ ?_
      · refine qP_ite ?_ ?_
        · refine qP_ite ?_ ?_
          · exact (fr_X18_stands_J61 h2)
          · exact qP_none
        · exact (fr_X18_stands_J61 h2)
      · exact qP_none
    · exact qP_none
theorem fr_X0_setOpen_J43 {N : Nat} {i1 i3 i4 t1 t2 t3 : Int} {M M0 : qm} (h : Fg 295147905179352825856 M0 M) : qP (qf_X0_setOpen_J43 N i1 i3 i4 t1 t2 t3 M) (fun r => Fg 295147905179352825856 M0 r.2) := by
  unfold qf_X0_setOpen_J43
  refine qP_bind (fr_X0_setFact Fg_refl) (fun r1 k1 => ?_)
  have h1 := Fg_tr h (Fg_mono k1 rfl)
  refine qP_bind (fr_X0_setFact Fg_refl) (fun r2 k2 => ?_)
  have h2 := Fg_tr h1 (Fg_mono k2 rfl)
  exact qP_some h2
theorem fr_X0_setOpen_J27 {N : Nat} {i1 i2 i3 i4 t0 t1 : Int} {M M0 : qm} (h : Fg 295147905179352825856 M0 M) : qP (qf_X0_setOpen_J27 N i1 i2 i3 i4 t0 t1 M) (fun r => Fg 295147905179352825856 M0 r.2) := by
  unfold qf_X0_setOpen_J27
  refine qP_ite ?_ ?_
  · exact qP_some h
  · refine qP_ite ?_ ?_
    · exact (fr_X0_setOpen_J43 h)
    · exact (fr_X0_setOpen_J43 h)
theorem fr_X0_setOpen {N : Nat} {i1 i2 i3 : Int} {M M0 : qm} (h : Fg 295147905179352825856 M0 M) : qP (qf_X0_setOpen N i1 i2 i3 M) (fun r => Fg 295147905179352825856 M0 r.2) := by
  unfold qf_X0_setOpen
  refine qP_pure (fun r1 => ?_)
  refine qP_pure (fun r2 => ?_)
  refine qP_ite ?_ ?_
  · exact (fr_X0_setOpen_J27 h)
  · exact (fr_X0_setOpen_J27 h)
theorem fr_X11_stands {N : Nat} {i1 i2 : Int} {M M0 : qm} (h : Fg 295147905179352825856 M0 M) : qP (qf_X11_stands N i1 i2 M) (fun r => Fg 295147905179352825856 M0 r.2) := by
  unfold qf_X11_stands
  refine qP_pure (fun r1 => ?_)
  refine qP_pure (fun r2 => ?_)
  rcases r2 with x3 | x3
  · refine qP_pure (fun r4 => ?_)
    rcases r4 with x5 | x5
    · refine qP_bind (fr_X0_setOpen Fg_refl) (fun r6 k6 => ?_)
      have h6 := Fg_tr h (Fg_mono k6 rfl)
      exact qP_some h6
    · exact qP_some h
  · exact qP_some h
theorem fr_L_stands {N : Nat} {i1 i2 : Int} {M M0 : qm} (h : Fg 165263992197562149737978827008192759957101170741070304821162198818601447809077836456297302609928821212192950911435192401920 M0 M) : qP (qf_L_stands N i1 i2 M) (fun r => Fg 165263992197562149737978827008192759957101170741070304821162198818601447809077836456297302609928821212192950911435192401920 M0 r.2) := by
  unfold qf_L_stands
  refine qP_bind (fr_X11_stands Fg_refl) (fun r1 k1 => ?_)
  have h1 := Fg_tr h (Fg_mono k1 rfl)
  obtain ⟨x1, m1⟩ := r1
  rcases x1 with x1 | x1
  · have h1 : Fg _ _ m1 := h1
    refine qP_bnd (m0 := _) (Fg_wa (k := 406) h1 rfl rfl) (fun M2 h2 => ?_)
    exact qP_some h2
  · have h1 : Fg _ _ m1 := h1
    refine qP_ite ?_ ?_
    · exact qP_some h1
    · refine qP_ite ?_ ?_
      · exact qP_some h1
      · exact qP_none
theorem fr_X18_off_J224 {N : Nat} {i1 i3 t1 t2 : Int} {M M0 : qm} (h : Fg 2420955317526026142907935506066036518916435758838062383297713556347627221720677158895803276392045679219147748639242190848 M0 M) : qP (qf_X18_off_J224 N i1 i3 t1 t2 M) (pU (pU (fun r => Fg 2420955317526026142907935506066036518916435758838062383297713556347627221720677158895803276392045679219147748639242190848 M0 r.2) (fun r => Fg 2420955317526026142907935506066036518916435758838062383297713556347627221720677158895803276392045679219147748639242190848 M0 r.2)) (fun r => Fg 2420955317526026142907935506066036518916435758838062383297713556347627221720677158895803276392045679219147748639242190848 M0 r.2.2)) := by
  unfold qf_X18_off_J224
  refine qP_bnd (m0 := _) (Fg_w h rfl) (fun M1 h1 => ?_)
  exact qP_some h1
theorem fr_X18_off_J209 {N : Nat} {i1 i3 i6 : Int} {M M0 : qm} (h : Fg 2420955317526026142907935506066036518916435758838062383297713556347627221720677158895803276392045679219147748639242190848 M0 M) : qP (qf_X18_off_J209 N i1 i3 i6 M) (pU (pU (fun r => Fg 2420955317526026142907935506066036518916435758838062383297713556347627221720677158895803276392045679219147748639242190848 M0 r.2) (fun r => Fg 2420955317526026142907935506066036518916435758838062383297713556347627221720677158895803276392045679219147748639242190848 M0 r.2)) (fun r => Fg 2420955317526026142907935506066036518916435758838062383297713556347627221720677158895803276392045679219147748639242190848 M0 r.2.2)) := by
  unfold qf_X18_off_J209
  refine qP_ite ?_ ?_
  · exact (fr_X18_off_J224 h)
  · exact (fr_X18_off_J224 h)
theorem fr_X18_off_J121 {N : Nat} {i1 i3 i4 i5 : Int} {M M0 : qm} (h : Fg 2420955317526026142907935506066036518916435758838062383297713556347627221720677158895803276392045679219147748639242190848 M0 M) : qP (qf_X18_off_J121 N i1 i3 i4 i5 M) (pU (pU (fun r => Fg 2420955317526026142907935506066036518916435758838062383297713556347627221720677158895803276392045679219147748639242190848 M0 r.2) (fun r => Fg 2420955317526026142907935506066036518916435758838062383297713556347627221720677158895803276392045679219147748639242190848 M0 r.2)) (fun r => Fg 2420955317526026142907935506066036518916435758838062383297713556347627221720677158895803276392045679219147748639242190848 M0 r.2.2)) := by
  unfold qf_X18_off_J121
  refine qP_ite ?_ ?_
  · refine qP_ite ?_ ?_
    · refine qP_pure (fun r1 => ?_)
      refine qP_ite ?_ ?_
      · exact (fr_X18_off_J209 h)
      · refine qP_ite ?_ ?_
        · exact (fr_X18_off_J209 h)
        · refine qP_ite ?_ ?_
          · refine qP_bnd (m0 := _) (Fg_wa (k := 396) h rfl rfl) (fun M2 h2 => ?_)
            refine qP_ite ?_ ?_
            · refine qP_bnd (m0 := _) (Fg_wa (k := 397) h2 rfl rfl) (fun M3 h3 => ?_)
              refine qP_ite ?_ ?_
              · refine qP_ite ?_ ?_
                · refine qP_bnd (m0 := _) (Fg_wa (k := 398) h3 rfl rfl) (fun M4 h4 => ?_)
                  refine qP_ite ?_ ?_
                  · refine qP_bnd (m0 := _) (Fg_wa (k := 399) h4 rfl rfl) (fun M5 h5 => ?_)
                    exact (fr_X18_off_J209 h5)
                  · exact qP_none
                · exact qP_none
              · exact qP_none
            · exact qP_none
          · exact qP_none
    · exact qP_none
  · exact qP_none
theorem fr_X18_enter_J103 {N : Nat} {i1 t1 t2 : Int} {M M0 : qm} (h : Fg 96042390103711543079930160244100058649881864471759526253123965172848946818024450865322273996281981874466155726372864 M0 M) : qP (qf_X18_enter_J103 N i1 t1 t2 M) (fun r => Fg 96042390103711543079930160244100058649881864471759526253123965172848946818024450865322273996281981874466155726372864 M0 r.2) := by
  unfold qf_X18_enter_J103
  refine qP_ite ?_ ?_
  · refine qP_bnd (m0 := _) (Fg_wa (k := 382) h rfl rfl) (fun M1 h1 => ?_)
    refine qP_ite ?_ ?_
    · refine qP_bnd (m0 := _) (Fg_wa (k := 385) h1 rfl rfl) (fun M2 h2 => ?_)
      exact qP_some h2
    · exact qP_none
  · exact qP_none
theorem fr_X18_enter_J63 {N : Nat} {i1 i2 i3 i4 t1 t2 : Int} {M M0 : qm} (h : Fg 96042390103711543079930160244100058649881864471759526253123965172848946818024450865322273996281981874466155726372864 M0 M) : qP (qf_X18_enter_J63 N i1 i2 i3 i4 t1 t2 M) (fun r => Fg 96042390103711543079930160244100058649881864471759526253123965172848946818024450865322273996281981874466155726372864 M0 r.2) := by
  unfold qf_X18_enter_J63
  refine qP_ite ?_ ?_
  · refine qP_bnd (m0 := _) (Fg_wa (k := 381) h rfl rfl) (fun M1 h1 => ?_)
    refine qP_ite ?_ ?_
    · exact (fr_X18_enter_J103 h1)
    · refine qP_ite ?_ ?_
      · refine qP_ite ?_ ?_
        · refine qP_pure (fun r2 => ?_)
          exact (fr_X18_enter_J103 h1)
        · exact qP_none
      · exact qP_none
  · exact qP_none
theorem fr_X18_enter_J22 {N : Nat} {i1 i2 i3 t0 : Int} {M M0 : qm} (h : Fg 96042390103711543079930160244100058649881864471759526253123965172848946818024450865322273996281981874466155726372864 M0 M) : qP (qf_X18_enter_J22 N i1 i2 i3 t0 M) (fun r => Fg 96042390103711543079930160244100058649881864471759526253123965172848946818024450865322273996281981874466155726372864 M0 r.2) := by
  unfold qf_X18_enter_J22
  refine qP_ite ?_ ?_
  · exact (fr_X18_enter_J63 h)
  · refine qP_ite ?_ ?_
    · refine qP_ite ?_ ?_
      · refine qP_pure (fun r1 => ?_)
        exact (fr_X18_enter_J63 h)
      · exact qP_none
    · exact qP_none
theorem fr_X18_enter {N : Nat} {i1 i2 i3 : Int} {M M0 : qm} (h : Fg 96042390103711543079930160244100058649881864471759526253123965172848946818024450865322273996281981874466155726372864 M0 M) : qP (qf_X18_enter N i1 i2 i3 M) (fun r => Fg 96042390103711543079930160244100058649881864471759526253123965172848946818024450865322273996281981874466155726372864 M0 r.2) := by
  unfold qf_X18_enter
  refine qP_ite ?_ ?_
  · refine qP_bnd (m0 := _) (Fg_wa (k := 380) h rfl rfl) (fun M1 h1 => ?_)
    refine qP_ite ?_ ?_
    · refine qP_ite ?_ ?_
      · exact (fr_X18_enter_J22 h1)
      · exact (fr_X18_enter_J22 h1)
    · exact qP_none
  · exact qP_none
theorem fr_X18_off_L60_b {N : Nat} {i1 i3 : Int} {M M0 : qm} (h : Fg 2420955317526026142907935506066036518916435758838062383297713556347627221720677158895803276392045679219147748639242190848 M0 M) : qP (qf_X18_off_L60_b N i1 i3 M) (pU (pU (fun r => Fg 2420955317526026142907935506066036518916435758838062383297713556347627221720677158895803276392045679219147748639242190848 M0 r.2) (fun r => Fg 2420955317526026142907935506066036518916435758838062383297713556347627221720677158895803276392045679219147748639242190848 M0 r.2)) (fun r => Fg 2420955317526026142907935506066036518916435758838062383297713556347627221720677158895803276392045679219147748639242190848 M0 r.2.2)) := by
  unfold qf_X18_off_L60_b
  refine qP_ite ?_ ?_
  · refine qP_ite ?_ ?_
    · exact qP_some h
    · refine qP_ite ?_ ?_
      · refine qP_ite ?_ ?_
        · refine qP_ite ?_ ?_
          · refine qP_ite ?_ ?_
            · exact (fr_X18_off_J121 h)
            · refine qP_ite ?_ ?_
              · refine qP_ite ?_ ?_
                · refine qP_bind (fr_X18_enter Fg_refl) (fun r1 k1 => ?_)
                  have h1 := Fg_tr h (Fg_mono k1 rfl)
                  exact (fr_X18_off_J121 h1)
                · exact qP_none
              · exact qP_none
          · exact qP_none
        · exact qP_none
      · exact qP_none
  · exact qP_none
theorem fr_X18_off_L60 (n : Nat) {N : Nat} {i1 i3 : Int} {M M0 : qm} (h : Fg 2420955317526026142907935506066036518916435758838062383297713556347627221720677158895803276392045679219147748639242190848 M0 M) : qP (qf_X18_off_L60 N n i1 i3 M) (pU (fun r => Fg 2420955317526026142907935506066036518916435758838062383297713556347627221720677158895803276392045679219147748639242190848 M0 r.2) (fun r => Fg 2420955317526026142907935506066036518916435758838062383297713556347627221720677158895803276392045679219147748639242190848 M0 r.2)) := by
  unfold qf_X18_off_L60
  exact qP_loop (I := fun s => Fg 2420955317526026142907935506066036518916435758838062383297713556347627221720677158895803276392045679219147748639242190848 M0 s.2.2) (fun s hs => fr_X18_off_L60_b hs) n _ h
theorem fr_X18_off {N : Nat} {i1 i2 : Int} {M M0 : qm} (h : Fg 2420955317526026142907935506066036518916435758838062383297713556347627221720677158895803276392045679219147748639242190848 M0 M) : qP (qf_X18_off N i1 i2 M) (fun r => Fg 2420955317526026142907935506066036518916435758838062383297713556347627221720677158895803276392045679219147748639242190848 M0 r.2) := by
  unfold qf_X18_off
  refine qP_pure (fun r1 => ?_)
  refine qP_bind (fr_X18_goes Fg_refl) (fun r2 k2 => ?_)
  have h2 := Fg_tr h (Fg_mono k2 rfl)
  refine qP_ite ?_ ?_
  · exact qP_some h2
  · refine qP_ite ?_ ?_
    · refine qP_bind (fr_X18_off_L60 _ h2) (fun r3 k3 => ?_)
      rcases r3 with x3 | x3
      · exact qP_some k3
      · obtain ⟨y3_0, y3_1⟩ := x3
        have h3 : Fg _ _ y3_1 := k3
        refine qP_ite ?_ ?_
        · refine qP_ite ?_ ?_
          · refine qP_bnd (m0 := _) (Fg_wa (k := 372) h3 rfl rfl) (fun M4 h4 => ?_)
            refine qP_ite ?_ ?_
            · refine qP_bnd (m0 := _) (Fg_wa (k := 371) h4 rfl rfl) (fun M5 h5 => ?_)
              exact qP_some h5
            · exact qP_none
          · exact qP_none
        · exact qP_none
    · refine qP_ite ?_ ?_
      · refine qP_ite ?_ ?_
        · refine qP_ite ?_ ?_
          · refine qP_bnd (m0 := _) (Fg_wa (k := 371) h2 rfl rfl) (fun M6 h6 => ?_)
            exact qP_some h6
          · exact qP_none
        · refine qP_ite ?_ ?_
          · refine qP_ite ?_ ?_
            · refine qP_bnd (m0 := _) (Fg_wa (k := 371) h2 rfl rfl) (fun M7 h7 => ?_)
              exact qP_some h7
            · exact qP_none
          · exact qP_none
      · exact qP_none
theorem fr_X10_putInto_J56 {N : Nat} {i5 a6 t0 t1 t2 : Int} {M M0 : qm} (h : Fg 72057594037927936 M0 M) : qP (qf_X10_putInto_J56 N i5 a6 t0 t1 t2 M) (fun r => Fg 72057594037927936 M0 r.2) := by
  unfold qf_X10_putInto_J56
  refine qP_ite ?_ ?_
  · refine qP_bnd (m0 := _) (Fg_wa (k := 56) h rfl rfl) (fun M1 h1 => ?_)
    refine qP_bnd (m0 := _) (Fg_wa (k := 56) h1 rfl rfl) (fun M2 h2 => ?_)
    exact qP_some h2
  · exact qP_none
theorem fr_X10_putInto_J41 {N : Nat} {i4 i5 a6 i7 t0 t1 t2 : Int} {M M0 : qm} (h : Fg 72057594037927936 M0 M) : qP (qf_X10_putInto_J41 N i4 i5 a6 i7 t0 t1 t2 M) (fun r => Fg 72057594037927936 M0 r.2) := by
  unfold qf_X10_putInto_J41
  refine qP_ite ?_ ?_
  · refine qP_bnd (m0 := _) (Fg_wa (k := 56) h rfl rfl) (fun M1 h1 => ?_)
    refine qP_ite ?_ ?_
    · exact (fr_X10_putInto_J56 h1)
    · exact (fr_X10_putInto_J56 h1)
  · exact qP_none
theorem fr_X10_putInto_J21 {N : Nat} {i2 i3 i4 i5 a6 t0 : Int} {M M0 : qm} (h : Fg 72057594037927936 M0 M) : qP (qf_X10_putInto_J21 N i2 i3 i4 i5 a6 t0 M) (fun r => Fg 72057594037927936 M0 r.2) := by
  unfold qf_X10_putInto_J21
  refine qP_bnd (m0 := _) (Fg_wa (k := 56) h rfl rfl) (fun M1 h1 => ?_)
  refine qP_ite ?_ ?_
  · exact (fr_X10_putInto_J41 h1)
  · exact (fr_X10_putInto_J41 h1)
theorem fr_X10_putInto {N : Nat} {i1 i2 i3 i4 i5 : Int} {M M0 : qm} (h : Fg 72057594037927936 M0 M) : qP (qf_X10_putInto N i1 i2 i3 i4 i5 M) (fun r => Fg 72057594037927936 M0 r.2) := by
  unfold qf_X10_putInto
  refine qP_ite ?_ ?_
  · refine qP_pure (fun r1 => ?_)
    refine qP_ite ?_ ?_
    · exact (fr_X10_putInto_J21 h)
    · exact (fr_X10_putInto_J21 h)
  · exact qP_none
theorem fr_X0_comeIn_J16 {N : Nat} {i1 i2 i3 i4 t0 : Int} {M M0 : qm} (h : Fg 72057594037927936 M0 M) : qP (qf_X0_comeIn_J16 N i1 i2 i3 i4 t0 M) (fun r => Fg 72057594037927936 M0 r.2) := by
  unfold qf_X0_comeIn_J16
  refine qP_pure (fun r1 => ?_)
  refine qP_pure (fun r2 => ?_)
  refine qP_bind (fr_X10_putInto Fg_refl) (fun r3 k3 => ?_)
  have h3 := Fg_tr h (Fg_mono k3 rfl)
  exact qP_some h3
theorem fr_X0_comeIn {N : Nat} {i1 i2 i3 i4 : Int} {M M0 : qm} (h : Fg 72057594037927936 M0 M) : qP (qf_X0_comeIn N i1 i2 i3 i4 M) (fun r => Fg 72057594037927936 M0 r.2) := by
  unfold qf_X0_comeIn
  refine qP_pure (fun r1 => ?_)
  refine qP_ite ?_ ?_
  · exact (fr_X0_comeIn_J16 h)
  · exact (fr_X0_comeIn_J16 h)
theorem fr_X0_noteAgainst_J56 {N : Nat} {M M0 : qm} (h : Fg 18926359419625999958016 M0 M) : qP (qf_X0_noteAgainst_J56 N M) (fun r => Fg 18926359419625999958016 M0 r.2) := by
  unfold qf_X0_noteAgainst_J56
  refine qP_bnd (m0 := _) (Fg_w h rfl) (fun M1 h1 => ?_)
  exact qP_some h1
theorem fr_X0_noteAgainst {N : Nat} {i1 i2 i3 i4 : Int} {M M0 : qm} (h : Fg 18926359419625999958016 M0 M) : qP (qf_X0_noteAgainst N i1 i2 i3 i4 M) (fun r => Fg 18926359419625999958016 M0 r.2) := by
  unfold qf_X0_noteAgainst
  refine qP_ite ?_ ?_
  · exact (fr_X0_noteAgainst_J56 h)
  · refine qP_ite ?_ ?_
    · refine qP_bnd (m0 := _) (Fg_wa (k := 74) h rfl rfl) (fun M1 h1 => ?_)
      refine qP_ite ?_ ?_
      · refine qP_bnd (m0 := _) (Fg_wa (k := 74) h1 rfl rfl) (fun M2 h2 => ?_)
        refine qP_ite ?_ ?_
        · refine qP_bnd (m0 := _) (Fg_wa (k := 74) h2 rfl rfl) (fun M3 h3 => ?_)
          refine qP_ite ?_ ?_
          · refine qP_bnd (m0 := _) (Fg_wa (k := 74) h3 rfl rfl) (fun M4 h4 => ?_)
            exact (fr_X0_noteAgainst_J56 h4)
          · exact qP_none
        · exact qP_none
      · exact qP_none
    · exact qP_none
theorem fr_X0_takeRow_J32 {N : Nat} {i1 i2 i3 i4 : Int} {M M0 : qm} (h : Fg 18926431477220037885952 M0 M) : qP (qf_X0_takeRow_J32 N i1 i2 i3 i4 M) (fun r => Fg 18926431477220037885952 M0 r.2) := by
  unfold qf_X0_takeRow_J32
  refine qP_pure (fun r1 => ?_)
  refine qP_ite ?_ ?_
  · exact qP_some h
  · refine qP_bind (fr_X0_noteAgainst Fg_refl) (fun r2 k2 => ?_)
    have h2 := Fg_tr h (Fg_mono k2 rfl)
    exact qP_some h2
theorem fr_X0_takeRow {N : Nat} {i1 i2 i3 i4 i5 : Int} {M M0 : qm} (h : Fg 18926431477220037885952 M0 M) : qP (qf_X0_takeRow N i1 i2 i3 i4 i5 M) (fun r => Fg 18926431477220037885952 M0 r.2) := by
  unfold qf_X0_takeRow
  refine qP_ite ?_ ?_
  · refine qP_pure (fun r1 => ?_)
    refine qP_ite ?_ ?_
    · refine qP_bind (fr_X0_comeIn Fg_refl) (fun r2 k2 => ?_)
      have h2 := Fg_tr h (Fg_mono k2 rfl)
      exact (fr_X0_takeRow_J32 h2)
    · exact (fr_X0_takeRow_J32 h)
  · exact qP_none
theorem fr_X0_joinAgain_L37_b {N : Nat} {i1 i2 i3 i4 : Int} {M M0 : qm} (h : Fg 19221579382399390711808 M0 M) : qP (qf_X0_joinAgain_L37_b N i1 i2 i3 i4 M) (pU (pU (fun r => Fg 19221579382399390711808 M0 r.2) (fun r => Fg 19221579382399390711808 M0 r.2)) (fun r => Fg 19221579382399390711808 M0 r.2.2.2.2)) := by
  unfold qf_X0_joinAgain_L37_b
  refine qP_ite ?_ ?_
  · exact qP_some h
  · refine qP_ite ?_ ?_
    · exact qP_some h
    · refine qP_ite ?_ ?_
      · refine qP_ite ?_ ?_
        · refine qP_ite ?_ ?_
          · refine qP_bind (fr_X0_takeRow Fg_refl) (fun r1 k1 => ?_)
            have h1 := Fg_tr h (Fg_mono k1 rfl)
            exact qP_some h1
          · exact qP_none
        · exact qP_none
      · exact qP_none
theorem fr_X0_joinAgain_L37 (n : Nat) {N : Nat} {i1 i2 i3 i4 : Int} {M M0 : qm} (h : Fg 19221579382399390711808 M0 M) : qP (qf_X0_joinAgain_L37 N n i1 i2 i3 i4 M) (pU (fun r => Fg 19221579382399390711808 M0 r.2) (fun r => Fg 19221579382399390711808 M0 r.2)) := by
  unfold qf_X0_joinAgain_L37
  exact qP_loop (I := fun s => Fg 19221579382399390711808 M0 s.2.2.2.2) (fun s hs => fr_X0_joinAgain_L37_b hs) n _ h
theorem fr_X0_joinAgain {N : Nat} {i1 i2 : Int} {M M0 : qm} (h : Fg 19221579382399390711808 M0 M) : qP (qf_X0_joinAgain N i1 i2 M) (fun r => Fg 19221579382399390711808 M0 r.2) := by
  unfold qf_X0_joinAgain
  refine qP_pure (fun r1 => ?_)
  refine qP_ite ?_ ?_
  · exact qP_some h
  · refine qP_bind (fr_X0_setFact Fg_refl) (fun r2 k2 => ?_)
    have h2 := Fg_tr h (Fg_mono k2 rfl)
    refine qP_pure (fun r3 => ?_)
    refine qP_bind (fr_X0_setFact Fg_refl) (fun r4 k4 => ?_)
    have h4 := Fg_tr h2 (Fg_mono k4 rfl)
    refine qP_bind (fr_X0_joinAgain_L37 _ h4) (fun r5 k5 => ?_)
    rcases r5 with x5 | x5
    · exact qP_some k5
    · obtain ⟨y5_0, y5_1⟩ := x5
      have h5 : Fg _ _ y5_1 := k5
      exact qP_some h5
theorem fr_X0_goOff {N : Nat} {i1 : Int} {M M0 : qm} (h : Fg 295147905179352825856 M0 M) : qP (qf_X0_goOff N i1 M) (fun r => Fg 295147905179352825856 M0 r.2) := by
  unfold qf_X0_goOff
  refine qP_pure (fun r1 => ?_)
  refine qP_ite ?_ ?_
  · refine qP_bind (fr_X0_setFact Fg_refl) (fun r2 k2 => ?_)
    have h2 := Fg_tr h (Fg_mono k2 rfl)
    exact qP_some h2
  · exact qP_some h
theorem fr_X11_off {N : Nat} {i1 i2 : Int} {M M0 : qm} (h : Fg 19221579382399390711808 M0 M) : qP (qf_X11_off N i1 i2 M) (fun r => Fg 19221579382399390711808 M0 r.2) := by
  unfold qf_X11_off
  refine qP_pure (fun r1 => ?_)
  refine qP_pure (fun r2 => ?_)
  rcases r2 with x3 | x3
  · refine qP_pure (fun r4 => ?_)
    rcases r4 with x5 | x5
    · refine qP_ite ?_ ?_
      · refine qP_bind (fr_X0_joinAgain Fg_refl) (fun r6 k6 => ?_)
        have h6 := Fg_tr h (Fg_mono k6 rfl)
        exact qP_some h6
      · refine qP_bind (fr_X0_goOff Fg_refl) (fun r7 k7 => ?_)
        have h7 := Fg_tr h (Fg_mono k7 rfl)
        exact qP_some h7
    · exact qP_some h
  · exact qP_some h
theorem fr_L_off {N : Nat} {i1 i2 : Int} {M M0 : qm} (h : Fg 165263992197562149737978827008192759957101170741070304821162198818601447809077836456297302609928821231119382388655230287872 M0 M) : qP (qf_L_off N i1 i2 M) (fun r => Fg 165263992197562149737978827008192759957101170741070304821162198818601447809077836456297302609928821231119382388655230287872 M0 r.2) := by
  unfold qf_L_off
  refine qP_bind (fr_X11_off Fg_refl) (fun r1 k1 => ?_)
  have h1 := Fg_tr h (Fg_mono k1 rfl)
  obtain ⟨x1, m1⟩ := r1
  rcases x1 with x1 | x1
  · have h1 : Fg _ _ m1 := h1
    refine qP_bnd (m0 := _) (Fg_wa (k := 406) h1 rfl rfl) (fun M2 h2 => ?_)
    exact qP_some h2
  · have h1 : Fg _ _ m1 := h1
    refine qP_ite ?_ ?_
    · exact qP_some h1
    · refine qP_ite ?_ ?_
      · exact qP_some h1
      · exact qP_none
theorem fr_X0_setMoment {N : Nat} {i1 i2 : Int} {M M0 : qm} (h : Fg 221360928884514619392 M0 M) : qP (qf_X0_setMoment N i1 i2 M) (fun r => Fg 221360928884514619392 M0 r.2) := by
  unfold qf_X0_setMoment
  refine qP_bnd (m0 := _) (Fg_w h rfl) (fun M1 h1 => ?_)
  refine qP_ite ?_ ?_
  · refine qP_bnd (m0 := _) (Fg_w h1 rfl) (fun M2 h2 => ?_)
    exact qP_some h2
  · exact qP_none
theorem fr_X0_letIn_J15 {N : Nat} {i1 i2 i3 : Int} {M M0 : qm} (h : Fg 885515773132096405504 M0 M) : qP (qf_X0_letIn_J15 N i1 i2 i3 M) (fun r => Fg 885515773132096405504 M0 r.2) := by
  unfold qf_X0_letIn_J15
  refine qP_ite ?_ ?_
  · refine qP_bind (fr_X0_comeIn Fg_refl) (fun r1 k1 => ?_)
    have h1 := Fg_tr h (Fg_mono k1 rfl)
    exact qP_some h1
  · exact qP_none
theorem fr_X0_letIn {N : Nat} {i1 i2 i3 : Int} {M M0 : qm} (h : Fg 885515773132096405504 M0 M) : qP (qf_X0_letIn N i1 i2 i3 M) (fun r => Fg 885515773132096405504 M0 r.2) := by
  unfold qf_X0_letIn
  refine qP_ite ?_ ?_
  · refine qP_pure (fun r1 => ?_)
    refine qP_ite ?_ ?_
    · exact (fr_X0_letIn_J15 h)
    · refine qP_pure (fun r2 => ?_)
      refine qP_ite ?_ ?_
      · exact qP_some h
      · refine qP_ite ?_ ?_
        · refine qP_bnd (m0 := _) (Fg_wa (k := 69) h rfl rfl) (fun M3 h3 => ?_)
          refine qP_ite ?_ ?_
          · refine qP_bnd (m0 := _) (Fg_wa (k := 69) h3 rfl rfl) (fun M4 h4 => ?_)
            refine qP_ite ?_ ?_
            · refine qP_bnd (m0 := _) (Fg_wa (k := 69) h4 rfl rfl) (fun M5 h5 => ?_)
              refine qP_bind (fr_X0_setFact Fg_refl) (fun r6 k6 => ?_)
              have h6 := Fg_tr h5 (Fg_mono k6 rfl)
              exact qP_some h6
            · exact qP_none
          · exact qP_none
        · exact qP_none
  · exact (fr_X0_letIn_J15 h)
theorem fr_X0_askOne_J35 {N : Nat} {i1 i2 i3 i4 : Int} {M M0 : qm} (h : Fg 885515773132096405504 M0 M) : qP (qf_X0_askOne_J35 N i1 i2 i3 i4 M) (fun r => Fg 885515773132096405504 M0 r.2) := by
  unfold qf_X0_askOne_J35
  refine qP_ite ?_ ?_
  · refine qP_bind (fr_X0_letIn Fg_refl) (fun r1 k1 => ?_)
    have h1 := Fg_tr h (Fg_mono k1 rfl)
    exact qP_some h1
  · exact qP_some h
theorem fr_X0_askOne {N : Nat} {i1 i2 i3 : Int} {M M0 : qm} (h : Fg 885515773132096405504 M0 M) : qP (qf_X0_askOne N i1 i2 i3 M) (fun r => Fg 885515773132096405504 M0 r.2) := by
  unfold qf_X0_askOne
  refine qP_pure (fun r1 => ?_)
  refine qP_ite ?_ ?_
  · refine qP_ite ?_ ?_
    · refine qP_pure (fun r2 => ?_)
      refine qP_ite ?_ ?_
      · exact (fr_X0_askOne_J35 h)
      · exact (fr_X0_askOne_J35 h)
    · exact (fr_X0_askOne_J35 h)
  · exact (fr_X0_askOne_J35 h)
theorem fr_X11_ask_J60 {N : Nat} {i1 i2 i3 t0 : Int} {M M0 : qm} (h : Fg 1106876702016611024896 M0 M) : qP (qf_X11_ask_J60 N i1 i2 i3 t0 M) (fun r => Fg 1106876702016611024896 M0 r.2) := by
  unfold qf_X11_ask_J60
  refine qP_pure (fun r1 => ?_)
  rcases r1 with x2 | x2
  · refine qP_pure (fun r3 => ?_)
    refine qP_bind (fr_X0_setMoment Fg_refl) (fun r4 k4 => ?_)
    have h4 := Fg_tr h (Fg_mono k4 rfl)
    refine qP_bind (fr_X0_askOne Fg_refl) (fun r5 k5 => ?_)
    have h5 := Fg_tr h4 (Fg_mono k5 rfl)
    exact qP_some h5
  · exact qP_some h
theorem fr_X11_ask_J59 {N : Nat} {i1 i2 i3 : Int} {M M0 : qm} (h : Fg 1106876702016611024896 M0 M) : qP (qf_X11_ask_J59 N i1 i2 i3 M) (fun r => Fg 1106876702016611024896 M0 r.2) := by
  unfold qf_X11_ask_J59
  exact (fr_X11_ask_J60 h)
theorem fr_X11_ask_J33 {N : Nat} {i1 i2 i3 t0 : Int} {M M0 : qm} (h : Fg 1106876702016611024896 M0 M) : qP (qf_X11_ask_J33 N i1 i2 i3 t0 M) (fun r => Fg 1106876702016611024896 M0 r.2) := by
  unfold qf_X11_ask_J33
  refine qP_pure (fun r1 => ?_)
  rcases r1 with x2 | x2
  · refine qP_ite ?_ ?_
    · exact (fr_X11_ask_J59 h)
    · refine qP_pure (fun r3 => ?_)
      refine qP_ite ?_ ?_
      · exact (fr_X11_ask_J59 h)
      · exact (fr_X11_ask_J60 h)
  · exact qP_some h
theorem fr_X11_ask_J32 {N : Nat} {i1 i2 i3 : Int} {M M0 : qm} (h : Fg 1106876702016611024896 M0 M) : qP (qf_X11_ask_J32 N i1 i2 i3 M) (fun r => Fg 1106876702016611024896 M0 r.2) := by
  unfold qf_X11_ask_J32
  exact (fr_X11_ask_J33 h)
theorem fr_X11_ask {N : Nat} {i1 i2 i3 : Int} {M M0 : qm} (h : Fg 1106876702016611024896 M0 M) : qP (qf_X11_ask N i1 i2 i3 M) (fun r => Fg 1106876702016611024896 M0 r.2) := by
  unfold qf_X11_ask
  refine qP_pure (fun r1 => ?_)
  refine qP_ite ?_ ?_
  · exact (fr_X11_ask_J32 h)
  · refine qP_pure (fun r2 => ?_)
    refine qP_ite ?_ ?_
    · exact (fr_X11_ask_J32 h)
    · refine qP_pure (fun r3 => ?_)
      refine qP_ite ?_ ?_
      · exact (fr_X11_ask_J32 h)
      · exact (fr_X11_ask_J33 h)
theorem fr_L_ask {N : Nat} {i1 i2 i3 : Int} {M M0 : qm} (h : Fg 165263992197562149737978827008192759957101170741070304821162198818601447809077836456297302609928821213004679708272450600960 M0 M) : qP (qf_L_ask N i1 i2 i3 M) (fun r => Fg 165263992197562149737978827008192759957101170741070304821162198818601447809077836456297302609928821213004679708272450600960 M0 r.2) := by
  unfold qf_L_ask
  refine qP_bind (fr_X11_ask Fg_refl) (fun r1 k1 => ?_)
  have h1 := Fg_tr h (Fg_mono k1 rfl)
  obtain ⟨x1, m1⟩ := r1
  rcases x1 with x1 | x1
  · have h1 : Fg _ _ m1 := h1
    refine qP_bnd (m0 := _) (Fg_wa (k := 406) h1 rfl rfl) (fun M2 h2 => ?_)
    exact qP_some h2
  · have h1 : Fg _ _ m1 := h1
    refine qP_ite ?_ ?_
    · exact qP_some h1
    · refine qP_ite ?_ ?_
      · exact qP_some h1
      · exact qP_none
theorem fr_X18_let_J19 {N : Nat} {i1 i2 i3 : Int} {M M0 : qm} (h : Fg 96186684559997167393451689931966795516843826407564453425980221130139885740527492408088683662742742063580437811298304 M0 M) : qP (qf_X18_let_J19 N i1 i2 i3 M) (fun r => Fg 96186684559997167393451689931966795516843826407564453425980221130139885740527492408088683662742742063580437811298304 M0 r.2) := by
  unfold qf_X18_let_J19
  refine qP_ite ?_ ?_
  · refine qP_bind (fr_X18_enter Fg_refl) (fun r1 k1 => ?_)
    have h1 := Fg_tr h (Fg_mono k1 rfl)
    exact qP_some h1
  · exact qP_none
theorem fr_X18_let {N : Nat} {i1 i2 i3 : Int} {M M0 : qm} (h : Fg 96186684559997167393451689931966795516843826407564453425980221130139885740527492408088683662742742063580437811298304 M0 M) : qP (qf_X18_let N i1 i2 i3 M) (fun r => Fg 96186684559997167393451689931966795516843826407564453425980221130139885740527492408088683662742742063580437811298304 M0 r.2) := by
  unfold qf_X18_let
  refine qP_ite ?_ ?_
  · refine qP_ite ?_ ?_
    · exact (fr_X18_let_J19 h)
    · refine qP_pure (fun r1 => ?_)
      refine qP_ite ?_ ?_
      · refine qP_ite ?_ ?_
        · refine qP_ite ?_ ?_
          · refine qP_bnd (m0 := _) (Fg_wa (k := 373) h rfl rfl) (fun M2 h2 => ?_)
            refine qP_ite ?_ ?_
            · refine qP_bnd (m0 := _) (Fg_wa (k := 374) h2 rfl rfl) (fun M3 h3 => ?_)
              refine qP_ite ?_ ?_
              · refine qP_bnd (m0 := _) (Fg_wa (k := 375) h3 rfl rfl) (fun M4 h4 => ?_)
                refine qP_ite ?_ ?_
                · refine qP_ite ?_ ?_
                  · refine qP_bnd (m0 := _) (Fg_wa (k := 372) h4 rfl rfl) (fun M5 h5 => ?_)
                    exact qP_some h5
                  · exact qP_none
                · exact qP_none
              · exact qP_none
            · exact qP_none
          · exact qP_none
        · exact qP_none
      · exact (fr_X18_let_J19 h)
  · exact qP_none
theorem fr_X18_ask_J103 {N : Nat} {i1 i2 i3 t0 : Int} {M M0 : qm} (h : Fg 96186684559997167393451689931966795516843826407564453425980221130141347242164823311006887347575458346600093743841280 M0 M) : qP (qf_X18_ask_J103 N i1 i2 i3 t0 M) (fun r => Fg 96186684559997167393451689931966795516843826407564453425980221130141347242164823311006887347575458346600093743841280 M0 r.2) := by
  unfold qf_X18_ask_J103
  refine qP_ite ?_ ?_
  · refine qP_bind (fr_X18_let Fg_refl) (fun r1 k1 => ?_)
    have h1 := Fg_tr h (Fg_mono k1 rfl)
    exact qP_some h1
  · exact qP_some h
theorem fr_X18_ask_J101 {N : Nat} {i1 i2 i3 i5 : Int} {M M0 : qm} (h : Fg 96186684559997167393451689931966795516843826407564453425980221130141347242164823311006887347575458346600093743841280 M0 M) : qP (qf_X18_ask_J101 N i1 i2 i3 i5 M) (fun r => Fg 96186684559997167393451689931966795516843826407564453425980221130141347242164823311006887347575458346600093743841280 M0 r.2) := by
  unfold qf_X18_ask_J101
  exact (fr_X18_ask_J103 h)
theorem fr_X18_ask_J58 {N : Nat} {i1 i2 i3 t1 t2 : Int} {M M0 : qm} (h : Fg 96186684559997167393451689931966795516843826407564453425980221130141347242164823311006887347575458346600093743841280 M0 M) : qP (qf_X18_ask_J58 N i1 i2 i3 t1 t2 M) (fun r => Fg 96186684559997167393451689931966795516843826407564453425980221130141347242164823311006887347575458346600093743841280 M0 r.2) := by
  unfold qf_X18_ask_J58
  refine qP_bind (fr_X18_goes Fg_refl) (fun r1 k1 => ?_)
  have h1 := Fg_tr h (Fg_mono k1 rfl)
  refine qP_ite ?_ ?_
  · exact qP_some h1
  · refine qP_pure (fun r2 => ?_)
    refine qP_ite ?_ ?_
    · refine qP_ite ?_ ?_
      · refine qP_ite ?_ ?_
        · exact (fr_X18_ask_J101 h1)
        · refine qP_pure (fun r3 => ?_)
          refine qP_ite ?_ ?_
          · exact (fr_X18_ask_J103 h1)
          · exact (fr_X18_ask_J101 h1)
      · exact qP_none
    · exact (fr_X18_ask_J101 h1)
theorem fr_X18_ask_J57 {N : Nat} {i1 i2 i3 t1 : Int} {M M0 : qm} (h : Fg 96186684559997167393451689931966795516843826407564453425980221130141347242164823311006887347575458346600093743841280 M0 M) : qP (qf_X18_ask_J57 N i1 i2 i3 t1 M) (fun r => Fg 96186684559997167393451689931966795516843826407564453425980221130141347242164823311006887347575458346600093743841280 M0 r.2) := by
  unfold qf_X18_ask_J57
  exact (fr_X18_ask_J58 h)
theorem fr_X18_ask_J53 {N : Nat} {i1 i2 i3 t1 : Int} {M M0 : qm} (h : Fg 96186684559997167393451689931966795516843826407564453425980221130141347242164823311006887347575458346600093743841280 M0 M) : qP (qf_X18_ask_J53 N i1 i2 i3 t1 M) (fun r => Fg 96186684559997167393451689931966795516843826407564453425980221130141347242164823311006887347575458346600093743841280 M0 r.2) := by
  unfold qf_X18_ask_J53
  exact (fr_X18_ask_J58 h)
theorem fr_X18_ask_J25 {N : Nat} {i1 i2 i3 t0 : Int} {M M0 : qm} (h : Fg 96186684559997167393451689931966795516843826407564453425980221130141347242164823311006887347575458346600093743841280 M0 M) : qP (qf_X18_ask_J25 N i1 i2 i3 t0 M) (fun r => Fg 96186684559997167393451689931966795516843826407564453425980221130141347242164823311006887347575458346600093743841280 M0 r.2) := by
  unfold qf_X18_ask_J25
  refine qP_ite ?_ ?_
  · exact (fr_X18_ask_J57 h)
  · refine qP_ite ?_ ?_
    · exact (fr_X18_ask_J53 h)
    · refine qP_ite ?_ ?_
      · refine qP_ite ?_ ?_
        · exact (fr_X18_ask_J57 h)
        · exact (fr_X18_ask_J53 h)
      · exact qP_none
theorem fr_X18_ask_J24 {N : Nat} {i1 i2 i3 : Int} {M M0 : qm} (h : Fg 96186684559997167393451689931966795516843826407564453425980221130141347242164823311006887347575458346600093743841280 M0 M) : qP (qf_X18_ask_J24 N i1 i2 i3 M) (fun r => Fg 96186684559997167393451689931966795516843826407564453425980221130141347242164823311006887347575458346600093743841280 M0 r.2) := by
  unfold qf_X18_ask_J24
  exact (fr_X18_ask_J25 h)
theorem fr_X18_ask {N : Nat} {i1 i2 i3 : Int} {M M0 : qm} (h : Fg 96186684559997167393451689931966795516843826407564453425980221130141347242164823311006887347575458346600093743841280 M0 M) : qP (qf_X18_ask N i1 i2 i3 M) (fun r => Fg 96186684559997167393451689931966795516843826407564453425980221130141347242164823311006887347575458346600093743841280 M0 r.2) := by
  unfold qf_X18_ask
  refine qP_pure (fun r1 => ?_)
  refine qP_ite ?_ ?_
  · exact (fr_X18_ask_J24 h)
  · refine qP_pure (fun r2 => ?_)
    refine qP_ite ?_ ?_
    · exact (fr_X18_ask_J24 h)
    · exact (fr_X18_ask_J25 h)
theorem fr_X0_askTwo_J60 {N : Nat} {i1 i2 i3 i4 i5 : Int} {M M0 : qm} (h : Fg 885515773132096405504 M0 M) : qP (qf_X0_askTwo_J60 N i1 i2 i3 i4 i5 M) (fun r => Fg 885515773132096405504 M0 r.2) := by
  unfold qf_X0_askTwo_J60
  refine qP_ite ?_ ?_
  · refine qP_bind (fr_X0_letIn Fg_refl) (fun r1 k1 => ?_)
    have h1 := Fg_tr h (Fg_mono k1 rfl)
    refine qP_bind (fr_X0_letIn Fg_refl) (fun r2 k2 => ?_)
    have h2 := Fg_tr h1 (Fg_mono k2 rfl)
    exact qP_some h2
  · exact qP_some h
theorem fr_X0_askTwo_J25 {N : Nat} {i1 i2 i3 i4 i5 : Int} {M M0 : qm} (h : Fg 885515773132096405504 M0 M) : qP (qf_X0_askTwo_J25 N i1 i2 i3 i4 i5 M) (fun r => Fg 885515773132096405504 M0 r.2) := by
  unfold qf_X0_askTwo_J25
  refine qP_ite ?_ ?_
  · refine qP_ite ?_ ?_
    · refine qP_ite ?_ ?_
      · refine qP_ite ?_ ?_
        · refine qP_ite ?_ ?_
          · exact (fr_X0_askTwo_J60 h)
          · exact (fr_X0_askTwo_J60 h)
        · exact qP_none
      · exact qP_none
    · exact (fr_X0_askTwo_J60 h)
  · exact (fr_X0_askTwo_J60 h)
theorem fr_X0_askTwo {N : Nat} {i1 i2 i3 i4 : Int} {M M0 : qm} (h : Fg 885515773132096405504 M0 M) : qP (qf_X0_askTwo N i1 i2 i3 i4 M) (fun r => Fg 885515773132096405504 M0 r.2) := by
  unfold qf_X0_askTwo
  refine qP_pure (fun r1 => ?_)
  refine qP_ite ?_ ?_
  · refine qP_pure (fun r2 => ?_)
    exact (fr_X0_askTwo_J25 h)
  · exact (fr_X0_askTwo_J25 h)
theorem fr_X11_both_J82 {N : Nat} {i1 i2 i3 i4 t0 : Int} {M M0 : qm} (h : Fg 1106876702016611024896 M0 M) : qP (qf_X11_both_J82 N i1 i2 i3 i4 t0 M) (fun r => Fg 1106876702016611024896 M0 r.2) := by
  unfold qf_X11_both_J82
  refine qP_pure (fun r1 => ?_)
  rcases r1 with x2 | x2
  · refine qP_pure (fun r3 => ?_)
    refine qP_bind (fr_X0_setMoment Fg_refl) (fun r4 k4 => ?_)
    have h4 := Fg_tr h (Fg_mono k4 rfl)
    refine qP_bind (fr_X0_askTwo Fg_refl) (fun r5 k5 => ?_)
    have h5 := Fg_tr h4 (Fg_mono k5 rfl)
    exact qP_some h5
  · exact qP_some h
theorem fr_X11_both_J81 {N : Nat} {i1 i2 i3 i4 : Int} {M M0 : qm} (h : Fg 1106876702016611024896 M0 M) : qP (qf_X11_both_J81 N i1 i2 i3 i4 M) (fun r => Fg 1106876702016611024896 M0 r.2) := by
  unfold qf_X11_both_J81
  exact (fr_X11_both_J82 h)
theorem fr_X11_both_J55 {N : Nat} {i1 i2 i3 i4 t0 : Int} {M M0 : qm} (h : Fg 1106876702016611024896 M0 M) : qP (qf_X11_both_J55 N i1 i2 i3 i4 t0 M) (fun r => Fg 1106876702016611024896 M0 r.2) := by
  unfold qf_X11_both_J55
  refine qP_pure (fun r1 => ?_)
  rcases r1 with x2 | x2
  · refine qP_ite ?_ ?_
    · exact (fr_X11_both_J81 h)
    · refine qP_pure (fun r3 => ?_)
      refine qP_ite ?_ ?_
      · exact (fr_X11_both_J81 h)
      · exact (fr_X11_both_J82 h)
  · exact qP_some h
theorem fr_X11_both_J54 {N : Nat} {i1 i2 i3 i4 : Int} {M M0 : qm} (h : Fg 1106876702016611024896 M0 M) : qP (qf_X11_both_J54 N i1 i2 i3 i4 M) (fun r => Fg 1106876702016611024896 M0 r.2) := by
  unfold qf_X11_both_J54
  exact (fr_X11_both_J55 h)
theorem fr_X11_both_J26 {N : Nat} {i1 i2 i3 i4 t0 : Int} {M M0 : qm} (h : Fg 1106876702016611024896 M0 M) : qP (qf_X11_both_J26 N i1 i2 i3 i4 t0 M) (fun r => Fg 1106876702016611024896 M0 r.2) := by
  unfold qf_X11_both_J26
  refine qP_pure (fun r1 => ?_)
  rcases r1 with x2 | x2
  · refine qP_pure (fun r3 => ?_)
    refine qP_ite ?_ ?_
    · exact (fr_X11_both_J54 h)
    · refine qP_pure (fun r4 => ?_)
      refine qP_ite ?_ ?_
      · exact (fr_X11_both_J54 h)
      · exact (fr_X11_both_J55 h)
  · exact qP_some h
theorem fr_X11_both_J25 {N : Nat} {i1 i2 i3 i4 : Int} {M M0 : qm} (h : Fg 1106876702016611024896 M0 M) : qP (qf_X11_both_J25 N i1 i2 i3 i4 M) (fun r => Fg 1106876702016611024896 M0 r.2) := by
  unfold qf_X11_both_J25
  exact (fr_X11_both_J26 h)
theorem fr_X11_both {N : Nat} {i1 i2 i3 i4 : Int} {M M0 : qm} (h : Fg 1106876702016611024896 M0 M) : qP (qf_X11_both N i1 i2 i3 i4 M) (fun r => Fg 1106876702016611024896 M0 r.2) := by
  unfold qf_X11_both
  refine qP_pure (fun r1 => ?_)
  refine qP_ite ?_ ?_
  · exact (fr_X11_both_J25 h)
  · refine qP_pure (fun r2 => ?_)
    refine qP_ite ?_ ?_
    · exact (fr_X11_both_J25 h)
    · refine qP_ite ?_ ?_
      · exact (fr_X11_both_J25 h)
      · exact (fr_X11_both_J26 h)
theorem fr_L_both {N : Nat} {i1 i2 i3 i4 : Int} {M M0 : qm} (h : Fg 165263992197562149737978827008192759957101170741070304821162198818601447809077836456297302609928821213004679708272450600960 M0 M) : qP (qf_L_both N i1 i2 i3 i4 M) (fun r => Fg 165263992197562149737978827008192759957101170741070304821162198818601447809077836456297302609928821213004679708272450600960 M0 r.2) := by
  unfold qf_L_both
  refine qP_bind (fr_X11_both Fg_refl) (fun r1 k1 => ?_)
  have h1 := Fg_tr h (Fg_mono k1 rfl)
  obtain ⟨x1, m1⟩ := r1
  rcases x1 with x1 | x1
  · have h1 : Fg _ _ m1 := h1
    refine qP_bnd (m0 := _) (Fg_wa (k := 406) h1 rfl rfl) (fun M2 h2 => ?_)
    exact qP_some h2
  · have h1 : Fg _ _ m1 := h1
    refine qP_ite ?_ ?_
    · exact qP_some h1
    · refine qP_ite ?_ ?_
      · exact qP_some h1
      · exact qP_none
theorem fr_X18_both_J147 {N : Nat} {i1 i2 i3 i4 t0 : Int} {M M0 : qm} (h : Fg 96186684559997167393451689931966795516843826407564453425980221130141347242164823311006887347575458346600093743841280 M0 M) : qP (qf_X18_both_J147 N i1 i2 i3 i4 t0 M) (fun r => Fg 96186684559997167393451689931966795516843826407564453425980221130141347242164823311006887347575458346600093743841280 M0 r.2) := by
  unfold qf_X18_both_J147
  refine qP_ite ?_ ?_
  · refine qP_bind (fr_X18_let Fg_refl) (fun r1 k1 => ?_)
    have h1 := Fg_tr h (Fg_mono k1 rfl)
    refine qP_bind (fr_X18_let Fg_refl) (fun r2 k2 => ?_)
    have h2 := Fg_tr h1 (Fg_mono k2 rfl)
    exact qP_some h2
  · exact qP_some h
theorem fr_X18_both_J145 {N : Nat} {i1 i2 i3 i4 i6 : Int} {M M0 : qm} (h : Fg 96186684559997167393451689931966795516843826407564453425980221130141347242164823311006887347575458346600093743841280 M0 M) : qP (qf_X18_both_J145 N i1 i2 i3 i4 i6 M) (fun r => Fg 96186684559997167393451689931966795516843826407564453425980221130141347242164823311006887347575458346600093743841280 M0 r.2) := by
  unfold qf_X18_both_J145
  exact (fr_X18_both_J147 h)
theorem fr_X18_both_J111 {N : Nat} {i1 i2 i3 i4 t0 : Int} {M M0 : qm} (h : Fg 96186684559997167393451689931966795516843826407564453425980221130141347242164823311006887347575458346600093743841280 M0 M) : qP (qf_X18_both_J111 N i1 i2 i3 i4 t0 M) (fun r => Fg 96186684559997167393451689931966795516843826407564453425980221130141347242164823311006887347575458346600093743841280 M0 r.2) := by
  unfold qf_X18_both_J111
  refine qP_ite ?_ ?_
  · refine qP_ite ?_ ?_
    · refine qP_ite ?_ ?_
      · refine qP_ite ?_ ?_
        · refine qP_pure (fun r1 => ?_)
          refine qP_ite ?_ ?_
          · exact (fr_X18_both_J147 h)
          · exact (fr_X18_both_J145 h)
        · exact (fr_X18_both_J145 h)
      · exact qP_none
    · exact qP_none
  · exact (fr_X18_both_J145 h)
theorem fr_X18_both_J75 {N : Nat} {i1 i2 i3 i4 t1 t2 : Int} {M M0 : qm} (h : Fg 96186684559997167393451689931966795516843826407564453425980221130141347242164823311006887347575458346600093743841280 M0 M) : qP (qf_X18_both_J75 N i1 i2 i3 i4 t1 t2 M) (fun r => Fg 96186684559997167393451689931966795516843826407564453425980221130141347242164823311006887347575458346600093743841280 M0 r.2) := by
  unfold qf_X18_both_J75
  refine qP_bind (fr_X18_goes Fg_refl) (fun r1 k1 => ?_)
  have h1 := Fg_tr h (Fg_mono k1 rfl)
  refine qP_ite ?_ ?_
  · exact qP_some h1
  · refine qP_pure (fun r2 => ?_)
    refine qP_ite ?_ ?_
    · refine qP_pure (fun r3 => ?_)
      exact (fr_X18_both_J111 h1)
    · exact (fr_X18_both_J111 h1)
theorem fr_X18_both_J74 {N : Nat} {i1 i2 i3 i4 t1 : Int} {M M0 : qm} (h : Fg 96186684559997167393451689931966795516843826407564453425980221130141347242164823311006887347575458346600093743841280 M0 M) : qP (qf_X18_both_J74 N i1 i2 i3 i4 t1 M) (fun r => Fg 96186684559997167393451689931966795516843826407564453425980221130141347242164823311006887347575458346600093743841280 M0 r.2) := by
  unfold qf_X18_both_J74
  exact (fr_X18_both_J75 h)
theorem fr_X18_both_J70 {N : Nat} {i1 i2 i3 i4 t1 : Int} {M M0 : qm} (h : Fg 96186684559997167393451689931966795516843826407564453425980221130141347242164823311006887347575458346600093743841280 M0 M) : qP (qf_X18_both_J70 N i1 i2 i3 i4 t1 M) (fun r => Fg 96186684559997167393451689931966795516843826407564453425980221130141347242164823311006887347575458346600093743841280 M0 r.2) := by
  unfold qf_X18_both_J70
  exact (fr_X18_both_J75 h)
theorem fr_X18_both_J42 {N : Nat} {i1 i2 i3 i4 t0 : Int} {M M0 : qm} (h : Fg 96186684559997167393451689931966795516843826407564453425980221130141347242164823311006887347575458346600093743841280 M0 M) : qP (qf_X18_both_J42 N i1 i2 i3 i4 t0 M) (fun r => Fg 96186684559997167393451689931966795516843826407564453425980221130141347242164823311006887347575458346600093743841280 M0 r.2) := by
  unfold qf_X18_both_J42
  refine qP_ite ?_ ?_
  · exact (fr_X18_both_J74 h)
  · refine qP_ite ?_ ?_
    · exact (fr_X18_both_J70 h)
    · refine qP_ite ?_ ?_
      · refine qP_ite ?_ ?_
        · exact (fr_X18_both_J74 h)
        · exact (fr_X18_both_J70 h)
      · exact qP_none
theorem fr_X18_both_J41 {N : Nat} {i1 i2 i3 i4 : Int} {M M0 : qm} (h : Fg 96186684559997167393451689931966795516843826407564453425980221130141347242164823311006887347575458346600093743841280 M0 M) : qP (qf_X18_both_J41 N i1 i2 i3 i4 M) (fun r => Fg 96186684559997167393451689931966795516843826407564453425980221130141347242164823311006887347575458346600093743841280 M0 r.2) := by
  unfold qf_X18_both_J41
  exact (fr_X18_both_J42 h)
theorem fr_X18_both {N : Nat} {i1 i2 i3 i4 : Int} {M M0 : qm} (h : Fg 96186684559997167393451689931966795516843826407564453425980221130141347242164823311006887347575458346600093743841280 M0 M) : qP (qf_X18_both N i1 i2 i3 i4 M) (fun r => Fg 96186684559997167393451689931966795516843826407564453425980221130141347242164823311006887347575458346600093743841280 M0 r.2) := by
  unfold qf_X18_both
  refine qP_pure (fun r1 => ?_)
  refine qP_ite ?_ ?_
  · exact (fr_X18_both_J41 h)
  · refine qP_pure (fun r2 => ?_)
    refine qP_ite ?_ ?_
    · exact (fr_X18_both_J41 h)
    · refine qP_ite ?_ ?_
      · exact (fr_X18_both_J41 h)
      · refine qP_pure (fun r3 => ?_)
        refine qP_ite ?_ ?_
        · exact (fr_X18_both_J41 h)
        · exact (fr_X18_both_J42 h)
theorem fr_L_where {N : Nat} {i1 i2 : Int} {M M0 : qm} (h : Fg 165263992197562149737978827008192759957101170741070304821162198818601447809077836456297302609928821211897803006255839576064 M0 M) : qP (qf_L_where N i1 i2 M) (fun r => Fg 165263992197562149737978827008192759957101170741070304821162198818601447809077836456297302609928821211897803006255839576064 M0 r.2) := by
  unfold qf_L_where
  refine qP_pure (fun r1 => ?_)
  rcases r1 with x2 | x2
  · refine qP_bnd (m0 := _) (Fg_wa (k := 406) h rfl rfl) (fun M3 h3 => ?_)
    exact qP_some h3
  · refine qP_ite ?_ ?_
    · exact qP_some h
    · refine qP_ite ?_ ?_
      · exact qP_some h
      · exact qP_none
theorem fr_X18_where_J26 {N : Nat} {i1 i2 t1 : Int} {M M0 : qm} (h : Fg 1461501637330902918203684832716283019655932542976 M0 M) : qP (qf_X18_where_J26 N i1 i2 t1 M) (fun r => Fg 1461501637330902918203684832716283019655932542976 M0 r.2) := by
  unfold qf_X18_where_J26
  refine qP_bind (fr_X18_goes Fg_refl) (fun r1 k1 => ?_)
  have h1 := Fg_tr h (Fg_mono k1 rfl)
  refine qP_ite ?_ ?_
  · exact qP_some h1
  · refine qP_ite ?_ ?_
    · refine qP_ite ?_ ?_
      · exact qP_some h1
      · exact qP_none
    · refine qP_ite ?_ ?_
      · refine qP_ite ?_ ?_
        · exact qP_some h1
        · exact qP_none
      · refine qP_ite ?_ ?_
        · refine qP_ite ?_ ?_
          · exact qP_some h1
          · exact qP_none
        · refine qP_ite ?_ ?_
          · refine qP_ite ?_ ?_
            · exact qP_some h1
            · exact qP_none
          · refine qP_ite ?_ ?_
            · refine qP_ite ?_ ?_
              · exact qP_some h1
              · exact qP_none
            · refine qP_ite ?_ ?_
              · exact qP_some h1
              · exact qP_none
theorem fr_X18_where_J25 {N : Nat} {i1 i2 : Int} {M M0 : qm} (h : Fg 1461501637330902918203684832716283019655932542976 M0 M) : qP (qf_X18_where_J25 N i1 i2 M) (fun r => Fg 1461501637330902918203684832716283019655932542976 M0 r.2) := by
  unfold qf_X18_where_J25
  exact (fr_X18_where_J26 h)
theorem fr_X18_where {N : Nat} {i1 i2 : Int} {M M0 : qm} (h : Fg 1461501637330902918203684832716283019655932542976 M0 M) : qP (qf_X18_where N i1 i2 M) (fun r => Fg 1461501637330902918203684832716283019655932542976 M0 r.2) := by
  unfold qf_X18_where
  refine qP_pure (fun r1 => ?_)
  refine qP_ite ?_ ?_
  · exact (fr_X18_where_J25 h)
  · refine qP_pure (fun r2 => ?_)
    refine qP_ite ?_ ?_
    · exact (fr_X18_where_J25 h)
    · exact (fr_X18_where_J26 h)
theorem fr_L_inside {N : Nat} {i1 : Int} {M M0 : qm} (h : Fg 165263992197562149737978827008192759957101170741070304821162198818601447809077836456297302609928821211897803006255839576064 M0 M) : qP (qf_L_inside N i1 M) (fun r => Fg 165263992197562149737978827008192759957101170741070304821162198818601447809077836456297302609928821211897803006255839576064 M0 r.2) := by
  unfold qf_L_inside
  refine qP_pure (fun r1 => ?_)
  rcases r1 with x2 | x2
  · refine qP_bnd (m0 := _) (Fg_wa (k := 406) h rfl rfl) (fun M3 h3 => ?_)
    exact qP_some h3
  · refine qP_ite ?_ ?_
    · exact qP_some h
    · refine qP_ite ?_ ?_
      · exact qP_some h
      · exact qP_none
theorem fr_X18_inside {N : Nat} {i1 : Int} {M M0 : qm} (h : Fg 1461501637330902918203684832716283019655932542976 M0 M) : qP (qf_X18_inside N i1 M) (fun r => Fg 1461501637330902918203684832716283019655932542976 M0 r.2) := by
  unfold qf_X18_inside
  refine qP_pure (fun r1 => ?_)
  refine qP_bind (fr_X18_goes Fg_refl) (fun r2 k2 => ?_)
  have h2 := Fg_tr h (Fg_mono k2 rfl)
  refine qP_ite ?_ ?_
  · exact qP_some h2
  · refine qP_pure (fun r3 => ?_)
    rcases r3 with x4 | x4
    · exact qP_some h2
    · exact qP_some h2
theorem fr_L_against {N : Nat} {i1 i2 : Int} {M M0 : qm} (h : Fg 165263992197562149737978827008192759957101170741070304821162198818601447809077836456297302609928821211897803006255839576064 M0 M) : qP (qf_L_against N i1 i2 M) (fun r => Fg 165263992197562149737978827008192759957101170741070304821162198818601447809077836456297302609928821211897803006255839576064 M0 r.2) := by
  unfold qf_L_against
  refine qP_pure (fun r1 => ?_)
  rcases r1 with x2 | x2
  · refine qP_bnd (m0 := _) (Fg_wa (k := 406) h rfl rfl) (fun M3 h3 => ?_)
    exact qP_some h3
  · refine qP_ite ?_ ?_
    · exact qP_some h
    · refine qP_ite ?_ ?_
      · exact qP_some h
      · exact qP_none
theorem fr_X18_against_J36 {N : Nat} {i1 i2 t1 : Int} {M M0 : qm} (h : Fg 1461501637330902918203684832716283019655932542976 M0 M) : qP (qf_X18_against_J36 N i1 i2 t1 M) (fun r => Fg 1461501637330902918203684832716283019655932542976 M0 r.2) := by
  unfold qf_X18_against_J36
  refine qP_bind (fr_X18_goes Fg_refl) (fun r1 k1 => ?_)
  have h1 := Fg_tr h (Fg_mono k1 rfl)
  refine qP_ite ?_ ?_
  · exact qP_some h1
  · refine qP_ite ?_ ?_
    · exact qP_some h1
    · refine qP_ite ?_ ?_
      · refine qP_ite ?_ ?_
        · exact qP_some h1
        · exact qP_none
      · refine qP_ite ?_ ?_
        · refine qP_ite ?_ ?_
          · exact qP_some h1
          · exact qP_none
        · refine qP_ite ?_ ?_
          · refine qP_ite ?_ ?_
            · exact qP_some h1
            · exact qP_none
          · refine qP_ite ?_ ?_
            · exact qP_some h1
            · exact qP_none
theorem fr_X18_against_J35 {N : Nat} {i1 i2 : Int} {M M0 : qm} (h : Fg 1461501637330902918203684832716283019655932542976 M0 M) : qP (qf_X18_against_J35 N i1 i2 M) (fun r => Fg 1461501637330902918203684832716283019655932542976 M0 r.2) := by
  unfold qf_X18_against_J35
  exact (fr_X18_against_J36 h)
theorem fr_X18_against_J31 {N : Nat} {i1 i2 : Int} {M M0 : qm} (h : Fg 1461501637330902918203684832716283019655932542976 M0 M) : qP (qf_X18_against_J31 N i1 i2 M) (fun r => Fg 1461501637330902918203684832716283019655932542976 M0 r.2) := by
  unfold qf_X18_against_J31
  exact (fr_X18_against_J36 h)
theorem fr_X18_against {N : Nat} {i1 i2 : Int} {M M0 : qm} (h : Fg 1461501637330902918203684832716283019655932542976 M0 M) : qP (qf_X18_against N i1 i2 M) (fun r => Fg 1461501637330902918203684832716283019655932542976 M0 r.2) := by
  unfold qf_X18_against
  refine qP_pure (fun r1 => ?_)
  refine qP_ite ?_ ?_
  · exact (fr_X18_against_J35 h)
  · refine qP_ite ?_ ?_
    · exact (fr_X18_against_J31 h)
    · refine qP_ite ?_ ?_
      · exact (fr_X18_against_J35 h)
      · refine qP_ite ?_ ?_
        · exact (fr_X18_against_J35 h)
        · refine qP_ite ?_ ?_
          · exact (fr_X18_against_J35 h)
          · exact (fr_X18_against_J31 h)
theorem fr_X5_append {N : Nat} {i1 : Int} {M M0 : qm} (h : Fg 19380592045697023957008384 M0 M) : qP (qf_X5_append N i1 M) (fun r => Fg 19380592045697023957008384 M0 r.2) := by
  unfold qf_X5_append
  refine qP_ite ?_ ?_
  · exact qP_some h
  · refine qP_ite ?_ ?_
    · refine qP_bnd (m0 := _) (Fg_wa (k := 84) h rfl rfl) (fun M1 h1 => ?_)
      refine qP_bnd (m0 := _) (Fg_w h1 rfl) (fun M2 h2 => ?_)
      exact qP_some h2
    · exact qP_none
theorem fr_X11_unit_J35 {N : Nat} {i1 t0 : Int} {M M0 : qm} (h : Fg 19380592045697023957008384 M0 M) : qP (qf_X11_unit_J35 N i1 t0 M) (fun r => Fg 19380592045697023957008384 M0 r.2) := by
  unfold qf_X11_unit_J35
  refine qP_pure (fun r1 => ?_)
  rcases r1 with x2 | x2
  · refine qP_bind (fr_X5_append Fg_refl) (fun r3 k3 => ?_)
    have h3 := Fg_tr h (Fg_mono k3 rfl)
    exact qP_some h3
  · exact qP_some h
theorem fr_X11_unit_J34 {N : Nat} {i1 : Int} {M M0 : qm} (h : Fg 19380592045697023957008384 M0 M) : qP (qf_X11_unit_J34 N i1 M) (fun r => Fg 19380592045697023957008384 M0 r.2) := by
  unfold qf_X11_unit_J34
  exact (fr_X11_unit_J35 h)
theorem fr_X11_unit {N : Nat} {i1 : Int} {M M0 : qm} (h : Fg 19380592045697023957008384 M0 M) : qP (qf_X11_unit N i1 M) (fun r => Fg 19380592045697023957008384 M0 r.2) := by
  unfold qf_X11_unit
  refine qP_pure (fun r1 => ?_)
  refine qP_pure (fun r2 => ?_)
  rcases r2 with x3 | x3
  · refine qP_ite ?_ ?_
    · exact (fr_X11_unit_J34 h)
    · refine qP_ite ?_ ?_
      · exact (fr_X11_unit_J34 h)
      · exact (fr_X11_unit_J35 h)
  · exact qP_some h
theorem fr_L_unit {N : Nat} {i1 : Int} {M M0 : qm} (h : Fg 165263992197562149737978827008192759957101170741070304821162198818601447809077836456297302609928840592489848703279796584448 M0 M) : qP (qf_L_unit N i1 M) (fun r => Fg 165263992197562149737978827008192759957101170741070304821162198818601447809077836456297302609928840592489848703279796584448 M0 r.2) := by
  unfold qf_L_unit
  refine qP_bind (fr_X11_unit Fg_refl) (fun r1 k1 => ?_)
  have h1 := Fg_tr h (Fg_mono k1 rfl)
  obtain ⟨x1, m1⟩ := r1
  rcases x1 with x1 | x1
  · have h1 : Fg _ _ m1 := h1
    refine qP_bnd (m0 := _) (Fg_wa (k := 406) h1 rfl rfl) (fun M2 h2 => ?_)
    exact qP_some h2
  · have h1 : Fg _ _ m1 := h1
    refine qP_ite ?_ ?_
    · exact qP_some h1
    · refine qP_ite ?_ ?_
      · exact qP_some h1
      · exact qP_none
theorem fr_X14_unit {N : Nat} {i1 : Int} {M M0 : qm} (h : Fg 474515981694521768845793896565603046382700397159795031433697179264428005264457728 M0 M) : qP (qf_X14_unit N i1 M) (fun r => Fg 474515981694521768845793896565603046382700397159795031433697179264428005264457728 M0 r.2) := by
  unfold qf_X14_unit
  refine qP_ite ?_ ?_
  · refine qP_bnd (m0 := _) (Fg_wa (k := 268) h rfl rfl) (fun M1 h1 => ?_)
    refine qP_bnd (m0 := _) (Fg_w h1 rfl) (fun M2 h2 => ?_)
    exact qP_some h2
  · exact qP_none
theorem fr_X18_unit_J41 {N : Nat} {i1 t1 t2 : Int} {M M0 : qm} (h : Fg 474515981694521768845793896565604507884337728062713235118529895547447661197000704 M0 M) : qP (qf_X18_unit_J41 N i1 t1 t2 M) (fun r => Fg 474515981694521768845793896565604507884337728062713235118529895547447661197000704 M0 r.2) := by
  unfold qf_X18_unit_J41
  refine qP_bind (fr_X18_goes Fg_refl) (fun r1 k1 => ?_)
  have h1 := Fg_tr h (Fg_mono k1 rfl)
  refine qP_ite ?_ ?_
  · exact qP_some h1
  · refine qP_bind (fr_X14_unit Fg_refl) (fun r2 k2 => ?_)
    have h2 := Fg_tr h1 (Fg_mono k2 rfl)
    exact qP_some h2
theorem fr_X18_unit_J40 {N : Nat} {i1 t1 : Int} {M M0 : qm} (h : Fg 474515981694521768845793896565604507884337728062713235118529895547447661197000704 M0 M) : qP (qf_X18_unit_J40 N i1 t1 M) (fun r => Fg 474515981694521768845793896565604507884337728062713235118529895547447661197000704 M0 r.2) := by
  unfold qf_X18_unit_J40
  exact (fr_X18_unit_J41 h)
theorem fr_X18_unit_J16 {N : Nat} {i1 t1 : Int} {M M0 : qm} (h : Fg 474515981694521768845793896565604507884337728062713235118529895547447661197000704 M0 M) : qP (qf_X18_unit_J16 N i1 t1 M) (fun r => Fg 474515981694521768845793896565604507884337728062713235118529895547447661197000704 M0 r.2) := by
  unfold qf_X18_unit_J16
  refine qP_ite ?_ ?_
  · exact (fr_X18_unit_J40 h)
  · refine qP_ite ?_ ?_
    · exact (fr_X18_unit_J40 h)
    · exact (fr_X18_unit_J41 h)
theorem fr_X18_unit_J15 {N : Nat} {i1 : Int} {M M0 : qm} (h : Fg 474515981694521768845793896565604507884337728062713235118529895547447661197000704 M0 M) : qP (qf_X18_unit_J15 N i1 M) (fun r => Fg 474515981694521768845793896565604507884337728062713235118529895547447661197000704 M0 r.2) := by
  unfold qf_X18_unit_J15
  exact (fr_X18_unit_J16 h)
theorem fr_X18_unit {N : Nat} {i1 : Int} {M M0 : qm} (h : Fg 474515981694521768845793896565604507884337728062713235118529895547447661197000704 M0 M) : qP (qf_X18_unit N i1 M) (fun r => Fg 474515981694521768845793896565604507884337728062713235118529895547447661197000704 M0 r.2) := by
  unfold qf_X18_unit
  refine qP_ite ?_ ?_
  · exact (fr_X18_unit_J15 h)
  · refine qP_ite ?_ ?_
    · exact (fr_X18_unit_J15 h)
    · exact (fr_X18_unit_J16 h)
theorem fr_X5_write {N : Nat} {i1 : Int} {M M0 : qm} (h : Fg 19418370977559981118717952 M0 M) : qP (qf_X5_write N i1 M) (fun r => Fg 19418370977559981118717952 M0 r.2) := by
  unfold qf_X5_write
  refine qP_ite ?_ ?_
  · exact qP_some h
  · refine qP_ite ?_ ?_
    · refine qP_bnd (m0 := _) (Fg_wa (k := 84) h rfl rfl) (fun M1 h1 => ?_)
      refine qP_bnd (m0 := _) (Fg_w h1 rfl) (fun M2 h2 => ?_)
      exact qP_some h2
    · exact qP_none
theorem fr_X5_writePart_L4_b {N : Nat} {j1 i3 i4 : Int} {M M0 : qm} (h : Fg 19418370977559981118717952 M0 M) : qP (qf_X5_writePart_L4_b N j1 i3 i4 M) (pU (pU (fun r => Fg 19418370977559981118717952 M0 r.2) (fun r => Fg 19418370977559981118717952 M0 r.2)) (fun r => Fg 19418370977559981118717952 M0 r.2.2.2)) := by
  unfold qf_X5_writePart_L4_b
  refine qP_ite ?_ ?_
  · exact qP_some h
  · refine qP_ite ?_ ?_
    · exact qP_some h
    · refine qP_bind (fr_X5_write Fg_refl) (fun r1 k1 => ?_)
      have h1 := Fg_tr h (Fg_mono k1 rfl)
      exact qP_some h1
theorem fr_X5_writePart_L4 (n : Nat) {N : Nat} {j1 i3 i4 : Int} {M M0 : qm} (h : Fg 19418370977559981118717952 M0 M) : qP (qf_X5_writePart_L4 N n j1 i3 i4 M) (pU (fun r => Fg 19418370977559981118717952 M0 r.2) (fun r => Fg 19418370977559981118717952 M0 r.2)) := by
  unfold qf_X5_writePart_L4
  exact qP_loop (I := fun s => Fg 19418370977559981118717952 M0 s.2.2.2) (fun s hs => fr_X5_writePart_L4_b hs) n _ h
theorem fr_X5_writeNumber_J44 {N : Nat} {i1 i2 i3 : Int} {M M0 : qm} (h : Fg 19418370977559981118717952 M0 M) : qP (qf_X5_writeNumber_J44 N i1 i2 i3 M) (pU (pU (fun r => Fg 19418370977559981118717952 M0 r.2) (fun r => Fg 19418370977559981118717952 M0 r.2)) (fun r => Fg 19418370977559981118717952 M0 r.2.2.2)) := by
  unfold qf_X5_writeNumber_J44
  exact qP_some h
theorem fr_X5_writeNumber_J32 {N : Nat} {i1 i3 i4 : Int} {M M0 : qm} (h : Fg 19418370977559981118717952 M0 M) : qP (qf_X5_writeNumber_J32 N i1 i3 i4 M) (pU (pU (fun r => Fg 19418370977559981118717952 M0 r.2) (fun r => Fg 19418370977559981118717952 M0 r.2)) (fun r => Fg 19418370977559981118717952 M0 r.2.2.2)) := by
  unfold qf_X5_writeNumber_J32
  refine qP_bind (fr_X5_write Fg_refl) (fun r1 k1 => ?_)
  have h1 := Fg_tr h (Fg_mono k1 rfl)
  exact (fr_X5_writeNumber_J44 h1)
theorem fr_X5_writeNumber_L6_b {N : Nat} {i1 i2 i3 : Int} {M M0 : qm} (h : Fg 19418370977559981118717952 M0 M) : qP (qf_X5_writeNumber_L6_b N i1 i2 i3 M) (pU (pU (fun r => Fg 19418370977559981118717952 M0 r.2) (fun r => Fg 19418370977559981118717952 M0 r.2)) (fun r => Fg 19418370977559981118717952 M0 r.2.2.2)) := by
  unfold qf_X5_writeNumber_L6_b
  refine qP_ite ?_ ?_
  · exact qP_some h
  · refine qP_ite ?_ ?_
    · exact qP_none
    · refine qP_ite ?_ ?_
      · refine qP_ite ?_ ?_
        · refine qP_ite ?_ ?_
          · exact (fr_X5_writeNumber_J32 h)
          · exact (fr_X5_writeNumber_J44 h)
        · exact (fr_X5_writeNumber_J32 h)
      · exact (fr_X5_writeNumber_J32 h)
theorem fr_X5_writeNumber_L6 (n : Nat) {N : Nat} {i1 i2 i3 : Int} {M M0 : qm} (h : Fg 19418370977559981118717952 M0 M) : qP (qf_X5_writeNumber_L6 N n i1 i2 i3 M) (pU (fun r => Fg 19418370977559981118717952 M0 r.2) (fun r => Fg 19418370977559981118717952 M0 r.2)) := by
  unfold qf_X5_writeNumber_L6
  exact qP_loop (I := fun s => Fg 19418370977559981118717952 M0 s.2.2.2) (fun s hs => fr_X5_writeNumber_L6_b hs) n _ h
theorem fr_X5_writeNumber {N : Nat} {i1 : Int} {M M0 : qm} (h : Fg 19418370977559981118717952 M0 M) : qP (qf_X5_writeNumber N i1 M) (fun r => Fg 19418370977559981118717952 M0 r.2) := by
  unfold qf_X5_writeNumber
  refine qP_bind (fr_X5_writeNumber_L6 _ h) (fun r1 k1 => ?_)
  rcases r1 with x1 | x1
  · exact qP_some k1
  · obtain ⟨y1_0, y1_1⟩ := x1
    have h1 : Fg _ _ y1_1 := k1
    refine qP_bind (fr_X5_write Fg_refl) (fun r2 k2 => ?_)
    have h2 := Fg_tr h1 (Fg_mono k2 rfl)
    exact qP_some h2
theorem fr_X5_writePart {N : Nat} {j1 i3 : Int} {M M0 : qm} (h : Fg 19418370977559981118717952 M0 M) : qP (qf_X5_writePart N j1 i3 M) (fun r => Fg 19418370977559981118717952 M0 r.2) := by
  unfold qf_X5_writePart
  refine qP_bind (fr_X5_writePart_L4 _ h) (fun r1 k1 => ?_)
  rcases r1 with x1 | x1
  · exact qP_some k1
  · obtain ⟨y1_0, y1_1⟩ := x1
    have h1 : Fg _ _ y1_1 := k1
    refine qP_bind (fr_X5_write Fg_refl) (fun r2 k2 => ?_)
    have h2 := Fg_tr h1 (Fg_mono k2 rfl)
    refine qP_bind (fr_X5_writeNumber Fg_refl) (fun r3 k3 => ?_)
    have h3 := Fg_tr h2 (Fg_mono k3 rfl)
    exact qP_some h3
theorem fr_X5_writeSentence_L68_b {N : Nat} {i4 i5 i6 : Int} {M M0 : qm} (h : Fg 19418370977559981118717952 M0 M) : qP (qf_X5_writeSentence_L68_b N i4 i5 i6 M) (pU (pU (fun r => Fg 19418370977559981118717952 M0 r.2) (fun r => Fg 19418370977559981118717952 M0 r.2)) (fun r => Fg 19418370977559981118717952 M0 r.2.2.2)) := by
  unfold qf_X5_writeSentence_L68_b
  refine qP_ite ?_ ?_
  · exact qP_some h
  · refine qP_ite ?_ ?_
    · exact qP_some h
    · refine qP_bind (fr_X5_writeNumber Fg_refl) (fun r1 k1 => ?_)
      have h1 := Fg_tr h (Fg_mono k1 rfl)
      exact qP_some h1
theorem fr_X5_writeSentence_L68 (n : Nat) {N : Nat} {i4 i5 i6 : Int} {M M0 : qm} (h : Fg 19418370977559981118717952 M0 M) : qP (qf_X5_writeSentence_L68 N n i4 i5 i6 M) (pU (fun r => Fg 19418370977559981118717952 M0 r.2) (fun r => Fg 19418370977559981118717952 M0 r.2)) := by
  unfold qf_X5_writeSentence_L68
  exact qP_loop (I := fun s => Fg 19418370977559981118717952 M0 s.2.2.2) (fun s hs => fr_X5_writeSentence_L68_b hs) n _ h
theorem fr_X5_writeSentence_J192 {N : Nat} {M M0 : qm} (h : Fg 19418370977559981118717952 M0 M) : qP (qf_X5_writeSentence_J192 N M) (fun r => Fg 19418370977559981118717952 M0 r.2) := by
  unfold qf_X5_writeSentence_J192
  refine qP_bind (fr_X5_write Fg_refl) (fun r1 k1 => ?_)
  have h1 := Fg_tr h (Fg_mono k1 rfl)
  refine qP_bind (fr_X5_write Fg_refl) (fun r2 k2 => ?_)
  have h2 := Fg_tr h1 (Fg_mono k2 rfl)
  exact qP_some h2
theorem fr_X5_writeSentence_J97 {N : Nat} {M M0 : qm} (h : Fg 19418370977559981118717952 M0 M) : qP (qf_X5_writeSentence_J97 N M) (fun r => Fg 19418370977559981118717952 M0 r.2) := by
  unfold qf_X5_writeSentence_J97
  exact (fr_X5_writeSentence_J192 h)
theorem fr_X5_writeSentence {N : Nat} {i1 i2 i3 i4 i5 : Int} {M M0 : qm} (h : Fg 19418370977559981118717952 M0 M) : qP (qf_X5_writeSentence N i1 i2 i3 i4 i5 M) (fun r => Fg 19418370977559981118717952 M0 r.2) := by
  unfold qf_X5_writeSentence
  refine qP_bnd (m0 := _) (Fg_w h rfl) (fun M1 h1 => ?_)
  refine qP_ite ?_ ?_
  · refine qP_bind (fr_X5_writePart Fg_refl) (fun r2 k2 => ?_)
    have h2 := Fg_tr h1 (Fg_mono k2 rfl)
    refine qP_bind (fr_X5_writePart Fg_refl) (fun r3 k3 => ?_)
    have h3 := Fg_tr h2 (Fg_mono k3 rfl)
    refine qP_bind (fr_X5_writePart Fg_refl) (fun r4 k4 => ?_)
    have h4 := Fg_tr h3 (Fg_mono k4 rfl)
    refine qP_bind (fr_X5_writeSentence_L68 _ h4) (fun r5 k5 => ?_)
    rcases r5 with x5 | x5
    · exact qP_some k5
    · obtain ⟨y5_0, y5_1⟩ := x5
      have h5 : Fg _ _ y5_1 := k5
      exact (fr_X5_writeSentence_J97 h5)
  · refine qP_ite ?_ ?_
    · refine qP_bind (fr_X5_writePart Fg_refl) (fun r6 k6 => ?_)
      have h6 := Fg_tr h1 (Fg_mono k6 rfl)
      refine qP_bind (fr_X5_writePart Fg_refl) (fun r7 k7 => ?_)
      have h7 := Fg_tr h6 (Fg_mono k7 rfl)
      refine qP_bind (fr_X5_writePart Fg_refl) (fun r8 k8 => ?_)
      have h8 := Fg_tr h7 (Fg_mono k8 rfl)
      refine qP_bind (fr_X5_writePart Fg_refl) (fun r9 k9 => ?_)
      have h9 := Fg_tr h8 (Fg_mono k9 rfl)
      exact (fr_X5_writeSentence_J192 h9)
    · refine qP_ite ?_ ?_
      · refine qP_bind (fr_X5_writePart Fg_refl) (fun r10 k10 => ?_)
        have h10 := Fg_tr h1 (Fg_mono k10 rfl)
        refine qP_bind (fr_X5_writePart Fg_refl) (fun r11 k11 => ?_)
        have h11 := Fg_tr h10 (Fg_mono k11 rfl)
        exact (fr_X5_writeSentence_J192 h11)
      · refine qP_ite ?_ ?_
        · refine qP_bind (fr_X5_writePart Fg_refl) (fun r12 k12 => ?_)
          have h12 := Fg_tr h1 (Fg_mono k12 rfl)
          refine qP_bind (fr_X5_writePart Fg_refl) (fun r13 k13 => ?_)
          have h13 := Fg_tr h12 (Fg_mono k13 rfl)
          refine qP_bind (fr_X5_writePart Fg_refl) (fun r14 k14 => ?_)
          have h14 := Fg_tr h13 (Fg_mono k14 rfl)
          exact (fr_X5_writeSentence_J192 h14)
        · refine qP_bind (fr_X5_writePart Fg_refl) (fun r15 k15 => ?_)
          have h15 := Fg_tr h1 (Fg_mono k15 rfl)
          exact (fr_X5_writeSentence_J192 h15)
theorem fr_X11_sentence_J66 {N : Nat} {i6 t0 : Int} {M M0 : qm} (h : Fg 19456149909422938280427520 M0 M) : qP (qf_X11_sentence_J66 N i6 t0 M) (fun r => Fg 19456149909422938280427520 M0 r.2) := by
  unfold qf_X11_sentence_J66
  refine qP_pure (fun r1 => ?_)
  rcases r1 with x2 | x2
  · refine qP_bnd (m0 := _) (Fg_w h rfl) (fun M3 h3 => ?_)
    exact qP_some h3
  · exact qP_some h
theorem fr_X11_sentence_J65 {N : Nat} {i6 : Int} {M M0 : qm} (h : Fg 19456149909422938280427520 M0 M) : qP (qf_X11_sentence_J65 N i6 M) (fun r => Fg 19456149909422938280427520 M0 r.2) := by
  unfold qf_X11_sentence_J65
  exact (fr_X11_sentence_J66 h)
theorem fr_X11_sentence_J27 {N : Nat} {i1 i2 i3 i4 i5 t0 : Int} {M M0 : qm} (h : Fg 19456149909422938280427520 M0 M) : qP (qf_X11_sentence_J27 N i1 i2 i3 i4 i5 t0 M) (fun r => Fg 19456149909422938280427520 M0 r.2) := by
  unfold qf_X11_sentence_J27
  refine qP_pure (fun r1 => ?_)
  rcases r1 with x2 | x2
  · refine qP_bind (fr_X5_writeSentence Fg_refl) (fun r3 k3 => ?_)
    have h3 := Fg_tr h (Fg_mono k3 rfl)
    refine qP_ite ?_ ?_
    · exact (fr_X11_sentence_J65 h3)
    · refine qP_ite ?_ ?_
      · exact (fr_X11_sentence_J65 h3)
      · exact (fr_X11_sentence_J66 h3)
  · exact qP_some h
theorem fr_X11_sentence_J26 {N : Nat} {i1 i2 i3 i4 i5 : Int} {M M0 : qm} (h : Fg 19456149909422938280427520 M0 M) : qP (qf_X11_sentence_J26 N i1 i2 i3 i4 i5 M) (fun r => Fg 19456149909422938280427520 M0 r.2) := by
  unfold qf_X11_sentence_J26
  exact (fr_X11_sentence_J27 h)
theorem fr_X11_sentence {N : Nat} {i1 i2 i3 i4 i5 : Int} {M M0 : qm} (h : Fg 19456149909422938280427520 M0 M) : qP (qf_X11_sentence N i1 i2 i3 i4 i5 M) (fun r => Fg 19456149909422938280427520 M0 r.2) := by
  unfold qf_X11_sentence
  refine qP_pure (fun r1 => ?_)
  refine qP_ite ?_ ?_
  · exact (fr_X11_sentence_J26 h)
  · refine qP_pure (fun r2 => ?_)
    refine qP_ite ?_ ?_
    · exact (fr_X11_sentence_J26 h)
    · exact (fr_X11_sentence_J27 h)
theorem fr_L_sentence {N : Nat} {i1 i2 i3 i4 i5 : Int} {M M0 : qm} (h : Fg 165263992197562149737978827008192759957101170741070304821162198818601447809077836456297302609928840668047712429194120003584 M0 M) : qP (qf_L_sentence N i1 i2 i3 i4 i5 M) (fun r => Fg 165263992197562149737978827008192759957101170741070304821162198818601447809077836456297302609928840668047712429194120003584 M0 r.2) := by
  unfold qf_L_sentence
  refine qP_bind (fr_X11_sentence Fg_refl) (fun r1 k1 => ?_)
  have h1 := Fg_tr h (Fg_mono k1 rfl)
  obtain ⟨x1, m1⟩ := r1
  rcases x1 with x1 | x1
  · have h1 : Fg _ _ m1 := h1
    refine qP_bnd (m0 := _) (Fg_wa (k := 406) h1 rfl rfl) (fun M2 h2 => ?_)
    exact qP_some h2
  · have h1 : Fg _ _ m1 := h1
    refine qP_ite ?_ ?_
    · exact qP_some h1
    · refine qP_ite ?_ ?_
      · exact qP_some h1
      · exact qP_none
theorem fr_X14_say_L2_b {N : Nat} {i1 : Int} {M M0 : qm} (h : Fg 474515981694521768845793896565603046382700397159795031433697179264428005264457728 M0 M) : qP (qf_X14_say_L2_b N i1 M) (pU (pU (fun r => Fg 474515981694521768845793896565603046382700397159795031433697179264428005264457728 M0 r.2) (fun r => Fg 474515981694521768845793896565603046382700397159795031433697179264428005264457728 M0 r.2)) (fun r => Fg 474515981694521768845793896565603046382700397159795031433697179264428005264457728 M0 r.2)) := by
  unfold qf_X14_say_L2_b
  refine qP_ite ?_ ?_
  · exact qP_some h
  · refine qP_ite ?_ ?_
    · refine qP_bind (fr_X14_unit Fg_refl) (fun r1 k1 => ?_)
      have h1 := Fg_tr h (Fg_mono k1 rfl)
      exact qP_some h1
    · exact qP_none
theorem fr_X14_say_L2 (n : Nat) {N : Nat} {i1 : Int} {M M0 : qm} (h : Fg 474515981694521768845793896565603046382700397159795031433697179264428005264457728 M0 M) : qP (qf_X14_say_L2 N n i1 M) (pU (fun r => Fg 474515981694521768845793896565603046382700397159795031433697179264428005264457728 M0 r.2) (fun r => Fg 474515981694521768845793896565603046382700397159795031433697179264428005264457728 M0 r.2)) := by
  unfold qf_X14_say_L2
  exact qP_loop (I := fun s => Fg 474515981694521768845793896565603046382700397159795031433697179264428005264457728 M0 s.2) (fun s hs => fr_X14_say_L2_b hs) n _ h
theorem fr_X14_say {N : Nat} {M M0 : qm} (h : Fg 474515981694521768845793896565603046382700397159795031433697179264428005264457728 M0 M) : qP (qf_X14_say N M) (fun r => Fg 474515981694521768845793896565603046382700397159795031433697179264428005264457728 M0 r.2) := by
  unfold qf_X14_say
  refine qP_bind (fr_X14_say_L2 _ h) (fun r1 k1 => ?_)
  rcases r1 with x1 | x1
  · exact qP_some k1
  · obtain ⟨y1_0, y1_1⟩ := x1
    have h1 : Fg _ _ y1_1 := k1
    exact qP_some h1
theorem fr_X18_sentence_J170 {N : Nat} {t1 t2 : Int} {M M0 : qm} (h : Fg 1989293449797903107896243866815352088230436897964235006879075420203675041523555886956544 M0 M) : qP (qf_X18_sentence_J170 N t1 t2 M) (fun r => Fg 1989293449797903107896243866815352088230436897964235006879075420203675041523555886956544 M0 r.2) := by
  unfold qf_X18_sentence_J170
  refine qP_bind (fr_X18_goes Fg_refl) (fun r1 k1 => ?_)
  have h1 := Fg_tr h (Fg_mono k1 rfl)
  refine qP_ite ?_ ?_
  · exact qP_some h1
  · refine qP_bind (fr_X14_say Fg_refl) (fun r2 k2 => ?_)
    have h2 := Fg_tr h1 (Fg_mono k2 rfl)
    exact qP_some h2
theorem fr_X18_sentence_J169 {N : Nat} {t1 : Int} {M M0 : qm} (h : Fg 1989293449797903107896243866815352088230436897964235006879075420203675041523555886956544 M0 M) : qP (qf_X18_sentence_J169 N t1 M) (fun r => Fg 1989293449797903107896243866815352088230436897964235006879075420203675041523555886956544 M0 r.2) := by
  unfold qf_X18_sentence_J169
  exact (fr_X18_sentence_J170 h)
theorem fr_X18_sentence_J134 {N : Nat} {i6 : Int} {M M0 : qm} (h : Fg 1989293449797903107896243866815352088230436897964235006879075420203675041523555886956544 M0 M) : qP (qf_X18_sentence_J134 N i6 M) (fun r => Fg 1989293449797903107896243866815352088230436897964235006879075420203675041523555886956544 M0 r.2) := by
  unfold qf_X18_sentence_J134
  refine qP_ite ?_ ?_
  · exact (fr_X18_sentence_J169 h)
  · refine qP_ite ?_ ?_
    · exact (fr_X18_sentence_J169 h)
    · exact (fr_X18_sentence_J170 h)
theorem fr_X14_letter {N : Nat} {i1 : Int} {M M0 : qm} (h : Fg 1989292975281921413374475021021455522625929013626506944165840301673779494075894689955840 M0 M) : qP (qf_X14_letter N i1 M) (fun r => Fg 1989292975281921413374475021021455522625929013626506944165840301673779494075894689955840 M0 r.2) := by
  unfold qf_X14_letter
  refine qP_ite ?_ ?_
  · refine qP_bnd (m0 := _) (Fg_wa (k := 290) h rfl rfl) (fun M1 h1 => ?_)
    refine qP_bnd (m0 := _) (Fg_w h1 rfl) (fun M2 h2 => ?_)
    exact qP_some h2
  · exact qP_none
theorem fr_X14_word_L2_b {N : Nat} {i2 : Int} {M M0 : qm} (h : Fg 1989292975281921413374475021021455522625929013626506944165840301673779494075894689955840 M0 M) : qP (qf_X14_word_L2_b N i2 M) (pU (pU (fun r => Fg 1989292975281921413374475021021455522625929013626506944165840301673779494075894689955840 M0 r.2) (fun r => Fg 1989292975281921413374475021021455522625929013626506944165840301673779494075894689955840 M0 r.2)) (fun r => Fg 1989292975281921413374475021021455522625929013626506944165840301673779494075894689955840 M0 r.2)) := by
  unfold qf_X14_word_L2_b
  refine qP_ite ?_ ?_
  · exact qP_some h
  · refine qP_bind (fr_X14_letter Fg_refl) (fun r1 k1 => ?_)
    have h1 := Fg_tr h (Fg_mono k1 rfl)
    exact qP_some h1
theorem fr_X14_word_L2 (n : Nat) {N : Nat} {i2 : Int} {M M0 : qm} (h : Fg 1989292975281921413374475021021455522625929013626506944165840301673779494075894689955840 M0 M) : qP (qf_X14_word_L2 N n i2 M) (pU (fun r => Fg 1989292975281921413374475021021455522625929013626506944165840301673779494075894689955840 M0 r.2) (fun r => Fg 1989292975281921413374475021021455522625929013626506944165840301673779494075894689955840 M0 r.2)) := by
  unfold qf_X14_word_L2
  exact qP_loop (I := fun s => Fg 1989292975281921413374475021021455522625929013626506944165840301673779494075894689955840 M0 s.2) (fun s hs => fr_X14_word_L2_b hs) n _ h
theorem fr_X14_word {N : Nat} {i1 : Int} {M M0 : qm} (h : Fg 1989292975281921413374475021021455522625929013626506944165840301673779494075894689955840 M0 M) : qP (qf_X14_word N i1 M) (fun r => Fg 1989292975281921413374475021021455522625929013626506944165840301673779494075894689955840 M0 r.2) := by
  unfold qf_X14_word
  refine qP_bind (fr_X14_word_L2 _ h) (fun r1 k1 => ?_)
  rcases r1 with x1 | x1
  · exact qP_some k1
  · obtain ⟨y1_0, y1_1⟩ := x1
    have h1 : Fg _ _ y1_1 := k1
    refine qP_bind (fr_X14_letter Fg_refl) (fun r2 k2 => ?_)
    have h2 := Fg_tr h1 (Fg_mono k2 rfl)
    exact qP_some h2
theorem fr_X14_number_J81 {N : Nat} {i1 : Int} {M M0 : qm} (h : Fg 1989292975281921413374475021021455522625929013626506944165840301673779494075894689955840 M0 M) : qP (qf_X14_number_J81 N i1 M) (fun r => Fg 1989292975281921413374475021021455522625929013626506944165840301673779494075894689955840 M0 r.2) := by
  unfold qf_X14_number_J81
  refine qP_bind (fr_X14_letter Fg_refl) (fun r1 k1 => ?_)
  have h1 := Fg_tr h (Fg_mono k1 rfl)
  refine qP_bind (fr_X14_letter Fg_refl) (fun r2 k2 => ?_)
  have h2 := Fg_tr h1 (Fg_mono k2 rfl)
  exact qP_some h2
theorem fr_X14_number_J61 {N : Nat} {i1 : Int} {M M0 : qm} (h : Fg 1989292975281921413374475021021455522625929013626506944165840301673779494075894689955840 M0 M) : qP (qf_X14_number_J61 N i1 M) (fun r => Fg 1989292975281921413374475021021455522625929013626506944165840301673779494075894689955840 M0 r.2) := by
  unfold qf_X14_number_J61
  refine qP_ite ?_ ?_
  · exact (fr_X14_number_J81 h)
  · refine qP_bind (fr_X14_letter Fg_refl) (fun r1 k1 => ?_)
    have h1 := Fg_tr h (Fg_mono k1 rfl)
    exact (fr_X14_number_J81 h1)
theorem fr_X14_number_J41 {N : Nat} {i1 : Int} {M M0 : qm} (h : Fg 1989292975281921413374475021021455522625929013626506944165840301673779494075894689955840 M0 M) : qP (qf_X14_number_J41 N i1 M) (fun r => Fg 1989292975281921413374475021021455522625929013626506944165840301673779494075894689955840 M0 r.2) := by
  unfold qf_X14_number_J41
  refine qP_ite ?_ ?_
  · exact (fr_X14_number_J61 h)
  · refine qP_bind (fr_X14_letter Fg_refl) (fun r1 k1 => ?_)
    have h1 := Fg_tr h (Fg_mono k1 rfl)
    exact (fr_X14_number_J61 h1)
theorem fr_X14_number_J19 {N : Nat} {i1 : Int} {M M0 : qm} (h : Fg 1989292975281921413374475021021455522625929013626506944165840301673779494075894689955840 M0 M) : qP (qf_X14_number_J19 N i1 M) (fun r => Fg 1989292975281921413374475021021455522625929013626506944165840301673779494075894689955840 M0 r.2) := by
  unfold qf_X14_number_J19
  refine qP_ite ?_ ?_
  · exact (fr_X14_number_J41 h)
  · refine qP_bind (fr_X14_letter Fg_refl) (fun r1 k1 => ?_)
    have h1 := Fg_tr h (Fg_mono k1 rfl)
    exact (fr_X14_number_J41 h1)
theorem fr_X14_number {N : Nat} {i1 : Int} {M M0 : qm} (h : Fg 1989292975281921413374475021021455522625929013626506944165840301673779494075894689955840 M0 M) : qP (qf_X14_number N i1 M) (fun r => Fg 1989292975281921413374475021021455522625929013626506944165840301673779494075894689955840 M0 r.2) := by
  unfold qf_X14_number
  refine qP_ite ?_ ?_
  · exact (fr_X14_number_J19 h)
  · refine qP_bind (fr_X14_letter Fg_refl) (fun r1 k1 => ?_)
    have h1 := Fg_tr h (Fg_mono k1 rfl)
    exact (fr_X14_number_J19 h1)
theorem fr_X14_sentence_L66_b {N : Nat} {i4 i5 i6 : Int} {M M0 : qm} (h : Fg 1989292975281921413374475021021455522625929013626506944165840301673779494075894689955840 M0 M) : qP (qf_X14_sentence_L66_b N i4 i5 i6 M) (pU (pU (fun r => Fg 1989292975281921413374475021021455522625929013626506944165840301673779494075894689955840 M0 r.2) (fun r => Fg 1989292975281921413374475021021455522625929013626506944165840301673779494075894689955840 M0 r.2)) (fun r => Fg 1989292975281921413374475021021455522625929013626506944165840301673779494075894689955840 M0 r.2.2.2)) := by
  unfold qf_X14_sentence_L66_b
  refine qP_ite ?_ ?_
  · exact qP_some h
  · refine qP_bind (fr_X14_number Fg_refl) (fun r1 k1 => ?_)
    have h1 := Fg_tr h (Fg_mono k1 rfl)
    exact qP_some h1
theorem fr_X14_sentence_L66 (n : Nat) {N : Nat} {i4 i5 i6 : Int} {M M0 : qm} (h : Fg 1989292975281921413374475021021455522625929013626506944165840301673779494075894689955840 M0 M) : qP (qf_X14_sentence_L66 N n i4 i5 i6 M) (pU (fun r => Fg 1989292975281921413374475021021455522625929013626506944165840301673779494075894689955840 M0 r.2) (fun r => Fg 1989292975281921413374475021021455522625929013626506944165840301673779494075894689955840 M0 r.2)) := by
  unfold qf_X14_sentence_L66
  exact qP_loop (I := fun s => Fg 1989292975281921413374475021021455522625929013626506944165840301673779494075894689955840 M0 s.2.2.2) (fun s hs => fr_X14_sentence_L66_b hs) n _ h
theorem fr_X14_stop {N : Nat} {M M0 : qm} (h : Fg 1989292975281921413374475021021455522625929013626506944165840301673779494075894689955840 M0 M) : qP (qf_X14_stop N M) (fun r => Fg 1989292975281921413374475021021455522625929013626506944165840301673779494075894689955840 M0 r.2) := by
  unfold qf_X14_stop
  refine qP_bind (fr_X14_letter Fg_refl) (fun r1 k1 => ?_)
  have h1 := Fg_tr h (Fg_mono k1 rfl)
  refine qP_bind (fr_X14_letter Fg_refl) (fun r2 k2 => ?_)
  have h2 := Fg_tr h1 (Fg_mono k2 rfl)
  exact qP_some h2
theorem fr_X14_sentence_J184 {N : Nat} {t1 : Int} {M M0 : qm} (h : Fg 1989292975281921413374475021021455522625929013626506944165840301673779494075894689955840 M0 M) : qP (qf_X14_sentence_J184 N t1 M) (fun r => Fg 1989292975281921413374475021021455522625929013626506944165840301673779494075894689955840 M0 r.2) := by
  unfold qf_X14_sentence_J184
  refine qP_bind (fr_X14_number Fg_refl) (fun r1 k1 => ?_)
  have h1 := Fg_tr h (Fg_mono k1 rfl)
  refine qP_bind (fr_X14_stop Fg_refl) (fun r2 k2 => ?_)
  have h2 := Fg_tr h1 (Fg_mono k2 rfl)
  exact qP_some h2
theorem fr_X14_sentence_J166 {N : Nat} {i1 i3 i4 : Int} {M M0 : qm} (h : Fg 1989292975281921413374475021021455522625929013626506944165840301673779494075894689955840 M0 M) : qP (qf_X14_sentence_J166 N i1 i3 i4 M) (fun r => Fg 1989292975281921413374475021021455522625929013626506944165840301673779494075894689955840 M0 r.2) := by
  unfold qf_X14_sentence_J166
  refine qP_bind (fr_X14_word Fg_refl) (fun r1 k1 => ?_)
  have h1 := Fg_tr h (Fg_mono k1 rfl)
  refine qP_ite ?_ ?_
  · exact (fr_X14_sentence_J184 h1)
  · exact (fr_X14_sentence_J184 h1)
theorem fr_X14_sentence_J144 {N : Nat} {i1 i3 i4 : Int} {M M0 : qm} (h : Fg 1989292975281921413374475021021455522625929013626506944165840301673779494075894689955840 M0 M) : qP (qf_X14_sentence_J144 N i1 i3 i4 M) (fun r => Fg 1989292975281921413374475021021455522625929013626506944165840301673779494075894689955840 M0 r.2) := by
  unfold qf_X14_sentence_J144
  refine qP_ite ?_ ?_
  · refine qP_bind (fr_X14_letter Fg_refl) (fun r1 k1 => ?_)
    have h1 := Fg_tr h (Fg_mono k1 rfl)
    refine qP_bind (fr_X14_letter Fg_refl) (fun r2 k2 => ?_)
    have h2 := Fg_tr h1 (Fg_mono k2 rfl)
    refine qP_bind (fr_X14_number Fg_refl) (fun r3 k3 => ?_)
    have h3 := Fg_tr h2 (Fg_mono k3 rfl)
    exact (fr_X14_sentence_J166 h3)
  · exact (fr_X14_sentence_J166 h)
theorem fr_X14_sentence_J33 {N : Nat} {i1 i2 i3 i4 i5 t1 : Int} {M M0 : qm} (h : Fg 1989292975281921413374475021021455522625929013626506944165840301673779494075894689955840 M0 M) : qP (qf_X14_sentence_J33 N i1 i2 i3 i4 i5 t1 M) (fun r => Fg 1989292975281921413374475021021455522625929013626506944165840301673779494075894689955840 M0 r.2) := by
  unfold qf_X14_sentence_J33
  refine qP_bind (fr_X14_word Fg_refl) (fun r1 k1 => ?_)
  have h1 := Fg_tr h (Fg_mono k1 rfl)
  refine qP_bind (fr_X14_number Fg_refl) (fun r2 k2 => ?_)
  have h2 := Fg_tr h1 (Fg_mono k2 rfl)
  refine qP_ite ?_ ?_
  · refine qP_bind (fr_X14_word Fg_refl) (fun r3 k3 => ?_)
    have h3 := Fg_tr h2 (Fg_mono k3 rfl)
    refine qP_bind (fr_X14_number Fg_refl) (fun r4 k4 => ?_)
    have h4 := Fg_tr h3 (Fg_mono k4 rfl)
    refine qP_bind (fr_X14_word Fg_refl) (fun r5 k5 => ?_)
    have h5 := Fg_tr h4 (Fg_mono k5 rfl)
    refine qP_bind (fr_X14_sentence_L66 _ h5) (fun r6 k6 => ?_)
    rcases r6 with x6 | x6
    · exact qP_some k6
    · obtain ⟨y6_0, y6_1⟩ := x6
      have h6 : Fg _ _ y6_1 := k6
      refine qP_bind (fr_X14_stop Fg_refl) (fun r7 k7 => ?_)
      have h7 := Fg_tr h6 (Fg_mono k7 rfl)
      exact qP_some h7
  · refine qP_ite ?_ ?_
    · refine qP_bind (fr_X14_word Fg_refl) (fun r8 k8 => ?_)
      have h8 := Fg_tr h2 (Fg_mono k8 rfl)
      refine qP_bind (fr_X14_number Fg_refl) (fun r9 k9 => ?_)
      have h9 := Fg_tr h8 (Fg_mono k9 rfl)
      refine qP_bind (fr_X14_word Fg_refl) (fun r10 k10 => ?_)
      have h10 := Fg_tr h9 (Fg_mono k10 rfl)
      refine qP_bind (fr_X14_number Fg_refl) (fun r11 k11 => ?_)
      have h11 := Fg_tr h10 (Fg_mono k11 rfl)
      refine qP_bind (fr_X14_word Fg_refl) (fun r12 k12 => ?_)
      have h12 := Fg_tr h11 (Fg_mono k12 rfl)
      refine qP_bind (fr_X14_number Fg_refl) (fun r13 k13 => ?_)
      have h13 := Fg_tr h12 (Fg_mono k13 rfl)
      refine qP_bind (fr_X14_stop Fg_refl) (fun r14 k14 => ?_)
      have h14 := Fg_tr h13 (Fg_mono k14 rfl)
      exact qP_some h14
    · refine qP_ite ?_ ?_
      · exact (fr_X14_sentence_J144 h2)
      · refine qP_ite ?_ ?_
        · exact (fr_X14_sentence_J144 h2)
        · refine qP_bind (fr_X14_stop Fg_refl) (fun r15 k15 => ?_)
          have h15 := Fg_tr h2 (Fg_mono k15 rfl)
          exact qP_some h15
theorem fr_X14_sentence {N : Nat} {i1 i2 i3 i4 i5 : Int} {M M0 : qm} (h : Fg 1989292975281921413374475021021455522625929013626506944165840301673779494075894689955840 M0 M) : qP (qf_X14_sentence N i1 i2 i3 i4 i5 M) (fun r => Fg 1989292975281921413374475021021455522625929013626506944165840301673779494075894689955840 M0 r.2) := by
  unfold qf_X14_sentence
  refine qP_ite ?_ ?_
  · exact (fr_X14_sentence_J33 h)
  · refine qP_ite ?_ ?_
    · exact (fr_X14_sentence_J33 h)
    · refine qP_ite ?_ ?_
      · exact (fr_X14_sentence_J33 h)
      · exact (fr_X14_sentence_J33 h)
theorem fr_X14_make {N : Nat} {i1 i2 i3 i4 i5 : Int} {M M0 : qm} (h : Fg 1989292975281921413374475021021455522625929013626506944165840301673779494075894689955840 M0 M) : qP (qf_X14_make N i1 i2 i3 i4 i5 M) (fun r => Fg 1989292975281921413374475021021455522625929013626506944165840301673779494075894689955840 M0 r.2) := by
  unfold qf_X14_make
  refine qP_bnd (m0 := _) (Fg_w h rfl) (fun M1 h1 => ?_)
  refine qP_bind (fr_X14_sentence Fg_refl) (fun r2 k2 => ?_)
  have h2 := Fg_tr h1 (Fg_mono k2 rfl)
  exact qP_some h2
theorem fr_X18_sentence_J113 {N : Nat} {i1 i2 i3 i4 i5 t0 : Int} {M M0 : qm} (h : Fg 1989293449797903107896243866815352088230436897964235006879075420203675041523555886956544 M0 M) : qP (qf_X18_sentence_J113 N i1 i2 i3 i4 i5 t0 M) (fun r => Fg 1989293449797903107896243866815352088230436897964235006879075420203675041523555886956544 M0 r.2) := by
  unfold qf_X18_sentence_J113
  refine qP_ite ?_ ?_
  · exact (fr_X18_sentence_J134 h)
  · refine qP_bind (fr_X14_make Fg_refl) (fun r1 k1 => ?_)
    have h1 := Fg_tr h (Fg_mono k1 rfl)
    exact (fr_X18_sentence_J134 h1)
theorem fr_X18_sentence_J112 {N : Nat} {i1 i2 i3 i4 i5 : Int} {M M0 : qm} (h : Fg 1989293449797903107896243866815352088230436897964235006879075420203675041523555886956544 M0 M) : qP (qf_X18_sentence_J112 N i1 i2 i3 i4 i5 M) (fun r => Fg 1989293449797903107896243866815352088230436897964235006879075420203675041523555886956544 M0 r.2) := by
  unfold qf_X18_sentence_J112
  exact (fr_X18_sentence_J113 h)
theorem fr_X18_sentence_J108 {N : Nat} {i1 i2 i3 i4 i5 : Int} {M M0 : qm} (h : Fg 1989293449797903107896243866815352088230436897964235006879075420203675041523555886956544 M0 M) : qP (qf_X18_sentence_J108 N i1 i2 i3 i4 i5 M) (fun r => Fg 1989293449797903107896243866815352088230436897964235006879075420203675041523555886956544 M0 r.2) := by
  unfold qf_X18_sentence_J108
  exact (fr_X18_sentence_J113 h)
theorem fr_X18_sentence_J67 {N : Nat} {i1 i2 i3 i4 i5 t0 : Int} {M M0 : qm} (h : Fg 1989293449797903107896243866815352088230436897964235006879075420203675041523555886956544 M0 M) : qP (qf_X18_sentence_J67 N i1 i2 i3 i4 i5 t0 M) (fun r => Fg 1989293449797903107896243866815352088230436897964235006879075420203675041523555886956544 M0 r.2) := by
  unfold qf_X18_sentence_J67
  refine qP_ite ?_ ?_
  · exact (fr_X18_sentence_J112 h)
  · refine qP_ite ?_ ?_
    · exact (fr_X18_sentence_J108 h)
    · refine qP_ite ?_ ?_
      · refine qP_pure (fun r1 => ?_)
        refine qP_ite ?_ ?_
        · exact (fr_X18_sentence_J112 h)
        · exact (fr_X18_sentence_J108 h)
      · refine qP_ite ?_ ?_
        · exact (fr_X18_sentence_J112 h)
        · refine qP_ite ?_ ?_
          · exact (fr_X18_sentence_J112 h)
          · exact (fr_X18_sentence_J108 h)
theorem fr_X18_sentence_J66 {N : Nat} {i1 i2 i3 i4 i5 : Int} {M M0 : qm} (h : Fg 1989293449797903107896243866815352088230436897964235006879075420203675041523555886956544 M0 M) : qP (qf_X18_sentence_J66 N i1 i2 i3 i4 i5 M) (fun r => Fg 1989293449797903107896243866815352088230436897964235006879075420203675041523555886956544 M0 r.2) := by
  unfold qf_X18_sentence_J66
  exact (fr_X18_sentence_J67 h)
theorem fr_X18_sentence_J62 {N : Nat} {i1 i2 i3 i4 i5 : Int} {M M0 : qm} (h : Fg 1989293449797903107896243866815352088230436897964235006879075420203675041523555886956544 M0 M) : qP (qf_X18_sentence_J62 N i1 i2 i3 i4 i5 M) (fun r => Fg 1989293449797903107896243866815352088230436897964235006879075420203675041523555886956544 M0 r.2) := by
  unfold qf_X18_sentence_J62
  exact (fr_X18_sentence_J67 h)
theorem fr_X18_sentence_J44 {N : Nat} {i1 i2 i3 i4 i5 : Int} {M M0 : qm} (h : Fg 1989293449797903107896243866815352088230436897964235006879075420203675041523555886956544 M0 M) : qP (qf_X18_sentence_J44 N i1 i2 i3 i4 i5 M) (fun r => Fg 1989293449797903107896243866815352088230436897964235006879075420203675041523555886956544 M0 r.2) := by
  unfold qf_X18_sentence_J44
  refine qP_ite ?_ ?_
  · exact (fr_X18_sentence_J62 h)
  · refine qP_ite ?_ ?_
    · exact (fr_X18_sentence_J62 h)
    · refine qP_pure (fun r1 => ?_)
      refine qP_ite ?_ ?_
      · exact (fr_X18_sentence_J66 h)
      · exact (fr_X18_sentence_J62 h)
theorem fr_X18_sentence_J25 {N : Nat} {i1 i2 i3 i4 i5 t0 : Int} {M M0 : qm} (h : Fg 1989293449797903107896243866815352088230436897964235006879075420203675041523555886956544 M0 M) : qP (qf_X18_sentence_J25 N i1 i2 i3 i4 i5 t0 M) (fun r => Fg 1989293449797903107896243866815352088230436897964235006879075420203675041523555886956544 M0 r.2) := by
  unfold qf_X18_sentence_J25
  refine qP_ite ?_ ?_
  · exact (fr_X18_sentence_J66 h)
  · refine qP_ite ?_ ?_
    · exact (fr_X18_sentence_J44 h)
    · refine qP_pure (fun r1 => ?_)
      refine qP_ite ?_ ?_
      · exact (fr_X18_sentence_J66 h)
      · exact (fr_X18_sentence_J44 h)
theorem fr_X18_sentence_J24 {N : Nat} {i1 i2 i3 i4 i5 : Int} {M M0 : qm} (h : Fg 1989293449797903107896243866815352088230436897964235006879075420203675041523555886956544 M0 M) : qP (qf_X18_sentence_J24 N i1 i2 i3 i4 i5 M) (fun r => Fg 1989293449797903107896243866815352088230436897964235006879075420203675041523555886956544 M0 r.2) := by
  unfold qf_X18_sentence_J24
  exact (fr_X18_sentence_J25 h)
theorem fr_X18_sentence {N : Nat} {i1 i2 i3 i4 i5 : Int} {M M0 : qm} (h : Fg 1989293449797903107896243866815352088230436897964235006879075420203675041523555886956544 M0 M) : qP (qf_X18_sentence N i1 i2 i3 i4 i5 M) (fun r => Fg 1989293449797903107896243866815352088230436897964235006879075420203675041523555886956544 M0 r.2) := by
  unfold qf_X18_sentence
  refine qP_bnd (m0 := _) (Fg_w h rfl) (fun M1 h1 => ?_)
  refine qP_pure (fun r2 => ?_)
  refine qP_ite ?_ ?_
  · exact (fr_X18_sentence_J24 h1)
  · refine qP_pure (fun r3 => ?_)
    refine qP_ite ?_ ?_
    · exact (fr_X18_sentence_J24 h1)
    · exact (fr_X18_sentence_J25 h1)
theorem fr_X11_cutText_J20 {N : Nat} {i1 t0 : Int} {M M0 : qm} (h : Fg 37778931862957161709568 M0 M) : qP (qf_X11_cutText_J20 N i1 t0 M) (fun r => Fg 37778931862957161709568 M0 r.2) := by
  unfold qf_X11_cutText_J20
  refine qP_pure (fun r1 => ?_)
  rcases r1 with x2 | x2
  · refine qP_pure (fun r3 => ?_)
    rcases r3 with x4 | x4
    · refine qP_bnd (m0 := _) (Fg_w h rfl) (fun M5 h5 => ?_)
      exact qP_some h5
    · exact qP_some h
  · exact qP_some h
theorem fr_X11_cutText_J19 {N : Nat} {i1 : Int} {M M0 : qm} (h : Fg 37778931862957161709568 M0 M) : qP (qf_X11_cutText_J19 N i1 M) (fun r => Fg 37778931862957161709568 M0 r.2) := by
  unfold qf_X11_cutText_J19
  exact (fr_X11_cutText_J20 h)
theorem fr_X11_cutText {N : Nat} {i1 : Int} {M M0 : qm} (h : Fg 37778931862957161709568 M0 M) : qP (qf_X11_cutText N i1 M) (fun r => Fg 37778931862957161709568 M0 r.2) := by
  unfold qf_X11_cutText
  refine qP_ite ?_ ?_
  · exact (fr_X11_cutText_J19 h)
  · refine qP_ite ?_ ?_
    · exact (fr_X11_cutText_J19 h)
    · exact (fr_X11_cutText_J20 h)
theorem fr_L_cutText {N : Nat} {i1 : Int} {M M0 : qm} (h : Fg 165263992197562149737978827008192759957101170741070304821162198818601447809077836456297302609928821249676734869213001285632 M0 M) : qP (qf_L_cutText N i1 M) (fun r => Fg 165263992197562149737978827008192759957101170741070304821162198818601447809077836456297302609928821249676734869213001285632 M0 r.2) := by
  unfold qf_L_cutText
  refine qP_bind (fr_X11_cutText Fg_refl) (fun r1 k1 => ?_)
  have h1 := Fg_tr h (Fg_mono k1 rfl)
  obtain ⟨x1, m1⟩ := r1
  rcases x1 with x1 | x1
  · have h1 : Fg _ _ m1 := h1
    refine qP_bnd (m0 := _) (Fg_wa (k := 406) h1 rfl rfl) (fun M2 h2 => ?_)
    exact qP_some h2
  · have h1 : Fg _ _ m1 := h1
    refine qP_ite ?_ ?_
    · exact qP_some h1
    · refine qP_ite ?_ ?_
      · exact qP_some h1
      · exact qP_none
theorem fr_X18_cutText_J21 {N : Nat} {i1 t1 : Int} {M M0 : qm} (h : Fg 231584178474632390847141970018837317343870872249484812911631451035482191822848 M0 M) : qP (qf_X18_cutText_J21 N i1 t1 M) (fun r => Fg 231584178474632390847141970018837317343870872249484812911631451035482191822848 M0 r.2) := by
  unfold qf_X18_cutText_J21
  refine qP_bind (fr_X18_goes Fg_refl) (fun r1 k1 => ?_)
  have h1 := Fg_tr h (Fg_mono k1 rfl)
  refine qP_ite ?_ ?_
  · exact qP_some h1
  · refine qP_bnd (m0 := _) (Fg_w h1 rfl) (fun M2 h2 => ?_)
    exact qP_some h2
theorem fr_X18_cutText_J20 {N : Nat} {i1 : Int} {M M0 : qm} (h : Fg 231584178474632390847141970018837317343870872249484812911631451035482191822848 M0 M) : qP (qf_X18_cutText_J20 N i1 M) (fun r => Fg 231584178474632390847141970018837317343870872249484812911631451035482191822848 M0 r.2) := by
  unfold qf_X18_cutText_J20
  exact (fr_X18_cutText_J21 h)
theorem fr_X18_cutText {N : Nat} {i1 : Int} {M M0 : qm} (h : Fg 231584178474632390847141970018837317343870872249484812911631451035482191822848 M0 M) : qP (qf_X18_cutText N i1 M) (fun r => Fg 231584178474632390847141970018837317343870872249484812911631451035482191822848 M0 r.2) := by
  unfold qf_X18_cutText
  refine qP_ite ?_ ?_
  · exact (fr_X18_cutText_J20 h)
  · refine qP_ite ?_ ?_
    · exact (fr_X18_cutText_J20 h)
    · exact (fr_X18_cutText_J21 h)
theorem fr_X5_forgetTables_L7_b {N : Nat} {i1 : Int} {M M0 : qm} (h : Fg 125728285239921434169442304 M0 M) : qP (qf_X5_forgetTables_L7_b N i1 M) (pU (pU (fun r => Fg 125728285239921434169442304 M0 r.2) (fun r => Fg 125728285239921434169442304 M0 r.2)) (fun r => Fg 125728285239921434169442304 M0 r.2)) := by
  unfold qf_X5_forgetTables_L7_b
  refine qP_ite ?_ ?_
  · exact qP_some h
  · refine qP_ite ?_ ?_
    · refine qP_bnd (m0 := _) (Fg_f2 (k := 85) h (fun _ => rfl) rfl) (fun M1 h1 => ?_)
      exact qP_some h1
    · exact qP_none
theorem fr_X5_forgetTables_L7 (n : Nat) {N : Nat} {i1 : Int} {M M0 : qm} (h : Fg 125728285239921434169442304 M0 M) : qP (qf_X5_forgetTables_L7 N n i1 M) (pU (fun r => Fg 125728285239921434169442304 M0 r.2) (fun r => Fg 125728285239921434169442304 M0 r.2)) := by
  unfold qf_X5_forgetTables_L7
  exact qP_loop (I := fun s => Fg 125728285239921434169442304 M0 s.2) (fun s hs => fr_X5_forgetTables_L7_b hs) n _ h
theorem fr_X5_forgetTables_L31_b {N : Nat} {i1 : Int} {M M0 : qm} (h : Fg 125728285239921434169442304 M0 M) : qP (qf_X5_forgetTables_L31_b N i1 M) (pU (pU (fun r => Fg 125728285239921434169442304 M0 r.2) (fun r => Fg 125728285239921434169442304 M0 r.2)) (fun r => Fg 125728285239921434169442304 M0 r.2)) := by
  unfold qf_X5_forgetTables_L31_b
  refine qP_ite ?_ ?_
  · exact qP_some h
  · refine qP_ite ?_ ?_
    · refine qP_bnd (m0 := _) (Fg_f2 (k := 86) h (fun _ => rfl) rfl) (fun M1 h1 => ?_)
      exact qP_some h1
    · exact qP_none
theorem fr_X5_forgetTables_L31 (n : Nat) {N : Nat} {i1 : Int} {M M0 : qm} (h : Fg 125728285239921434169442304 M0 M) : qP (qf_X5_forgetTables_L31 N n i1 M) (pU (fun r => Fg 125728285239921434169442304 M0 r.2) (fun r => Fg 125728285239921434169442304 M0 r.2)) := by
  unfold qf_X5_forgetTables_L31
  exact qP_loop (I := fun s => Fg 125728285239921434169442304 M0 s.2) (fun s hs => fr_X5_forgetTables_L31_b hs) n _ h
theorem fr_X5_forgetTables {N : Nat} {M M0 : qm} (h : Fg 125728285239921434169442304 M0 M) : qP (qf_X5_forgetTables N M) (fun r => Fg 125728285239921434169442304 M0 r.2) := by
  unfold qf_X5_forgetTables
  refine qP_bnd (m0 := _) (Fg_w h rfl) (fun M1 h1 => ?_)
  refine qP_bind (fr_X5_forgetTables_L7 _ h1) (fun r2 k2 => ?_)
  rcases r2 with x2 | x2
  · exact qP_some k2
  · obtain ⟨y2_0, y2_1⟩ := x2
    have h2 : Fg _ _ y2_1 := k2
    refine qP_bind (fr_X5_forgetTables_L31 _ h2) (fun r3 k3 => ?_)
    rcases r3 with x3 | x3
    · exact qP_some k3
    · obtain ⟨y3_0, y3_1⟩ := x3
      have h3 : Fg _ _ y3_1 := k3
      exact qP_some h3
theorem fr_X5_nextWord_L111_b {N : Nat} {i1 i2 : Int} {M M0 : qm} (h : Fg 9369175102013376103972864 M0 M) : qP (qf_X5_nextWord_L111_b N i1 i2 M) (pU (pU (fun r => Fg 9369175102013376103972864 M0 r.2) (fun r => Fg 9369175102013376103972864 M0 r.2)) (fun r => Fg 9369175102013376103972864 M0 r.2.2)) := by
  unfold qf_X5_nextWord_L111_b
  refine qP_ite ?_ ?_
  · exact qP_some h
  · refine qP_ite ?_ ?_
    · exact qP_some h
    · refine qP_ite ?_ ?_
      · refine qP_pure (fun r1 => ?_)
        refine qP_ite ?_ ?_
        · refine qP_ite ?_ ?_
          · refine qP_bnd (m0 := _) (Fg_w h rfl) (fun M2 h2 => ?_)
            exact qP_some h2
          · exact qP_none
        · exact qP_some h
      · exact qP_none
theorem fr_X5_nextWord_L111 (n : Nat) {N : Nat} {i1 i2 : Int} {M M0 : qm} (h : Fg 9369175102013376103972864 M0 M) : qP (qf_X5_nextWord_L111 N n i1 i2 M) (pU (fun r => Fg 9369175102013376103972864 M0 r.2) (fun r => Fg 9369175102013376103972864 M0 r.2)) := by
  unfold qf_X5_nextWord_L111
  exact qP_loop (I := fun s => Fg 9369175102013376103972864 M0 s.2.2) (fun s hs => fr_X5_nextWord_L111_b hs) n _ h
theorem fr_X5_nextWord_J178 {N : Nat} {i1 : Int} {M M0 : qm} (h : Fg 9369175102013376103972864 M0 M) : qP (qf_X5_nextWord_J178 N i1 M) (fun r => Fg 9369175102013376103972864 M0 r.2) := by
  unfold qf_X5_nextWord_J178
  refine qP_bnd (m0 := _) (Fg_w h rfl) (fun M1 h1 => ?_)
  exact qP_some h1
theorem fr_X5_nextWord_J164 {N : Nat} {i1 i2 : Int} {M M0 : qm} (h : Fg 9369175102013376103972864 M0 M) : qP (qf_X5_nextWord_J164 N i1 i2 M) (fun r => Fg 9369175102013376103972864 M0 r.2) := by
  unfold qf_X5_nextWord_J164
  refine qP_ite ?_ ?_
  · refine qP_ite ?_ ?_
    · exact (fr_X5_nextWord_J178 h)
    · refine qP_bnd (m0 := _) (Fg_w h rfl) (fun M1 h1 => ?_)
      exact qP_some h1
  · exact (fr_X5_nextWord_J178 h)
theorem fr_X5_nextWord_J110 {N : Nat} {i1 t0 : Int} {M M0 : qm} (h : Fg 9369175102013376103972864 M0 M) : qP (qf_X5_nextWord_J110 N i1 t0 M) (fun r => Fg 9369175102013376103972864 M0 r.2) := by
  unfold qf_X5_nextWord_J110
  refine qP_bind (fr_X5_nextWord_L111 _ h) (fun r1 k1 => ?_)
  rcases r1 with x1 | x1
  · exact qP_some k1
  · obtain ⟨y1_0, y1_1⟩ := x1
    have h1 : Fg _ _ y1_1 := k1
    exact (fr_X5_nextWord_J164 h1)
theorem fr_X5_nextWord_J105 {N : Nat} {i1 : Int} {M M0 : qm} (h : Fg 9369175102013376103972864 M0 M) : qP (qf_X5_nextWord_J105 N i1 M) (fun r => Fg 9369175102013376103972864 M0 r.2) := by
  unfold qf_X5_nextWord_J105
  exact (fr_X5_nextWord_J110 h)
theorem fr_X5_nextWord_J84 {N : Nat} {i1 t1 : Int} {M M0 : qm} (h : Fg 9369175102013376103972864 M0 M) : qP (qf_X5_nextWord_J84 N i1 t1 M) (fun r => Fg 9369175102013376103972864 M0 r.2) := by
  unfold qf_X5_nextWord_J84
  refine qP_bnd (m0 := _) (Fg_w h rfl) (fun M1 h1 => ?_)
  refine qP_ite ?_ ?_
  · exact (fr_X5_nextWord_J105 h1)
  · refine qP_ite ?_ ?_
    · exact (fr_X5_nextWord_J105 h1)
    · exact (fr_X5_nextWord_J110 h1)
theorem fr_X5_nextWord_J41 {N : Nat} {i1 : Int} {M M0 : qm} (h : Fg 9369175102013376103972864 M0 M) : qP (qf_X5_nextWord_J41 N i1 M) (fun r => Fg 9369175102013376103972864 M0 r.2) := by
  unfold qf_X5_nextWord_J41
  refine qP_bnd (m0 := _) (Fg_w h rfl) (fun M1 h1 => ?_)
  refine qP_bnd (m0 := _) (Fg_w h1 rfl) (fun M2 h2 => ?_)
  refine qP_bnd (m0 := _) (Fg_w h2 rfl) (fun M3 h3 => ?_)
  refine qP_ite ?_ ?_
  · exact (fr_X5_nextWord_J84 h3)
  · refine qP_ite ?_ ?_
    · refine qP_pure (fun r4 => ?_)
      exact (fr_X5_nextWord_J84 h3)
    · exact qP_none
theorem fr_X5_nextWord {N : Nat} {M M0 : qm} (h : Fg 9369175102013376103972864 M0 M) : qP (qf_X5_nextWord N M) (fun r => Fg 9369175102013376103972864 M0 r.2) := by
  unfold qf_X5_nextWord
  refine qP_pure (fun r1 => ?_)
  rcases r1 with x2 | x2
  · exact qP_some h
  · exact (fr_X5_nextWord_J41 h)
theorem fr_X5_skipWord {N : Nat} {j1 : Int} {M M0 : qm} (h : Fg 9369175102013376103972864 M0 M) : qP (qf_X5_skipWord N j1 M) (fun r => Fg 9369175102013376103972864 M0 r.2) := by
  unfold qf_X5_skipWord
  refine qP_pure (fun r1 => ?_)
  refine qP_ite ?_ ?_
  · refine qP_ite ?_ ?_
    · exact qP_some h
    · exact qP_none
  · refine qP_bind (fr_X5_nextWord Fg_refl) (fun r2 k2 => ?_)
    have h2 := Fg_tr h (Fg_mono k2 rfl)
    refine qP_ite ?_ ?_
    · exact qP_some h2
    · exact qP_none
theorem fr_X5_skipSign_J13 {N : Nat} {t0 : Int} {M M0 : qm} (h : Fg 9369175102013376103972864 M0 M) : qP (qf_X5_skipSign_J13 N t0 M) (fun r => Fg 9369175102013376103972864 M0 r.2) := by
  unfold qf_X5_skipSign_J13
  refine qP_ite ?_ ?_
  · refine qP_ite ?_ ?_
    · exact qP_some h
    · exact qP_none
  · refine qP_bind (fr_X5_nextWord Fg_refl) (fun r1 k1 => ?_)
    have h1 := Fg_tr h (Fg_mono k1 rfl)
    refine qP_ite ?_ ?_
    · exact qP_some h1
    · exact qP_none
theorem fr_X5_skipSign {N : Nat} {i1 : Int} {M M0 : qm} (h : Fg 9369175102013376103972864 M0 M) : qP (qf_X5_skipSign N i1 M) (fun r => Fg 9369175102013376103972864 M0 r.2) := by
  unfold qf_X5_skipSign
  refine qP_ite ?_ ?_
  · exact (fr_X5_skipSign_J13 h)
  · exact (fr_X5_skipSign_J13 h)
theorem fr_X5_readHold {N : Nat} {M M0 : qm} (h : Fg 86740427557349643285168128 M0 M) : qP (qf_X5_readHold N M) (fun r => Fg 86740427557349643285168128 M0 r.2) := by
  unfold qf_X5_readHold
  refine qP_pure (fun r1 => ?_)
  refine qP_ite ?_ ?_
  · exact qP_some h
  · refine qP_ite ?_ ?_
    · refine qP_ite ?_ ?_
      · refine qP_bind (fr_X5_nextWord Fg_refl) (fun r2 k2 => ?_)
        have h2 := Fg_tr h (Fg_mono k2 rfl)
        refine qP_ite ?_ ?_
        · refine qP_bnd (m0 := _) (Fg_wa (k := 86) h2 rfl rfl) (fun M3 h3 => ?_)
          refine qP_bind (fr_X5_skipSign Fg_refl) (fun r4 k4 => ?_)
          have h4 := Fg_tr h3 (Fg_mono k4 rfl)
          refine qP_ite ?_ ?_
          · exact qP_some h4
          · exact qP_none
        · exact qP_none
      · exact qP_some h
    · exact qP_none
theorem fr_X5_readRow_J52 {N : Nat} {i1 i2 : Int} {M M0 : qm} (h : Fg 173783086569602943864012800 M0 M) : qP (qf_X5_readRow_J52 N i1 i2 M) (fun r => Fg 173783086569602943864012800 M0 r.2) := by
  unfold qf_X5_readRow_J52
  refine qP_bind (fr_X5_skipWord Fg_refl) (fun r1 k1 => ?_)
  have h1 := Fg_tr h (Fg_mono k1 rfl)
  refine qP_ite ?_ ?_
  · exact qP_some h1
  · refine qP_pure (fun r2 => ?_)
    refine qP_ite ?_ ?_
    · exact qP_some h1
    · refine qP_bind (fr_X5_nextWord Fg_refl) (fun r3 k3 => ?_)
      have h3 := Fg_tr h1 (Fg_mono k3 rfl)
      refine qP_bind (fr_X5_skipSign Fg_refl) (fun r4 k4 => ?_)
      have h4 := Fg_tr h3 (Fg_mono k4 rfl)
      refine qP_ite ?_ ?_
      · exact qP_some h4
      · refine qP_ite ?_ ?_
        · refine qP_bnd (m0 := _) (Fg_wa (k := 87) h4 rfl rfl) (fun M5 h5 => ?_)
          refine qP_bnd (m0 := _) (Fg_wa (k := 87) h5 rfl rfl) (fun M6 h6 => ?_)
          refine qP_bnd (m0 := _) (Fg_wa (k := 87) h6 rfl rfl) (fun M7 h7 => ?_)
          refine qP_bnd (m0 := _) (Fg_w h7 rfl) (fun M8 h8 => ?_)
          exact qP_some h8
        · exact qP_none
theorem fr_X5_readRow {N : Nat} {M M0 : qm} (h : Fg 173783086569602943864012800 M0 M) : qP (qf_X5_readRow N M) (fun r => Fg 173783086569602943864012800 M0 r.2) := by
  unfold qf_X5_readRow
  refine qP_bind (fr_X5_nextWord Fg_refl) (fun r1 k1 => ?_)
  have h1 := Fg_tr h (Fg_mono k1 rfl)
  refine qP_pure (fun r2 => ?_)
  refine qP_ite ?_ ?_
  · exact qP_some h1
  · refine qP_bind (fr_X5_nextWord Fg_refl) (fun r3 k3 => ?_)
    have h3 := Fg_tr h1 (Fg_mono k3 rfl)
    refine qP_bind (fr_X5_skipSign Fg_refl) (fun r4 k4 => ?_)
    have h4 := Fg_tr h3 (Fg_mono k4 rfl)
    refine qP_ite ?_ ?_
    · exact (fr_X5_readRow_J52 h4)
    · refine qP_pure (fun r5 => ?_)
      refine qP_ite ?_ ?_
      · exact qP_some h4
      · refine qP_ite ?_ ?_
        · exact qP_some h4
        · refine qP_bind (fr_X5_nextWord Fg_refl) (fun r6 k6 => ?_)
          have h6 := Fg_tr h4 (Fg_mono k6 rfl)
          exact (fr_X5_readRow_J52 h6)
theorem fr_X5_readActNumber {N : Nat} {i1 j2 i4 i5 : Int} {M M0 : qm} (h : Fg 86740427557349643285168128 M0 M) : qP (qf_X5_readActNumber N i1 j2 i4 i5 M) (fun r => Fg 86740427557349643285168128 M0 r.2) := by
  unfold qf_X5_readActNumber
  refine qP_bind (fr_X5_skipWord Fg_refl) (fun r1 k1 => ?_)
  have h1 := Fg_tr h (Fg_mono k1 rfl)
  refine qP_ite ?_ ?_
  · exact qP_some h1
  · refine qP_pure (fun r2 => ?_)
    refine qP_ite ?_ ?_
    · exact qP_some h1
    · refine qP_ite ?_ ?_
      · refine qP_ite ?_ ?_
        · refine qP_bnd (m0 := _) (Fg_wa (k := 86) h1 rfl rfl) (fun M3 h3 => ?_)
          refine qP_bind (fr_X5_nextWord Fg_refl) (fun r4 k4 => ?_)
          have h4 := Fg_tr h3 (Fg_mono k4 rfl)
          exact qP_some h4
        · exact qP_none
      · exact qP_none
theorem fr_X5_readAct_J86 {N : Nat} {i1 t0 : Int} {M M0 : qm} (h : Fg 86740427557349643285168128 M0 M) : qP (qf_X5_readAct_J86 N i1 t0 M) (fun r => Fg 86740427557349643285168128 M0 r.2) := by
  unfold qf_X5_readAct_J86
  refine qP_ite ?_ ?_
  · refine qP_bnd (m0 := _) (Fg_wa (k := 86) h rfl rfl) (fun M1 h1 => ?_)
    refine qP_ite ?_ ?_
    · exact qP_some h1
    · exact qP_none
  · exact qP_none
theorem fr_X5_readAct_J85 {N : Nat} {i1 : Int} {M M0 : qm} (h : Fg 86740427557349643285168128 M0 M) : qP (qf_X5_readAct_J85 N i1 M) (fun r => Fg 86740427557349643285168128 M0 r.2) := by
  unfold qf_X5_readAct_J85
  exact (fr_X5_readAct_J86 h)
theorem fr_X5_readAct {N : Nat} {M M0 : qm} (h : Fg 86740427557349643285168128 M0 M) : qP (qf_X5_readAct N M) (fun r => Fg 86740427557349643285168128 M0 r.2) := by
  unfold qf_X5_readAct
  refine qP_pure (fun r1 => ?_)
  refine qP_ite ?_ ?_
  · exact qP_some h
  · refine qP_ite ?_ ?_
    · refine qP_ite ?_ ?_
      · refine qP_bind (fr_X5_nextWord Fg_refl) (fun r2 k2 => ?_)
        have h2 := Fg_tr h (Fg_mono k2 rfl)
        refine qP_bind (fr_X5_readActNumber Fg_refl) (fun r3 k3 => ?_)
        have h3 := Fg_tr h2 (Fg_mono k3 rfl)
        refine qP_ite ?_ ?_
        · exact (fr_X5_readAct_J85 h3)
        · refine qP_bind (fr_X5_readActNumber Fg_refl) (fun r4 k4 => ?_)
          have h4 := Fg_tr h3 (Fg_mono k4 rfl)
          refine qP_ite ?_ ?_
          · exact (fr_X5_readAct_J85 h4)
          · refine qP_bind (fr_X5_readActNumber Fg_refl) (fun r5 k5 => ?_)
            have h5 := Fg_tr h4 (Fg_mono k5 rfl)
            refine qP_ite ?_ ?_
            · exact (fr_X5_readAct_J85 h5)
            · refine qP_bind (fr_X5_skipSign Fg_refl) (fun r6 k6 => ?_)
              have h6 := Fg_tr h5 (Fg_mono k6 rfl)
              refine qP_ite ?_ ?_
              · exact (fr_X5_readAct_J85 h6)
              · exact (fr_X5_readAct_J86 h6)
      · exact qP_some h
    · exact qP_none
theorem fr_X5_readPoints_L4_b {N : Nat} {a1 i2 i3 : Int} {M M0 : qm} (h : Fg 48054801329681509694570496 M0 M) : qP (qf_X5_readPoints_L4_b N a1 i2 i3 M) (pU (pU (fun r => Fg 48054801329681509694570496 M0 r.2) (fun r => Fg 48054801329681509694570496 M0 r.2)) (fun r => Fg 48054801329681509694570496 M0 r.2.2.2)) := by
  unfold qf_X5_readPoints_L4_b
  refine qP_ite ?_ ?_
  · exact qP_some h
  · refine qP_pure (fun r1 => ?_)
    refine qP_ite ?_ ?_
    · exact qP_some h
    · refine qP_pure (fun r2 => ?_)
      refine qP_ite ?_ ?_
      · refine qP_ite ?_ ?_
        · refine qP_bnd (m0 := _) (Fg_wa (k := 85) h rfl rfl) (fun M3 h3 => ?_)
          refine qP_bind (fr_X5_nextWord Fg_refl) (fun r4 k4 => ?_)
          have h4 := Fg_tr h3 (Fg_mono k4 rfl)
          exact qP_some h4
        · exact qP_none
      · exact qP_some h
theorem fr_X5_readPoints_L4 (n : Nat) {N : Nat} {a1 i2 i3 : Int} {M M0 : qm} (h : Fg 48054801329681509694570496 M0 M) : qP (qf_X5_readPoints_L4 N n a1 i2 i3 M) (pU (fun r => Fg 48054801329681509694570496 M0 r.2) (fun r => Fg 48054801329681509694570496 M0 r.2)) := by
  unfold qf_X5_readPoints_L4
  exact qP_loop (I := fun s => Fg 48054801329681509694570496 M0 s.2.2.2) (fun s hs => fr_X5_readPoints_L4_b hs) n _ h
theorem fr_X5_readPoints {N : Nat} {a1 : Int} {M M0 : qm} (h : Fg 48054801329681509694570496 M0 M) : qP (qf_X5_readPoints N a1 M) (fun r => Fg 48054801329681509694570496 M0 r.2) := by
  unfold qf_X5_readPoints
  refine qP_bind (fr_X5_readPoints_L4 _ h) (fun r1 k1 => ?_)
  rcases r1 with x1 | x1
  · exact qP_some k1
  · obtain ⟨y1_0, y1_1⟩ := x1
    have h1 : Fg _ _ y1_1 := k1
    exact qP_some h1
theorem fr_X5_readZone {N : Nat} {M M0 : qm} (h : Fg 48054801329681509694570496 M0 M) : qP (qf_X5_readZone N M) (fun r => Fg 48054801329681509694570496 M0 r.2) := by
  unfold qf_X5_readZone
  refine qP_pure (fun r1 => ?_)
  refine qP_ite ?_ ?_
  · exact qP_some h
  · refine qP_ite ?_ ?_
    · refine qP_ite ?_ ?_
      · refine qP_bind (fr_X5_nextWord Fg_refl) (fun r2 k2 => ?_)
        have h2 := Fg_tr h (Fg_mono k2 rfl)
        refine qP_bind (fr_X5_skipWord Fg_refl) (fun r3 k3 => ?_)
        have h3 := Fg_tr h2 (Fg_mono k3 rfl)
        refine qP_ite ?_ ?_
        · exact qP_some h3
        · refine qP_pure (fun r4 => ?_)
          refine qP_ite ?_ ?_
          · exact qP_some h3
          · refine qP_bind (fr_X5_nextWord Fg_refl) (fun r5 k5 => ?_)
            have h5 := Fg_tr h3 (Fg_mono k5 rfl)
            refine qP_bind (fr_X5_skipWord Fg_refl) (fun r6 k6 => ?_)
            have h6 := Fg_tr h5 (Fg_mono k6 rfl)
            refine qP_ite ?_ ?_
            · exact qP_some h6
            · refine qP_ite ?_ ?_
              · refine qP_bind (fr_X5_readPoints Fg_refl) (fun r7 k7 => ?_)
                have h7 := Fg_tr h6 (Fg_mono k7 rfl)
                refine qP_ite ?_ ?_
                · exact qP_some h7
                · refine qP_bind (fr_X5_skipSign Fg_refl) (fun r8 k8 => ?_)
                  have h8 := Fg_tr h7 (Fg_mono k8 rfl)
                  refine qP_ite ?_ ?_
                  · exact qP_some h8
                  · refine qP_ite ?_ ?_
                    · refine qP_ite ?_ ?_
                      · refine qP_bnd (m0 := _) (Fg_wa (k := 85) h8 rfl rfl) (fun M9 h9 => ?_)
                        refine qP_ite ?_ ?_
                        · refine qP_bnd (m0 := _) (Fg_wa (k := 85) h9 rfl rfl) (fun M10 h10 => ?_)
                          exact qP_some h10
                        · exact qP_none
                      · exact qP_none
                    · refine qP_bnd (m0 := _) (Fg_w h8 rfl) (fun M11 h11 => ?_)
                      exact qP_some h11
              · exact qP_none
      · exact qP_some h
    · exact qP_none
theorem fr_X5_readSentence {N : Nat} {M M0 : qm} (h : Fg 289839965252607344635805696 M0 M) : qP (qf_X5_readSentence N M) (fun r => Fg 289839965252607344635805696 M0 r.2) := by
  unfold qf_X5_readSentence
  refine qP_bind (fr_X5_skipWord Fg_refl) (fun r1 k1 => ?_)
  have h1 := Fg_tr h (Fg_mono k1 rfl)
  refine qP_ite ?_ ?_
  · refine qP_bind (fr_X5_skipWord Fg_refl) (fun r2 k2 => ?_)
    have h2 := Fg_tr h1 (Fg_mono k2 rfl)
    refine qP_ite ?_ ?_
    · refine qP_pure (fun r3 => ?_)
      refine qP_ite ?_ ?_
      · refine qP_bind (fr_X5_skipWord Fg_refl) (fun r4 k4 => ?_)
        have h4 := Fg_tr h2 (Fg_mono k4 rfl)
        refine qP_ite ?_ ?_
        · exact qP_some h4
        · refine qP_bind (fr_X5_readHold Fg_refl) (fun r5 k5 => ?_)
          have h5 := Fg_tr h4 (Fg_mono k5 rfl)
          refine qP_ite ?_ ?_
          · exact qP_some h5
          · exact qP_some h5
      · refine qP_ite ?_ ?_
        · exact qP_some h2
        · refine qP_bind (fr_X5_readRow Fg_refl) (fun r6 k6 => ?_)
          have h6 := Fg_tr h2 (Fg_mono k6 rfl)
          refine qP_ite ?_ ?_
          · exact qP_some h6
          · exact qP_some h6
    · refine qP_bind (fr_X5_readAct Fg_refl) (fun r7 k7 => ?_)
      have h7 := Fg_tr h2 (Fg_mono k7 rfl)
      refine qP_ite ?_ ?_
      · exact qP_some h7
      · exact qP_none
  · refine qP_bind (fr_X5_readZone Fg_refl) (fun r8 k8 => ?_)
    have h8 := Fg_tr h1 (Fg_mono k8 rfl)
    refine qP_ite ?_ ?_
    · exact qP_some h8
    · exact qP_none
theorem fr_X5_readSentences_L25_b {N : Nat} {i2 : Int} {M M0 : qm} (h : Fg 289991080980059173282643968 M0 M) : qP (qf_X5_readSentences_L25_b N i2 M) (pU (pU (fun r => Fg 289991080980059173282643968 M0 r.2) (fun r => Fg 289991080980059173282643968 M0 r.2)) (fun r => Fg 289991080980059173282643968 M0 r.2)) := by
  unfold qf_X5_readSentences_L25_b
  refine qP_ite ?_ ?_
  · exact qP_some h
  · refine qP_ite ?_ ?_
    · exact qP_some h
    · refine qP_bind (fr_X5_readSentence Fg_refl) (fun r1 k1 => ?_)
      have h1 := Fg_tr h (Fg_mono k1 rfl)
      refine qP_ite ?_ ?_
      · exact qP_some h1
      · exact qP_some h1
theorem fr_X5_readSentences_L25 (n : Nat) {N : Nat} {i2 : Int} {M M0 : qm} (h : Fg 289991080980059173282643968 M0 M) : qP (qf_X5_readSentences_L25 N n i2 M) (pU (fun r => Fg 289991080980059173282643968 M0 r.2) (fun r => Fg 289991080980059173282643968 M0 r.2)) := by
  unfold qf_X5_readSentences_L25
  exact qP_loop (I := fun s => Fg 289991080980059173282643968 M0 s.2) (fun s hs => fr_X5_readSentences_L25_b hs) n _ h
theorem fr_X5_readSentences {N : Nat} {i1 : Int} {M M0 : qm} (h : Fg 289991080980059173282643968 M0 M) : qP (qf_X5_readSentences N i1 M) (fun r => Fg 289991080980059173282643968 M0 r.2) := by
  unfold qf_X5_readSentences
  refine qP_bnd (m0 := _) (Fg_w h rfl) (fun M1 h1 => ?_)
  refine qP_bind (fr_X5_forgetTables Fg_refl) (fun r2 k2 => ?_)
  have h2 := Fg_tr h1 (Fg_mono k2 rfl)
  refine qP_bnd (m0 := _) (Fg_w h2 rfl) (fun M3 h3 => ?_)
  refine qP_bnd (m0 := _) (Fg_w h3 rfl) (fun M4 h4 => ?_)
  refine qP_bind (fr_X5_nextWord Fg_refl) (fun r5 k5 => ?_)
  have h5 := Fg_tr h4 (Fg_mono k5 rfl)
  refine qP_bind (fr_X5_readSentences_L25 _ h5) (fun r6 k6 => ?_)
  rcases r6 with x6 | x6
  · exact qP_some k6
  · obtain ⟨y6_0, y6_1⟩ := x6
    have h6 : Fg _ _ y6_1 := k6
    exact qP_some h6
theorem fr_X4_takeTables_L2_b {N : Nat} {i2 : Int} {M M0 : qm} (h : Fg 337900390352491894219130985179745833975808 M0 M) : qP (qf_X4_takeTables_L2_b N i2 M) (pU (pU (fun r => Fg 337900390352491894219130985179745833975808 M0 r.2) (fun r => Fg 337900390352491894219130985179745833975808 M0 r.2)) (fun r => Fg 337900390352491894219130985179745833975808 M0 r.2)) := by
  unfold qf_X4_takeTables_L2_b
  refine qP_ite ?_ ?_
  · exact qP_some h
  · refine qP_ite ?_ ?_
    · refine qP_ite ?_ ?_
      · refine qP_ite ?_ ?_
        · refine qP_bnd (m0 := _) (Fg_c2 (k := 133) h (fun _ => rfl) rfl) (fun M1 h1 => ?_)
          exact qP_some h1
        · exact qP_none
      · exact qP_none
    · exact qP_none
theorem fr_X4_takeTables_L2 (n : Nat) {N : Nat} {i2 : Int} {M M0 : qm} (h : Fg 337900390352491894219130985179745833975808 M0 M) : qP (qf_X4_takeTables_L2 N n i2 M) (pU (fun r => Fg 337900390352491894219130985179745833975808 M0 r.2) (fun r => Fg 337900390352491894219130985179745833975808 M0 r.2)) := by
  unfold qf_X4_takeTables_L2
  exact qP_loop (I := fun s => Fg 337900390352491894219130985179745833975808 M0 s.2) (fun s hs => fr_X4_takeTables_L2_b hs) n _ h
theorem fr_X4_takeTables_L40_b {N : Nat} {i2 : Int} {M M0 : qm} (h : Fg 337900390352491894219130985179745833975808 M0 M) : qP (qf_X4_takeTables_L40_b N i2 M) (pU (pU (fun r => Fg 337900390352491894219130985179745833975808 M0 r.2) (fun r => Fg 337900390352491894219130985179745833975808 M0 r.2)) (fun r => Fg 337900390352491894219130985179745833975808 M0 r.2)) := by
  unfold qf_X4_takeTables_L40_b
  refine qP_ite ?_ ?_
  · exact qP_some h
  · refine qP_ite ?_ ?_
    · refine qP_ite ?_ ?_
      · refine qP_ite ?_ ?_
        · refine qP_bnd (m0 := _) (Fg_c2 (k := 134) h (fun _ => rfl) rfl) (fun M1 h1 => ?_)
          refine qP_ite ?_ ?_
          · refine qP_bnd (m0 := _) (Fg_wa (k := 137) h1 rfl rfl) (fun M2 h2 => ?_)
            exact qP_some h2
          · exact qP_none
        · exact qP_none
      · exact qP_none
    · exact qP_none
theorem fr_X4_takeTables_L40 (n : Nat) {N : Nat} {i2 : Int} {M M0 : qm} (h : Fg 337900390352491894219130985179745833975808 M0 M) : qP (qf_X4_takeTables_L40 N n i2 M) (pU (fun r => Fg 337900390352491894219130985179745833975808 M0 r.2) (fun r => Fg 337900390352491894219130985179745833975808 M0 r.2)) := by
  unfold qf_X4_takeTables_L40
  exact qP_loop (I := fun s => Fg 337900390352491894219130985179745833975808 M0 s.2) (fun s hs => fr_X4_takeTables_L40_b hs) n _ h
theorem fr_X4_takeTables_L85_b {N : Nat} {i2 : Int} {M M0 : qm} (h : Fg 337900390352491894219130985179745833975808 M0 M) : qP (qf_X4_takeTables_L85_b N i2 M) (pU (pU (fun r => Fg 337900390352491894219130985179745833975808 M0 r.2) (fun r => Fg 337900390352491894219130985179745833975808 M0 r.2)) (fun r => Fg 337900390352491894219130985179745833975808 M0 r.2)) := by
  unfold qf_X4_takeTables_L85_b
  refine qP_ite ?_ ?_
  · exact qP_some h
  · refine qP_ite ?_ ?_
    · refine qP_ite ?_ ?_
      · refine qP_ite ?_ ?_
        · refine qP_bnd (m0 := _) (Fg_c2 (k := 135) h (fun _ => rfl) rfl) (fun M1 h1 => ?_)
          exact qP_some h1
        · exact qP_none
      · exact qP_none
    · exact qP_none
theorem fr_X4_takeTables_L85 (n : Nat) {N : Nat} {i2 : Int} {M M0 : qm} (h : Fg 337900390352491894219130985179745833975808 M0 M) : qP (qf_X4_takeTables_L85 N n i2 M) (pU (fun r => Fg 337900390352491894219130985179745833975808 M0 r.2) (fun r => Fg 337900390352491894219130985179745833975808 M0 r.2)) := by
  unfold qf_X4_takeTables_L85
  exact qP_loop (I := fun s => Fg 337900390352491894219130985179745833975808 M0 s.2) (fun s hs => fr_X4_takeTables_L85_b hs) n _ h
theorem fr_X4_sortActs_L13_b {N : Nat} {i1 i2 : Int} {M M0 : qm} (h : Fg 87112285931760246646623899502532662132736 M0 M) : qP (qf_X4_sortActs_L13_b N i1 i2 M) (pU (pU (fun r => Fg 87112285931760246646623899502532662132736 M0 r.2) (fun r => Fg 87112285931760246646623899502532662132736 M0 r.2)) (fun r => Fg 87112285931760246646623899502532662132736 M0 r.2.2)) := by
  unfold qf_X4_sortActs_L13_b
  refine qP_ite ?_ ?_
  · exact qP_some h
  · refine qP_ite ?_ ?_
    · refine qP_ite ?_ ?_
      · refine qP_ite ?_ ?_
        · refine qP_ite ?_ ?_
          · exact qP_some h
          · refine qP_ite ?_ ?_
            · refine qP_ite ?_ ?_
              · refine qP_bnd (m0 := _) (Fg_wa (k := 136) h rfl rfl) (fun M1 h1 => ?_)
                exact qP_some h1
              · exact qP_none
            · exact qP_none
        · exact qP_none
      · exact qP_none
    · exact qP_none
theorem fr_X4_sortActs_L13 (n : Nat) {N : Nat} {i1 i2 : Int} {M M0 : qm} (h : Fg 87112285931760246646623899502532662132736 M0 M) : qP (qf_X4_sortActs_L13 N n i1 i2 M) (pU (fun r => Fg 87112285931760246646623899502532662132736 M0 r.2) (fun r => Fg 87112285931760246646623899502532662132736 M0 r.2)) := by
  unfold qf_X4_sortActs_L13
  exact qP_loop (I := fun s => Fg 87112285931760246646623899502532662132736 M0 s.2.2) (fun s hs => fr_X4_sortActs_L13_b hs) n _ h
theorem fr_X4_sortActs_J63 {N : Nat} {i1 i2 : Int} {M M0 : qm} (h : Fg 87112285931760246646623899502532662132736 M0 M) : qP (qf_X4_sortActs_J63 N i1 i2 M) (pU (pU (fun r => Fg 87112285931760246646623899502532662132736 M0 r.2) (fun r => Fg 87112285931760246646623899502532662132736 M0 r.2)) (fun r => Fg 87112285931760246646623899502532662132736 M0 r.2)) := by
  unfold qf_X4_sortActs_J63
  refine qP_ite ?_ ?_
  · refine qP_bnd (m0 := _) (Fg_wa (k := 136) h rfl rfl) (fun M1 h1 => ?_)
    exact qP_some h1
  · exact qP_none
theorem fr_X4_sortActs_L2_b {N : Nat} {i1 : Int} {M M0 : qm} (h : Fg 87112285931760246646623899502532662132736 M0 M) : qP (qf_X4_sortActs_L2_b N i1 M) (pU (pU (fun r => Fg 87112285931760246646623899502532662132736 M0 r.2) (fun r => Fg 87112285931760246646623899502532662132736 M0 r.2)) (fun r => Fg 87112285931760246646623899502532662132736 M0 r.2)) := by
  unfold qf_X4_sortActs_L2_b
  refine qP_ite ?_ ?_
  · exact qP_some h
  · refine qP_bind (fr_X4_sortActs_L13 _ h) (fun r1 k1 => ?_)
    rcases r1 with x1 | x1
    · exact qP_some k1
    · obtain ⟨y1_0, y1_1⟩ := x1
      have h1 : Fg _ _ y1_1 := k1
      exact (fr_X4_sortActs_J63 h1)
theorem fr_X4_sortActs_L2 (n : Nat) {N : Nat} {i1 : Int} {M M0 : qm} (h : Fg 87112285931760246646623899502532662132736 M0 M) : qP (qf_X4_sortActs_L2 N n i1 M) (pU (fun r => Fg 87112285931760246646623899502532662132736 M0 r.2) (fun r => Fg 87112285931760246646623899502532662132736 M0 r.2)) := by
  unfold qf_X4_sortActs_L2
  exact qP_loop (I := fun s => Fg 87112285931760246646623899502532662132736 M0 s.2) (fun s hs => fr_X4_sortActs_L2_b hs) n _ h
theorem fr_X4_sortActs {N : Nat} {M M0 : qm} (h : Fg 87112285931760246646623899502532662132736 M0 M) : qP (qf_X4_sortActs N M) (fun r => Fg 87112285931760246646623899502532662132736 M0 r.2) := by
  unfold qf_X4_sortActs
  refine qP_bind (fr_X4_sortActs_L2 _ h) (fun r1 k1 => ?_)
  rcases r1 with x1 | x1
  · exact qP_some k1
  · obtain ⟨y1_0, y1_1⟩ := x1
    have h1 : Fg _ _ y1_1 := k1
    exact qP_some h1
theorem fr_X4_takeTables {N : Nat} {M M0 : qm} (h : Fg 337900390352491894219130985179745833975808 M0 M) : qP (qf_X4_takeTables N M) (fun r => Fg 337900390352491894219130985179745833975808 M0 r.2) := by
  unfold qf_X4_takeTables
  refine qP_bind (fr_X4_takeTables_L2 _ h) (fun r1 k1 => ?_)
  rcases r1 with x1 | x1
  · exact qP_some k1
  · obtain ⟨y1_0, y1_1⟩ := x1
    have h1 : Fg _ _ y1_1 := k1
    refine qP_bind (fr_X4_takeTables_L40 _ h1) (fun r2 k2 => ?_)
    rcases r2 with x2 | x2
    · exact qP_some k2
    · obtain ⟨y2_0, y2_1⟩ := x2
      have h2 : Fg _ _ y2_1 := k2
      refine qP_bind (fr_X4_takeTables_L85 _ h2) (fun r3 k3 => ?_)
      rcases r3 with x3 | x3
      · exact qP_some k3
      · obtain ⟨y3_0, y3_1⟩ := x3
        have h3 : Fg _ _ y3_1 := k3
        refine qP_bnd (m0 := _) (Fg_w h3 rfl) (fun M4 h4 => ?_)
        refine qP_bind (fr_X4_sortActs Fg_refl) (fun r5 k5 => ?_)
        have h5 := Fg_tr h4 (Fg_mono k5 rfl)
        exact qP_some h5
theorem fr_X11_matrix {N : Nat} {M M0 : qm} (h : Fg 337900390352492184210211965238919116619776 M0 M) : qP (qf_X11_matrix N M) (fun r => Fg 337900390352492184210211965238919116619776 M0 r.2) := by
  unfold qf_X11_matrix
  refine qP_pure (fun r1 => ?_)
  rcases r1 with x2 | x2
  · refine qP_bind (fr_X5_readSentences Fg_refl) (fun r3 k3 => ?_)
    have h3 := Fg_tr h (Fg_mono k3 rfl)
    refine qP_ite ?_ ?_
    · exact qP_some h3
    · refine qP_bind (fr_X4_takeTables Fg_refl) (fun r4 k4 => ?_)
      have h4 := Fg_tr h3 (Fg_mono k4 rfl)
      exact qP_some h4
  · exact qP_some h
theorem fr_L_matrix {N : Nat} {M M0 : qm} (h : Fg 165263992197562149737978827008192759957101170741070304821162198818601447809077836794197692962421005422109768245174956195840 M0 M) : qP (qf_L_matrix N M) (fun r => Fg 165263992197562149737978827008192759957101170741070304821162198818601447809077836794197692962421005422109768245174956195840 M0 r.2) := by
  unfold qf_L_matrix
  refine qP_bind (fr_X11_matrix Fg_refl) (fun r1 k1 => ?_)
  have h1 := Fg_tr h (Fg_mono k1 rfl)
  obtain ⟨x1, m1⟩ := r1
  rcases x1 with x1 | x1
  · have h1 : Fg _ _ m1 := h1
    refine qP_bnd (m0 := _) (Fg_wa (k := 406) h1 rfl rfl) (fun M2 h2 => ?_)
    exact qP_some h2
  · have h1 : Fg _ _ m1 := h1
    refine qP_ite ?_ ?_
    · exact qP_some h1
    · exact qP_none
theorem fr_X14_list_J79 {N : Nat} {i2 i3 : Int} {M M0 : qm} (h : Fg 2846169553453232083511374811513548775033376223081445064089867414914504726549626880 M0 M) : qP (qf_X14_list_J79 N i2 i3 M) (pU (pU (fun r => Fg 2846169553453232083511374811513548775033376223081445064089867414914504726549626880 M0 r.2) (fun r => Fg 2846169553453232083511374811513548775033376223081445064089867414914504726549626880 M0 r.2)) (fun r => Fg 2846169553453232083511374811513548775033376223081445064089867414914504726549626880 M0 r.2.2)) := by
  unfold qf_X14_list_J79
  exact qP_some h
theorem fr_X14_list_J61 {N : Nat} {i2 i3 : Int} {M M0 : qm} (h : Fg 2846169553453232083511374811513548775033376223081445064089867414914504726549626880 M0 M) : qP (qf_X14_list_J61 N i2 i3 M) (pU (pU (fun r => Fg 2846169553453232083511374811513548775033376223081445064089867414914504726549626880 M0 r.2) (fun r => Fg 2846169553453232083511374811513548775033376223081445064089867414914504726549626880 M0 r.2)) (fun r => Fg 2846169553453232083511374811513548775033376223081445064089867414914504726549626880 M0 r.2.2)) := by
  unfold qf_X14_list_J61
  refine qP_ite ?_ ?_
  · exact (fr_X14_list_J79 h)
  · refine qP_ite ?_ ?_
    · refine qP_bnd (m0 := _) (Fg_wa (k := 270) h rfl rfl) (fun M1 h1 => ?_)
      exact (fr_X14_list_J79 h1)
    · exact qP_none
theorem fr_X14_list_J41 {N : Nat} {i2 i3 : Int} {M M0 : qm} (h : Fg 2846169553453232083511374811513548775033376223081445064089867414914504726549626880 M0 M) : qP (qf_X14_list_J41 N i2 i3 M) (pU (pU (fun r => Fg 2846169553453232083511374811513548775033376223081445064089867414914504726549626880 M0 r.2) (fun r => Fg 2846169553453232083511374811513548775033376223081445064089867414914504726549626880 M0 r.2)) (fun r => Fg 2846169553453232083511374811513548775033376223081445064089867414914504726549626880 M0 r.2.2)) := by
  unfold qf_X14_list_J41
  refine qP_ite ?_ ?_
  · refine qP_bnd (m0 := _) (Fg_wa (k := 269) h rfl rfl) (fun M1 h1 => ?_)
    refine qP_bnd (m0 := _) (Fg_w h1 rfl) (fun M2 h2 => ?_)
    exact (fr_X14_list_J61 h2)
  · exact qP_none
theorem fr_X14_list_L9_b {N : Nat} {i1 i2 : Int} {M M0 : qm} (h : Fg 2846169553453232083511374811513548775033376223081445064089867414914504726549626880 M0 M) : qP (qf_X14_list_L9_b N i1 i2 M) (pU (pU (fun r => Fg 2846169553453232083511374811513548775033376223081445064089867414914504726549626880 M0 r.2) (fun r => Fg 2846169553453232083511374811513548775033376223081445064089867414914504726549626880 M0 r.2)) (fun r => Fg 2846169553453232083511374811513548775033376223081445064089867414914504726549626880 M0 r.2.2)) := by
  unfold qf_X14_list_L9_b
  refine qP_ite ?_ ?_
  · exact qP_some h
  · refine qP_ite ?_ ?_
    · refine qP_pure (fun r1 => ?_)
      refine qP_ite ?_ ?_
      · exact (fr_X14_list_J61 h)
      · refine qP_ite ?_ ?_
        · exact (fr_X14_list_J41 h)
        · refine qP_ite ?_ ?_
          · exact (fr_X14_list_J61 h)
          · exact (fr_X14_list_J41 h)
    · exact qP_none
theorem fr_X14_list_L9 (n : Nat) {N : Nat} {i1 i2 : Int} {M M0 : qm} (h : Fg 2846169553453232083511374811513548775033376223081445064089867414914504726549626880 M0 M) : qP (qf_X14_list_L9 N n i1 i2 M) (pU (fun r => Fg 2846169553453232083511374811513548775033376223081445064089867414914504726549626880 M0 r.2) (fun r => Fg 2846169553453232083511374811513548775033376223081445064089867414914504726549626880 M0 r.2)) := by
  unfold qf_X14_list_L9
  exact qP_loop (I := fun s => Fg 2846169553453232083511374811513548775033376223081445064089867414914504726549626880 M0 s.2.2) (fun s hs => fr_X14_list_L9_b hs) n _ h
theorem fr_X14_list {N : Nat} {M M0 : qm} (h : Fg 2846169553453232083511374811513548775033376223081445064089867414914504726549626880 M0 M) : qP (qf_X14_list N M) (fun r => Fg 2846169553453232083511374811513548775033376223081445064089867414914504726549626880 M0 r.2) := by
  unfold qf_X14_list
  refine qP_bnd (m0 := _) (Fg_w h rfl) (fun M1 h1 => ?_)
  refine qP_bind (fr_X14_list_L9 _ h1) (fun r2 k2 => ?_)
  rcases r2 with x2 | x2
  · exact qP_some k2
  · obtain ⟨y2_0, y2_1⟩ := x2
    have h2 : Fg _ _ y2_1 := k2
    exact qP_some h2
theorem fr_X14_read_L22_b {N : Nat} {i1 : Int} {M M0 : qm} (h : Fg 248660683994317354410626446702703369956187515216437576332161318102791972663136752762880 M0 M) : qP (qf_X14_read_L22_b N i1 M) (pU (pU (fun r => Fg 248660683994317354410626446702703369956187515216437576332161318102791972663136752762880 M0 r.2) (fun r => Fg 248660683994317354410626446702703369956187515216437576332161318102791972663136752762880 M0 r.2)) (fun r => Fg 248660683994317354410626446702703369956187515216437576332161318102791972663136752762880 M0 r.2)) := by
  unfold qf_X14_read_L22_b
  refine qP_ite ?_ ?_
  · exact qP_some h
  · refine qP_ite ?_ ?_
    · refine qP_bnd (m0 := _) (Fg_wa (k := 271) h rfl rfl) (fun M1 h1 => ?_)
      refine qP_ite ?_ ?_
      · refine qP_bnd (m0 := _) (Fg_wa (k := 275) h1 rfl rfl) (fun M2 h2 => ?_)
        exact qP_some h2
      · exact qP_none
    · exact qP_none
theorem fr_X14_read_L22 (n : Nat) {N : Nat} {i1 : Int} {M M0 : qm} (h : Fg 248660683994317354410626446702703369956187515216437576332161318102791972663136752762880 M0 M) : qP (qf_X14_read_L22 N n i1 M) (pU (fun r => Fg 248660683994317354410626446702703369956187515216437576332161318102791972663136752762880 M0 r.2) (fun r => Fg 248660683994317354410626446702703369956187515216437576332161318102791972663136752762880 M0 r.2)) := by
  unfold qf_X14_read_L22
  exact qP_loop (I := fun s => Fg 248660683994317354410626446702703369956187515216437576332161318102791972663136752762880 M0 s.2) (fun s hs => fr_X14_read_L22_b hs) n _ h
theorem fr_X14_want_J19 {N : Nat} {M M0 : qm} (h : Fg 1852673427797059126777135760139006525652319754650249024631321344126610074238976 M0 M) : qP (qf_X14_want_J19 N M) (fun r => Fg 1852673427797059126777135760139006525652319754650249024631321344126610074238976 M0 r.2) := by
  unfold qf_X14_want_J19
  refine qP_ite ?_ ?_
  · exact qP_some h
  · exact qP_some h
theorem fr_X14_want {N : Nat} {i1 : Int} {M M0 : qm} (h : Fg 1852673427797059126777135760139006525652319754650249024631321344126610074238976 M0 M) : qP (qf_X14_want N i1 M) (fun r => Fg 1852673427797059126777135760139006525652319754650249024631321344126610074238976 M0 r.2) := by
  unfold qf_X14_want
  refine qP_ite ?_ ?_
  · refine qP_ite ?_ ?_
    · exact (fr_X14_want_J19 h)
    · refine qP_bnd (m0 := _) (Fg_w h rfl) (fun M1 h1 => ?_)
      exact (fr_X14_want_J19 h1)
  · exact (fr_X14_want_J19 h)
theorem fr_X14_look_J148 {N : Nat} {i4 t1 : Int} {M M0 : qm} (h : Fg 1852673427797059126777135760139006525652319754650249024631321344126610074238976 M0 M) : qP (qf_X14_look_J148 N i4 t1 M) (fun r => Fg 1852673427797059126777135760139006525652319754650249024631321344126610074238976 M0 r.2) := by
  unfold qf_X14_look_J148
  refine qP_bind (fr_X14_want Fg_refl) (fun r1 k1 => ?_)
  have h1 := Fg_tr h (Fg_mono k1 rfl)
  refine qP_ite ?_ ?_
  · exact qP_some h1
  · exact qP_some h1
theorem fr_X14_look_J147 {N : Nat} {i4 : Int} {M M0 : qm} (h : Fg 1852673427797059126777135760139006525652319754650249024631321344126610074238976 M0 M) : qP (qf_X14_look_J147 N i4 M) (fun r => Fg 1852673427797059126777135760139006525652319754650249024631321344126610074238976 M0 r.2) := by
  unfold qf_X14_look_J147
  exact (fr_X14_look_J148 h)
theorem fr_X14_look_J126 {N : Nat} {i1 i2 i3 i4 : Int} {M M0 : qm} (h : Fg 1852673427797059126777135760139006525652319754650249024631321344126610074238976 M0 M) : qP (qf_X14_look_J126 N i1 i2 i3 i4 M) (fun r => Fg 1852673427797059126777135760139006525652319754650249024631321344126610074238976 M0 r.2) := by
  unfold qf_X14_look_J126
  refine qP_ite ?_ ?_
  · exact (fr_X14_look_J147 h)
  · refine qP_ite ?_ ?_
    · exact (fr_X14_look_J147 h)
    · refine qP_ite ?_ ?_
      · exact (fr_X14_look_J147 h)
      · exact (fr_X14_look_J148 h)
theorem fr_X14_look_J82 {N : Nat} {i1 i2 i3 i4 t0 : Int} {M M0 : qm} (h : Fg 1852673427797059126777135760139006525652319754650249024631321344126610074238976 M0 M) : qP (qf_X14_look_J82 N i1 i2 i3 i4 t0 M) (fun r => Fg 1852673427797059126777135760139006525652319754650249024631321344126610074238976 M0 r.2) := by
  unfold qf_X14_look_J82
  refine qP_pure (fun r1 => ?_)
  rcases r1 with x2 | x2
  · exact qP_some h
  · exact (fr_X14_look_J126 h)
theorem fr_X14_look_J61 {N : Nat} {i1 i2 t0 : Int} {M M0 : qm} (h : Fg 1852673427797059126777135760139006525652319754650249024631321344126610074238976 M0 M) : qP (qf_X14_look_J61 N i1 i2 t0 M) (fun r => Fg 1852673427797059126777135760139006525652319754650249024631321344126610074238976 M0 r.2) := by
  unfold qf_X14_look_J61
  refine qP_ite ?_ ?_
  · exact (fr_X14_look_J82 h)
  · refine qP_ite ?_ ?_
    · exact (fr_X14_look_J82 h)
    · exact qP_none
theorem fr_X14_look_J60 {N : Nat} {i1 i2 : Int} {M M0 : qm} (h : Fg 1852673427797059126777135760139006525652319754650249024631321344126610074238976 M0 M) : qP (qf_X14_look_J60 N i1 i2 M) (fun r => Fg 1852673427797059126777135760139006525652319754650249024631321344126610074238976 M0 r.2) := by
  unfold qf_X14_look_J60
  exact (fr_X14_look_J61 h)
theorem fr_X14_look {N : Nat} {i1 i2 : Int} {M M0 : qm} (h : Fg 1852673427797059126777135760139006525652319754650249024631321344126610074238976 M0 M) : qP (qf_X14_look N i1 i2 M) (fun r => Fg 1852673427797059126777135760139006525652319754650249024631321344126610074238976 M0 r.2) := by
  unfold qf_X14_look
  refine qP_ite ?_ ?_
  · exact (fr_X14_look_J60 h)
  · refine qP_ite ?_ ?_
    · refine qP_ite ?_ ?_
      · refine qP_pure (fun r1 => ?_)
        refine qP_ite ?_ ?_
        · refine qP_ite ?_ ?_
          · refine qP_ite ?_ ?_
            · refine qP_ite ?_ ?_
              · exact (fr_X14_look_J60 h)
              · exact (fr_X14_look_J61 h)
            · exact qP_none
          · exact qP_none
        · exact (fr_X14_look_J60 h)
      · exact qP_none
    · exact qP_none
theorem fr_X14_take_J14 {N : Nat} {t1 : Int} {M M0 : qm} (h : Fg 2779010141695588690165703640208509788478479631975373536946982016189915111358464 M0 M) : qP (qf_X14_take_J14 N t1 M) (fun r => Fg 2779010141695588690165703640208509788478479631975373536946982016189915111358464 M0 r.2) := by
  unfold qf_X14_take_J14
  refine qP_bind (fr_X14_want Fg_refl) (fun r1 k1 => ?_)
  have h1 := Fg_tr h (Fg_mono k1 rfl)
  refine qP_ite ?_ ?_
  · exact qP_some h1
  · refine qP_bnd (m0 := _) (Fg_w h1 rfl) (fun M2 h2 => ?_)
    exact qP_some h2
theorem fr_X14_take {N : Nat} {i1 : Int} {M M0 : qm} (h : Fg 2779010141695588690165703640208509788478479631975373536946982016189915111358464 M0 M) : qP (qf_X14_take N i1 M) (fun r => Fg 2779010141695588690165703640208509788478479631975373536946982016189915111358464 M0 r.2) := by
  unfold qf_X14_take
  refine qP_pure (fun r1 => ?_)
  refine qP_ite ?_ ?_
  · exact (fr_X14_take_J14 h)
  · exact (fr_X14_take_J14 h)
theorem fr_X14_takeNumber_J24 {N : Nat} {i3 t1 t2 : Int} {M M0 : qm} (h : Fg 2779010141695588690165703640208509788478479631975373536946982016189915111358464 M0 M) : qP (qf_X14_takeNumber_J24 N i3 t1 t2 M) (fun r => Fg 2779010141695588690165703640208509788478479631975373536946982016189915111358464 M0 r.2) := by
  unfold qf_X14_takeNumber_J24
  refine qP_bnd (m0 := _) (Fg_w h rfl) (fun M1 h1 => ?_)
  exact qP_some h1
theorem fr_X14_takeNumber {N : Nat} {i1 i2 : Int} {M M0 : qm} (h : Fg 2779010141695588690165703640208509788478479631975373536946982016189915111358464 M0 M) : qP (qf_X14_takeNumber N i1 i2 M) (fun r => Fg 2779010141695588690165703640208509788478479631975373536946982016189915111358464 M0 r.2) := by
  unfold qf_X14_takeNumber
  refine qP_bind (fr_X14_look Fg_refl) (fun r1 k1 => ?_)
  have h1 := Fg_tr h (Fg_mono k1 rfl)
  refine qP_ite ?_ ?_
  · exact (fr_X14_takeNumber_J24 h1)
  · exact (fr_X14_takeNumber_J24 h1)
theorem fr_X14_readZone_J189 {N : Nat} {i1 i2 i3 : Int} {M M0 : qm} (h : Fg 56916906712067351963283776255110488977827741342487625410211138673585651395732701184 M0 M) : qP (qf_X14_readZone_J189 N i1 i2 i3 M) (pU (pU (fun r => Fg 56916906712067351963283776255110488977827741342487625410211138673585651395732701184 M0 r.2) (fun r => Fg 56916906712067351963283776255110488977827741342487625410211138673585651395732701184 M0 r.2)) (fun r => Fg 56916906712067351963283776255110488977827741342487625410211138673585651395732701184 M0 r.2.2.2.2)) := by
  unfold qf_X14_readZone_J189
  refine qP_pure (fun r1 => ?_)
  refine qP_ite ?_ ?_
  · exact qP_some h
  · exact qP_some h
theorem fr_X14_readZone_J145 {N : Nat} {i1 i2 i3 i5 t1 : Int} {M M0 : qm} (h : Fg 56916906712067351963283776255110488977827741342487625410211138673585651395732701184 M0 M) : qP (qf_X14_readZone_J145 N i1 i2 i3 i5 t1 M) (pU (pU (fun r => Fg 56916906712067351963283776255110488977827741342487625410211138673585651395732701184 M0 r.2) (fun r => Fg 56916906712067351963283776255110488977827741342487625410211138673585651395732701184 M0 r.2)) (fun r => Fg 56916906712067351963283776255110488977827741342487625410211138673585651395732701184 M0 r.2.2.2.2)) := by
  unfold qf_X14_readZone_J145
  refine qP_bind (fr_X14_want Fg_refl) (fun r1 k1 => ?_)
  have h1 := Fg_tr h (Fg_mono k1 rfl)
  refine qP_ite ?_ ?_
  · exact (fr_X14_readZone_J189 h1)
  · refine qP_ite ?_ ?_
    · refine qP_ite ?_ ?_
      · refine qP_bnd (m0 := _) (Fg_wa (k := 274) h1 rfl rfl) (fun M2 h2 => ?_)
        refine qP_ite ?_ ?_
        · refine qP_ite ?_ ?_
          · refine qP_bnd (m0 := _) (Fg_wa (k := 273) h2 rfl rfl) (fun M3 h3 => ?_)
            refine qP_bnd (m0 := _) (Fg_w h3 rfl) (fun M4 h4 => ?_)
            exact (fr_X14_readZone_J189 h4)
          · exact qP_none
        · exact qP_none
      · exact qP_none
    · exact qP_none
theorem fr_X14_readZone_J144 {N : Nat} {i1 i2 i3 i5 : Int} {M M0 : qm} (h : Fg 56916906712067351963283776255110488977827741342487625410211138673585651395732701184 M0 M) : qP (qf_X14_readZone_J144 N i1 i2 i3 i5 M) (pU (pU (fun r => Fg 56916906712067351963283776255110488977827741342487625410211138673585651395732701184 M0 r.2) (fun r => Fg 56916906712067351963283776255110488977827741342487625410211138673585651395732701184 M0 r.2)) (fun r => Fg 56916906712067351963283776255110488977827741342487625410211138673585651395732701184 M0 r.2.2.2.2)) := by
  unfold qf_X14_readZone_J144
  exact (fr_X14_readZone_J145 h)
theorem fr_X14_readZone_L86_b {N : Nat} {i1 i2 i3 i4 : Int} {M M0 : qm} (h : Fg 56916906712067351963283776255110488977827741342487625410211138673585651395732701184 M0 M) : qP (qf_X14_readZone_L86_b N i1 i2 i3 i4 M) (pU (pU (fun r => Fg 56916906712067351963283776255110488977827741342487625410211138673585651395732701184 M0 r.2) (fun r => Fg 56916906712067351963283776255110488977827741342487625410211138673585651395732701184 M0 r.2)) (fun r => Fg 56916906712067351963283776255110488977827741342487625410211138673585651395732701184 M0 r.2.2.2.2)) := by
  unfold qf_X14_readZone_L86_b
  refine qP_ite ?_ ?_
  · exact qP_some h
  · refine qP_ite ?_ ?_
    · exact qP_some h
    · refine qP_bind (fr_X14_look Fg_refl) (fun r1 k1 => ?_)
      have h1 := Fg_tr h (Fg_mono k1 rfl)
      refine qP_ite ?_ ?_
      · exact (fr_X14_readZone_J189 h1)
      · refine qP_ite ?_ ?_
        · refine qP_ite ?_ ?_
          · exact (fr_X14_readZone_J144 h1)
          · refine qP_pure (fun r2 => ?_)
            refine qP_ite ?_ ?_
            · exact (fr_X14_readZone_J145 h1)
            · exact (fr_X14_readZone_J144 h1)
        · exact qP_none
theorem fr_X14_readZone_L86 (n : Nat) {N : Nat} {i1 i2 i3 i4 : Int} {M M0 : qm} (h : Fg 56916906712067351963283776255110488977827741342487625410211138673585651395732701184 M0 M) : qP (qf_X14_readZone_L86 N n i1 i2 i3 i4 M) (pU (fun r => Fg 56916906712067351963283776255110488977827741342487625410211138673585651395732701184 M0 r.2) (fun r => Fg 56916906712067351963283776255110488977827741342487625410211138673585651395732701184 M0 r.2)) := by
  unfold qf_X14_readZone_L86
  exact qP_loop (I := fun s => Fg 56916906712067351963283776255110488977827741342487625410211138673585651395732701184 M0 s.2.2.2.2) (fun s hs => fr_X14_readZone_L86_b hs) n _ h
theorem fr_X14_readZone_J241 {N : Nat} {i1 i3 t1 : Int} {M M0 : qm} (h : Fg 56916906712067351963283776255110488977827741342487625410211138673585651395732701184 M0 M) : qP (qf_X14_readZone_J241 N i1 i3 t1 M) (fun r => Fg 56916906712067351963283776255110488977827741342487625410211138673585651395732701184 M0 r.2) := by
  unfold qf_X14_readZone_J241
  refine qP_bnd (m0 := _) (Fg_w h rfl) (fun M1 h1 => ?_)
  refine qP_ite ?_ ?_
  · refine qP_bnd (m0 := _) (Fg_wa (k := 272) h1 rfl rfl) (fun M2 h2 => ?_)
    refine qP_ite ?_ ?_
    · refine qP_bnd (m0 := _) (Fg_wa (k := 271) h2 rfl rfl) (fun M3 h3 => ?_)
      exact qP_some h3
    · exact qP_none
  · exact qP_none
theorem fr_X14_readZone_J208 {N : Nat} {i1 i2 i3 : Int} {M M0 : qm} (h : Fg 56916906712067351963283776255110488977827741342487625410211138673585651395732701184 M0 M) : qP (qf_X14_readZone_J208 N i1 i2 i3 M) (fun r => Fg 56916906712067351963283776255110488977827741342487625410211138673585651395732701184 M0 r.2) := by
  unfold qf_X14_readZone_J208
  refine qP_ite ?_ ?_
  · exact qP_some h
  · refine qP_bnd (m0 := _) (Fg_w h rfl) (fun M1 h1 => ?_)
    refine qP_ite ?_ ?_
    · refine qP_ite ?_ ?_
      · exact (fr_X14_readZone_J241 h1)
      · exact (fr_X14_readZone_J241 h1)
    · exact qP_none
theorem fr_X14_readZone_J33 {N : Nat} {i1 t1 : Int} {M M0 : qm} (h : Fg 56916906712067351963283776255110488977827741342487625410211138673585651395732701184 M0 M) : qP (qf_X14_readZone_J33 N i1 t1 M) (fun r => Fg 56916906712067351963283776255110488977827741342487625410211138673585651395732701184 M0 r.2) := by
  unfold qf_X14_readZone_J33
  refine qP_bind (fr_X14_want Fg_refl) (fun r1 k1 => ?_)
  have h1 := Fg_tr h (Fg_mono k1 rfl)
  refine qP_ite ?_ ?_
  · exact qP_some h1
  · refine qP_bnd (m0 := _) (Fg_w h1 rfl) (fun M2 h2 => ?_)
    refine qP_bind (fr_X14_take Fg_refl) (fun r3 k3 => ?_)
    have h3 := Fg_tr h2 (Fg_mono k3 rfl)
    refine qP_bind (fr_X14_takeNumber Fg_refl) (fun r4 k4 => ?_)
    have h4 := Fg_tr h3 (Fg_mono k4 rfl)
    refine qP_bind (fr_X14_take Fg_refl) (fun r5 k5 => ?_)
    have h5 := Fg_tr h4 (Fg_mono k5 rfl)
    refine qP_ite ?_ ?_
    · refine qP_bnd (m0 := _) (Fg_wa (k := 273) h5 rfl rfl) (fun M6 h6 => ?_)
      refine qP_bind (fr_X14_readZone_L86 _ h6) (fun r7 k7 => ?_)
      rcases r7 with x7 | x7
      · exact qP_some k7
      · obtain ⟨y7_0, y7_1⟩ := x7
        have h7 : Fg _ _ y7_1 := k7
        exact (fr_X14_readZone_J208 h7)
    · exact qP_none
theorem fr_X14_readZone {N : Nat} {M M0 : qm} (h : Fg 56916906712067351963283776255110488977827741342487625410211138673585651395732701184 M0 M) : qP (qf_X14_readZone N M) (fun r => Fg 56916906712067351963283776255110488977827741342487625410211138673585651395732701184 M0 r.2) := by
  unfold qf_X14_readZone
  refine qP_bind (fr_X14_look Fg_refl) (fun r1 k1 => ?_)
  have h1 := Fg_tr h (Fg_mono k1 rfl)
  refine qP_ite ?_ ?_
  · exact qP_some h1
  · refine qP_ite ?_ ?_
    · refine qP_ite ?_ ?_
      · exact (fr_X14_readZone_J33 h1)
      · exact (fr_X14_readZone_J33 h1)
    · exact qP_none
theorem fr_X14_takeStop {N : Nat} {M M0 : qm} (h : Fg 2779010141695588690165703640208509788478479631975373536946982016189915111358464 M0 M) : qP (qf_X14_takeStop N M) (fun r => Fg 2779010141695588690165703640208509788478479631975373536946982016189915111358464 M0 r.2) := by
  unfold qf_X14_takeStop
  refine qP_pure (fun r1 => ?_)
  refine qP_bind (fr_X14_want Fg_refl) (fun r2 k2 => ?_)
  have h2 := Fg_tr h (Fg_mono k2 rfl)
  refine qP_ite ?_ ?_
  · exact qP_some h2
  · refine qP_bnd (m0 := _) (Fg_w h2 rfl) (fun M3 h3 => ?_)
    exact qP_some h3
theorem fr_X14_readAct_J33 {N : Nat} {i1 t1 : Int} {M M0 : qm} (h : Fg 1881963268353816733041918887938924149319620103811392136586230218916579716207657091072 M0 M) : qP (qf_X14_readAct_J33 N i1 t1 M) (fun r => Fg 1881963268353816733041918887938924149319620103811392136586230218916579716207657091072 M0 r.2) := by
  unfold qf_X14_readAct_J33
  refine qP_bind (fr_X14_want Fg_refl) (fun r1 k1 => ?_)
  have h1 := Fg_tr h (Fg_mono k1 rfl)
  refine qP_ite ?_ ?_
  · exact qP_some h1
  · refine qP_bnd (m0 := _) (Fg_w h1 rfl) (fun M2 h2 => ?_)
    refine qP_bind (fr_X14_take Fg_refl) (fun r3 k3 => ?_)
    have h3 := Fg_tr h2 (Fg_mono k3 rfl)
    refine qP_bind (fr_X14_takeNumber Fg_refl) (fun r4 k4 => ?_)
    have h4 := Fg_tr h3 (Fg_mono k4 rfl)
    refine qP_ite ?_ ?_
    · refine qP_bnd (m0 := _) (Fg_wa (k := 276) h4 rfl rfl) (fun M5 h5 => ?_)
      refine qP_bind (fr_X14_take Fg_refl) (fun r6 k6 => ?_)
      have h6 := Fg_tr h5 (Fg_mono k6 rfl)
      refine qP_bind (fr_X14_takeNumber Fg_refl) (fun r7 k7 => ?_)
      have h7 := Fg_tr h6 (Fg_mono k7 rfl)
      refine qP_ite ?_ ?_
      · refine qP_bnd (m0 := _) (Fg_wa (k := 277) h7 rfl rfl) (fun M8 h8 => ?_)
        refine qP_bind (fr_X14_take Fg_refl) (fun r9 k9 => ?_)
        have h9 := Fg_tr h8 (Fg_mono k9 rfl)
        refine qP_bind (fr_X14_takeNumber Fg_refl) (fun r10 k10 => ?_)
        have h10 := Fg_tr h9 (Fg_mono k10 rfl)
        refine qP_ite ?_ ?_
        · refine qP_bnd (m0 := _) (Fg_wa (k := 278) h10 rfl rfl) (fun M11 h11 => ?_)
          refine qP_bind (fr_X14_takeStop Fg_refl) (fun r12 k12 => ?_)
          have h12 := Fg_tr h11 (Fg_mono k12 rfl)
          refine qP_ite ?_ ?_
          · refine qP_bnd (m0 := _) (Fg_wa (k := 275) h12 rfl rfl) (fun M13 h13 => ?_)
            refine qP_ite ?_ ?_
            · refine qP_bnd (m0 := _) (Fg_wa (k := 279) h13 rfl rfl) (fun M14 h14 => ?_)
              exact qP_some h14
            · exact qP_none
          · exact qP_none
        · exact qP_none
      · exact qP_none
    · exact qP_none
theorem fr_X14_readAct {N : Nat} {M M0 : qm} (h : Fg 1881963268353816733041918887938924149319620103811392136586230218916579716207657091072 M0 M) : qP (qf_X14_readAct N M) (fun r => Fg 1881963268353816733041918887938924149319620103811392136586230218916579716207657091072 M0 r.2) := by
  unfold qf_X14_readAct
  refine qP_bind (fr_X14_look Fg_refl) (fun r1 k1 => ?_)
  have h1 := Fg_tr h (Fg_mono k1 rfl)
  refine qP_ite ?_ ?_
  · exact qP_some h1
  · refine qP_ite ?_ ?_
    · refine qP_ite ?_ ?_
      · exact (fr_X14_readAct_J33 h1)
      · exact (fr_X14_readAct_J33 h1)
    · exact qP_none
theorem fr_X14_takeZone_J38 {N : Nat} {i2 t1 : Int} {M M0 : qm} (h : Fg 2779010141695588690165703640208509788478479631975373536946982016189915111358464 M0 M) : qP (qf_X14_takeZone_J38 N i2 t1 M) (fun r => Fg 2779010141695588690165703640208509788478479631975373536946982016189915111358464 M0 r.2) := by
  unfold qf_X14_takeZone_J38
  refine qP_bind (fr_X14_want Fg_refl) (fun r1 k1 => ?_)
  have h1 := Fg_tr h (Fg_mono k1 rfl)
  refine qP_ite ?_ ?_
  · exact qP_some h1
  · refine qP_bnd (m0 := _) (Fg_w h1 rfl) (fun M2 h2 => ?_)
    exact qP_some h2
theorem fr_X14_takeZone_J37 {N : Nat} {i2 : Int} {M M0 : qm} (h : Fg 2779010141695588690165703640208509788478479631975373536946982016189915111358464 M0 M) : qP (qf_X14_takeZone_J37 N i2 M) (fun r => Fg 2779010141695588690165703640208509788478479631975373536946982016189915111358464 M0 r.2) := by
  unfold qf_X14_takeZone_J37
  exact (fr_X14_takeZone_J38 h)
theorem fr_X14_takeZone {N : Nat} {i1 : Int} {M M0 : qm} (h : Fg 2779010141695588690165703640208509788478479631975373536946982016189915111358464 M0 M) : qP (qf_X14_takeZone N i1 M) (fun r => Fg 2779010141695588690165703640208509788478479631975373536946982016189915111358464 M0 r.2) := by
  unfold qf_X14_takeZone
  refine qP_bind (fr_X14_look Fg_refl) (fun r1 k1 => ?_)
  have h1 := Fg_tr h (Fg_mono k1 rfl)
  refine qP_ite ?_ ?_
  · exact qP_some h1
  · refine qP_ite ?_ ?_
    · refine qP_ite ?_ ?_
      · exact (fr_X14_takeZone_J37 h1)
      · refine qP_ite ?_ ?_
        · exact (fr_X14_takeZone_J37 h1)
        · exact (fr_X14_takeZone_J38 h1)
    · exact qP_none
theorem fr_X14_readRow_J98 {N : Nat} {i1 i2 i3 : Int} {M M0 : qm} (h : Fg 13598692435283956380261430622011313111032738961123627225132322340439722692791867801600 M0 M) : qP (qf_X14_readRow_J98 N i1 i2 i3 M) (fun r => Fg 13598692435283956380261430622011313111032738961123627225132322340439722692791867801600 M0 r.2) := by
  unfold qf_X14_readRow_J98
  refine qP_bind (fr_X14_takeStop Fg_refl) (fun r1 k1 => ?_)
  have h1 := Fg_tr h (Fg_mono k1 rfl)
  refine qP_ite ?_ ?_
  · exact qP_some h1
  · refine qP_ite ?_ ?_
    · refine qP_bnd (m0 := _) (Fg_wa (k := 280) h1 rfl rfl) (fun M2 h2 => ?_)
      refine qP_ite ?_ ?_
      · refine qP_bnd (m0 := _) (Fg_wa (k := 281) h2 rfl rfl) (fun M3 h3 => ?_)
        refine qP_ite ?_ ?_
        · refine qP_bnd (m0 := _) (Fg_wa (k := 282) h3 rfl rfl) (fun M4 h4 => ?_)
          refine qP_bnd (m0 := _) (Fg_w h4 rfl) (fun M5 h5 => ?_)
          exact qP_some h5
        · exact qP_none
      · exact qP_none
    · exact qP_none
theorem fr_X14_readRow_J64 {N : Nat} {i1 i2 t0 : Int} {M M0 : qm} (h : Fg 13598692435283956380261430622011313111032738961123627225132322340439722692791867801600 M0 M) : qP (qf_X14_readRow_J64 N i1 i2 t0 M) (fun r => Fg 13598692435283956380261430622011313111032738961123627225132322340439722692791867801600 M0 r.2) := by
  unfold qf_X14_readRow_J64
  refine qP_ite ?_ ?_
  · exact (fr_X14_readRow_J98 h)
  · refine qP_ite ?_ ?_
    · refine qP_bind (fr_X14_want Fg_refl) (fun r1 k1 => ?_)
      have h1 := Fg_tr h (Fg_mono k1 rfl)
      refine qP_ite ?_ ?_
      · exact (fr_X14_readRow_J98 h1)
      · refine qP_bnd (m0 := _) (Fg_w h1 rfl) (fun M2 h2 => ?_)
        exact (fr_X14_readRow_J98 h2)
    · exact qP_none
theorem fr_X14_readRow_J40 {N : Nat} {i1 i2 : Int} {M M0 : qm} (h : Fg 13598692435283956380261430622011313111032738961123627225132322340439722692791867801600 M0 M) : qP (qf_X14_readRow_J40 N i1 i2 M) (fun r => Fg 13598692435283956380261430622011313111032738961123627225132322340439722692791867801600 M0 r.2) := by
  unfold qf_X14_readRow_J40
  refine qP_bind (fr_X14_take Fg_refl) (fun r1 k1 => ?_)
  have h1 := Fg_tr h (Fg_mono k1 rfl)
  refine qP_ite ?_ ?_
  · exact (fr_X14_readRow_J64 h1)
  · refine qP_bind (fr_X14_look Fg_refl) (fun r2 k2 => ?_)
    have h2 := Fg_tr h1 (Fg_mono k2 rfl)
    exact (fr_X14_readRow_J64 h2)
theorem fr_X14_readRow {N : Nat} {M M0 : qm} (h : Fg 13598692435283956380261430622011313111032738961123627225132322340439722692791867801600 M0 M) : qP (qf_X14_readRow N M) (fun r => Fg 13598692435283956380261430622011313111032738961123627225132322340439722692791867801600 M0 r.2) := by
  unfold qf_X14_readRow
  refine qP_bind (fr_X14_takeZone Fg_refl) (fun r1 k1 => ?_)
  have h1 := Fg_tr h (Fg_mono k1 rfl)
  refine qP_ite ?_ ?_
  · exact (fr_X14_readRow_J40 h1)
  · refine qP_pure (fun r2 => ?_)
    refine qP_ite ?_ ?_
    · exact (fr_X14_readRow_J40 h1)
    · refine qP_bnd (m0 := _) (Fg_w h1 rfl) (fun M3 h3 => ?_)
      refine qP_bind (fr_X14_takeZone Fg_refl) (fun r4 k4 => ?_)
      have h4 := Fg_tr h3 (Fg_mono k4 rfl)
      exact (fr_X14_readRow_J40 h4)
theorem fr_X14_readSentence_J73 {N : Nat} {t1 : Int} {M M0 : qm} (h : Fg 15537567052329557074089252954798067332310609849318243036381689804065855680565034876928 M0 M) : qP (qf_X14_readSentence_J73 N t1 M) (fun r => Fg 15537567052329557074089252954798067332310609849318243036381689804065855680565034876928 M0 r.2) := by
  unfold qf_X14_readSentence_J73
  refine qP_bind (fr_X14_want Fg_refl) (fun r1 k1 => ?_)
  have h1 := Fg_tr h (Fg_mono k1 rfl)
  refine qP_ite ?_ ?_
  · exact qP_some h1
  · refine qP_bnd (m0 := _) (Fg_w h1 rfl) (fun M2 h2 => ?_)
    refine qP_bind (fr_X14_readRow Fg_refl) (fun r3 k3 => ?_)
    have h3 := Fg_tr h2 (Fg_mono k3 rfl)
    exact qP_some h3
theorem fr_X14_readHold_J61 {N : Nat} {i1 : Int} {M M0 : qm} (h : Fg 971337225123006231048421119115399661830991898005701735999443151851468332517715607552 M0 M) : qP (qf_X14_readHold_J61 N i1 M) (fun r => Fg 971337225123006231048421119115399661830991898005701735999443151851468332517715607552 M0 r.2) := by
  unfold qf_X14_readHold_J61
  refine qP_bind (fr_X14_takeStop Fg_refl) (fun r1 k1 => ?_)
  have h1 := Fg_tr h (Fg_mono k1 rfl)
  refine qP_ite ?_ ?_
  · exact qP_some h1
  · refine qP_ite ?_ ?_
    · refine qP_bnd (m0 := _) (Fg_wa (k := 279) h1 rfl rfl) (fun M2 h2 => ?_)
      exact qP_some h2
    · exact qP_none
theorem fr_X14_readHold_J45 {N : Nat} {i1 t1 : Int} {M M0 : qm} (h : Fg 971337225123006231048421119115399661830991898005701735999443151851468332517715607552 M0 M) : qP (qf_X14_readHold_J45 N i1 t1 M) (fun r => Fg 971337225123006231048421119115399661830991898005701735999443151851468332517715607552 M0 r.2) := by
  unfold qf_X14_readHold_J45
  refine qP_bind (fr_X14_want Fg_refl) (fun r1 k1 => ?_)
  have h1 := Fg_tr h (Fg_mono k1 rfl)
  refine qP_ite ?_ ?_
  · exact (fr_X14_readHold_J61 h1)
  · refine qP_bnd (m0 := _) (Fg_w h1 rfl) (fun M2 h2 => ?_)
    exact (fr_X14_readHold_J61 h2)
theorem fr_X14_readHold_J44 {N : Nat} {i1 : Int} {M M0 : qm} (h : Fg 971337225123006231048421119115399661830991898005701735999443151851468332517715607552 M0 M) : qP (qf_X14_readHold_J44 N i1 M) (fun r => Fg 971337225123006231048421119115399661830991898005701735999443151851468332517715607552 M0 r.2) := by
  unfold qf_X14_readHold_J44
  exact (fr_X14_readHold_J45 h)
theorem fr_X14_readHold {N : Nat} {M M0 : qm} (h : Fg 971337225123006231048421119115399661830991898005701735999443151851468332517715607552 M0 M) : qP (qf_X14_readHold N M) (fun r => Fg 971337225123006231048421119115399661830991898005701735999443151851468332517715607552 M0 r.2) := by
  unfold qf_X14_readHold
  refine qP_bind (fr_X14_look Fg_refl) (fun r1 k1 => ?_)
  have h1 := Fg_tr h (Fg_mono k1 rfl)
  refine qP_ite ?_ ?_
  · exact (fr_X14_readHold_J61 h1)
  · refine qP_ite ?_ ?_
    · refine qP_ite ?_ ?_
      · exact (fr_X14_readHold_J44 h1)
      · refine qP_ite ?_ ?_
        · refine qP_ite ?_ ?_
          · exact (fr_X14_readHold_J45 h1)
          · exact (fr_X14_readHold_J44 h1)
        · exact qP_none
    · exact qP_none
theorem fr_X14_readSentence {N : Nat} {M M0 : qm} (h : Fg 15537567052329557074089252954798067332310609849318243036381689804065855680565034876928 M0 M) : qP (qf_X14_readSentence N M) (fun r => Fg 15537567052329557074089252954798067332310609849318243036381689804065855680565034876928 M0 r.2) := by
  unfold qf_X14_readSentence
  refine qP_pure (fun r1 => ?_)
  refine qP_ite ?_ ?_
  · refine qP_bnd (m0 := _) (Fg_w h rfl) (fun M2 h2 => ?_)
    refine qP_bind (fr_X14_readZone Fg_refl) (fun r3 k3 => ?_)
    have h3 := Fg_tr h2 (Fg_mono k3 rfl)
    exact qP_some h3
  · refine qP_ite ?_ ?_
    · refine qP_bnd (m0 := _) (Fg_w h rfl) (fun M4 h4 => ?_)
      refine qP_bind (fr_X14_readAct Fg_refl) (fun r5 k5 => ?_)
      have h5 := Fg_tr h4 (Fg_mono k5 rfl)
      exact qP_some h5
    · refine qP_ite ?_ ?_
      · refine qP_ite ?_ ?_
        · exact (fr_X14_readSentence_J73 h)
        · exact (fr_X14_readSentence_J73 h)
      · refine qP_bind (fr_X14_take Fg_refl) (fun r6 k6 => ?_)
        have h6 := Fg_tr h (Fg_mono k6 rfl)
        refine qP_ite ?_ ?_
        · exact qP_some h6
        · refine qP_bind (fr_X14_readHold Fg_refl) (fun r7 k7 => ?_)
          have h7 := Fg_tr h6 (Fg_mono k7 rfl)
          exact qP_some h7
theorem fr_X14_read_L48_b {N : Nat} {M M0 : qm} (h : Fg 248660683994317354410626446702703369956187515216437576332161318102791972663136752762880 M0 M) : qP (qf_X14_read_L48_b N M) (pU (pU (fun r => Fg 248660683994317354410626446702703369956187515216437576332161318102791972663136752762880 M0 r.2) (fun r => Fg 248660683994317354410626446702703369956187515216437576332161318102791972663136752762880 M0 r.2)) (fun r => Fg 248660683994317354410626446702703369956187515216437576332161318102791972663136752762880 M0 r)) := by
  unfold qf_X14_read_L48_b
  refine qP_ite ?_ ?_
  · exact qP_some h
  · refine qP_ite ?_ ?_
    · exact qP_some h
    · refine qP_bind (fr_X14_readSentence Fg_refl) (fun r1 k1 => ?_)
      have h1 := Fg_tr h (Fg_mono k1 rfl)
      exact qP_some h1
theorem fr_X14_read_L48 (n : Nat) {N : Nat} {M M0 : qm} (h : Fg 248660683994317354410626446702703369956187515216437576332161318102791972663136752762880 M0 M) : qP (qf_X14_read_L48 N n M) (pU (fun r => Fg 248660683994317354410626446702703369956187515216437576332161318102791972663136752762880 M0 r.2) (fun r => Fg 248660683994317354410626446702703369956187515216437576332161318102791972663136752762880 M0 r.2)) := by
  unfold qf_X14_read_L48
  exact qP_loop (I := fun s => Fg 248660683994317354410626446702703369956187515216437576332161318102791972663136752762880 M0 s) (fun s hs => fr_X14_read_L48_b hs) n _ h
theorem fr_X14_adopt_L55_b {N : Nat} {i1 i2 : Int} {M M0 : qm} (h : Fg 248657827635060048294717738053645175642876590752455844310727592763109665462054794821632 M0 M) : qP (qf_X14_adopt_L55_b N i1 i2 M) (pU (pU (fun r => Fg 248657827635060048294717738053645175642876590752455844310727592763109665462054794821632 M0 r.2) (fun r => Fg 248657827635060048294717738053645175642876590752455844310727592763109665462054794821632 M0 r.2)) (fun r => Fg 248657827635060048294717738053645175642876590752455844310727592763109665462054794821632 M0 r.2.2)) := by
  unfold qf_X14_adopt_L55_b
  refine qP_ite ?_ ?_
  · exact qP_some h
  · refine qP_ite ?_ ?_
    · refine qP_ite ?_ ?_
      · refine qP_bnd (m0 := _) (Fg_wa (k := 274) h rfl rfl) (fun M1 h1 => ?_)
        exact qP_some h1
      · exact qP_none
    · exact qP_none
theorem fr_X14_adopt_L55 (n : Nat) {N : Nat} {i1 i2 : Int} {M M0 : qm} (h : Fg 248657827635060048294717738053645175642876590752455844310727592763109665462054794821632 M0 M) : qP (qf_X14_adopt_L55 N n i1 i2 M) (pU (fun r => Fg 248657827635060048294717738053645175642876590752455844310727592763109665462054794821632 M0 r.2) (fun r => Fg 248657827635060048294717738053645175642876590752455844310727592763109665462054794821632 M0 r.2)) := by
  unfold qf_X14_adopt_L55
  exact qP_loop (I := fun s => Fg 248657827635060048294717738053645175642876590752455844310727592763109665462054794821632 M0 s.2.2) (fun s hs => fr_X14_adopt_L55_b hs) n _ h
theorem fr_X14_rests {N : Nat} {i1 : Int} {M M0 : qm} (h : Fg 233120267067087488510335428818822268797088820686256742550217489168668514224625019781120 M0 M) : qP (qf_X14_rests N i1 M) (fun r => Fg 233120267067087488510335428818822268797088820686256742550217489168668514224625019781120 M0 r.2) := by
  unfold qf_X14_rests
  refine qP_ite ?_ ?_
  · refine qP_bnd (m0 := _) (Fg_wa (k := 283) h rfl rfl) (fun M1 h1 => ?_)
    refine qP_ite ?_ ?_
    · refine qP_bnd (m0 := _) (Fg_wa (k := 284) h1 rfl rfl) (fun M2 h2 => ?_)
      refine qP_ite ?_ ?_
      · refine qP_bnd (m0 := _) (Fg_wa (k := 285) h2 rfl rfl) (fun M3 h3 => ?_)
        refine qP_ite ?_ ?_
        · refine qP_bnd (m0 := _) (Fg_wa (k := 286) h3 rfl rfl) (fun M4 h4 => ?_)
          exact qP_some h4
        · exact qP_none
      · exact qP_none
    · exact qP_none
  · exact qP_none
theorem fr_X14_adopt_L2_b {N : Nat} {i1 : Int} {M M0 : qm} (h : Fg 248657827635060048294717738053645175642876590752455844310727592763109665462054794821632 M0 M) : qP (qf_X14_adopt_L2_b N i1 M) (pU (pU (fun r => Fg 248657827635060048294717738053645175642876590752455844310727592763109665462054794821632 M0 r.2) (fun r => Fg 248657827635060048294717738053645175642876590752455844310727592763109665462054794821632 M0 r.2)) (fun r => Fg 248657827635060048294717738053645175642876590752455844310727592763109665462054794821632 M0 r.2)) := by
  unfold qf_X14_adopt_L2_b
  refine qP_ite ?_ ?_
  · exact qP_some h
  · refine qP_ite ?_ ?_
    · refine qP_ite ?_ ?_
      · refine qP_bnd (m0 := _) (Fg_wa (k := 271) h rfl rfl) (fun M1 h1 => ?_)
        refine qP_ite ?_ ?_
        · refine qP_ite ?_ ?_
          · refine qP_bnd (m0 := _) (Fg_wa (k := 272) h1 rfl rfl) (fun M2 h2 => ?_)
            refine qP_ite ?_ ?_
            · refine qP_ite ?_ ?_
              · refine qP_bnd (m0 := _) (Fg_wa (k := 273) h2 rfl rfl) (fun M3 h3 => ?_)
                refine qP_bind (fr_X14_adopt_L55 _ h3) (fun r4 k4 => ?_)
                rcases r4 with x4 | x4
                · exact qP_some k4
                · obtain ⟨y4_0, y4_1⟩ := x4
                  have h4 : Fg _ _ y4_1 := k4
                  refine qP_ite ?_ ?_
                  · refine qP_ite ?_ ?_
                    · refine qP_bnd (m0 := _) (Fg_wa (k := 275) h4 rfl rfl) (fun M5 h5 => ?_)
                      refine qP_ite ?_ ?_
                      · refine qP_ite ?_ ?_
                        · refine qP_bnd (m0 := _) (Fg_wa (k := 276) h5 rfl rfl) (fun M6 h6 => ?_)
                          refine qP_ite ?_ ?_
                          · refine qP_ite ?_ ?_
                            · refine qP_bnd (m0 := _) (Fg_wa (k := 277) h6 rfl rfl) (fun M7 h7 => ?_)
                              refine qP_ite ?_ ?_
                              · refine qP_ite ?_ ?_
                                · refine qP_bnd (m0 := _) (Fg_wa (k := 278) h7 rfl rfl) (fun M8 h8 => ?_)
                                  refine qP_ite ?_ ?_
                                  · refine qP_ite ?_ ?_
                                    · refine qP_bnd (m0 := _) (Fg_wa (k := 279) h8 rfl rfl) (fun M9 h9 => ?_)
                                      refine qP_bind (fr_X14_rests Fg_refl) (fun r10 k10 => ?_)
                                      have h10 := Fg_tr h9 (Fg_mono k10 rfl)
                                      exact qP_some h10
                                    · exact qP_none
                                  · exact qP_none
                                · exact qP_none
                              · exact qP_none
                            · exact qP_none
                          · exact qP_none
                        · exact qP_none
                      · exact qP_none
                    · exact qP_none
                  · exact qP_none
              · exact qP_none
            · exact qP_none
          · exact qP_none
        · exact qP_none
      · exact qP_none
    · exact qP_none
theorem fr_X14_adopt_L2 (n : Nat) {N : Nat} {i1 : Int} {M M0 : qm} (h : Fg 248657827635060048294717738053645175642876590752455844310727592763109665462054794821632 M0 M) : qP (qf_X14_adopt_L2 N n i1 M) (pU (fun r => Fg 248657827635060048294717738053645175642876590752455844310727592763109665462054794821632 M0 r.2) (fun r => Fg 248657827635060048294717738053645175642876590752455844310727592763109665462054794821632 M0 r.2)) := by
  unfold qf_X14_adopt_L2
  exact qP_loop (I := fun s => Fg 248657827635060048294717738053645175642876590752455844310727592763109665462054794821632 M0 s.2) (fun s hs => fr_X14_adopt_L2_b hs) n _ h
theorem fr_X14_adopt_L189_b {N : Nat} {i1 : Int} {M M0 : qm} (h : Fg 248657827635060048294717738053645175642876590752455844310727592763109665462054794821632 M0 M) : qP (qf_X14_adopt_L189_b N i1 M) (pU (pU (fun r => Fg 248657827635060048294717738053645175642876590752455844310727592763109665462054794821632 M0 r.2) (fun r => Fg 248657827635060048294717738053645175642876590752455844310727592763109665462054794821632 M0 r.2)) (fun r => Fg 248657827635060048294717738053645175642876590752455844310727592763109665462054794821632 M0 r.2)) := by
  unfold qf_X14_adopt_L189_b
  refine qP_ite ?_ ?_
  · exact qP_some h
  · refine qP_ite ?_ ?_
    · refine qP_ite ?_ ?_
      · refine qP_bnd (m0 := _) (Fg_wa (k := 280) h rfl rfl) (fun M1 h1 => ?_)
        refine qP_ite ?_ ?_
        · refine qP_ite ?_ ?_
          · refine qP_bnd (m0 := _) (Fg_wa (k := 281) h1 rfl rfl) (fun M2 h2 => ?_)
            refine qP_ite ?_ ?_
            · refine qP_ite ?_ ?_
              · refine qP_bnd (m0 := _) (Fg_wa (k := 282) h2 rfl rfl) (fun M3 h3 => ?_)
                exact qP_some h3
              · exact qP_none
            · exact qP_none
          · exact qP_none
        · exact qP_none
      · exact qP_none
    · exact qP_none
theorem fr_X14_adopt_L189 (n : Nat) {N : Nat} {i1 : Int} {M M0 : qm} (h : Fg 248657827635060048294717738053645175642876590752455844310727592763109665462054794821632 M0 M) : qP (qf_X14_adopt_L189 N n i1 M) (pU (fun r => Fg 248657827635060048294717738053645175642876590752455844310727592763109665462054794821632 M0 r.2) (fun r => Fg 248657827635060048294717738053645175642876590752455844310727592763109665462054794821632 M0 r.2)) := by
  unfold qf_X14_adopt_L189
  exact qP_loop (I := fun s => Fg 248657827635060048294717738053645175642876590752455844310727592763109665462054794821632 M0 s.2) (fun s hs => fr_X14_adopt_L189_b hs) n _ h
theorem fr_X14_adopt {N : Nat} {M M0 : qm} (h : Fg 248657827635060048294717738053645175642876590752455844310727592763109665462054794821632 M0 M) : qP (qf_X14_adopt N M) (fun r => Fg 248657827635060048294717738053645175642876590752455844310727592763109665462054794821632 M0 r.2) := by
  unfold qf_X14_adopt
  refine qP_bind (fr_X14_adopt_L2 _ h) (fun r1 k1 => ?_)
  rcases r1 with x1 | x1
  · exact qP_some k1
  · obtain ⟨y1_0, y1_1⟩ := x1
    have h1 : Fg _ _ y1_1 := k1
    refine qP_bnd (m0 := _) (Fg_w h1 rfl) (fun M2 h2 => ?_)
    refine qP_bind (fr_X14_adopt_L189 _ h2) (fun r3 k3 => ?_)
    rcases r3 with x3 | x3
    · exact qP_some k3
    · obtain ⟨y3_0, y3_1⟩ := x3
      have h3 : Fg _ _ y3_1 := k3
      exact qP_some h3
theorem fr_X14_read_J73 {N : Nat} {M M0 : qm} (h : Fg 248660683994317354410626446702703369956187515216437576332161318102791972663136752762880 M0 M) : qP (qf_X14_read_J73 N M) (fun r => Fg 248660683994317354410626446702703369956187515216437576332161318102791972663136752762880 M0 r.2) := by
  unfold qf_X14_read_J73
  refine qP_ite ?_ ?_
  · refine qP_bind (fr_X14_adopt Fg_refl) (fun r1 k1 => ?_)
    have h1 := Fg_tr h (Fg_mono k1 rfl)
    exact qP_some h1
  · exact qP_some h
theorem fr_X14_read {N : Nat} {M M0 : qm} (h : Fg 248660683994317354410626446702703369956187515216437576332161318102791972663136752762880 M0 M) : qP (qf_X14_read N M) (fun r => Fg 248660683994317354410626446702703369956187515216437576332161318102791972663136752762880 M0 r.2) := by
  unfold qf_X14_read
  refine qP_bind (fr_X14_list Fg_refl) (fun r1 k1 => ?_)
  have h1 := Fg_tr h (Fg_mono k1 rfl)
  refine qP_bnd (m0 := _) (Fg_w h1 rfl) (fun M2 h2 => ?_)
  refine qP_bnd (m0 := _) (Fg_w h2 rfl) (fun M3 h3 => ?_)
  refine qP_bnd (m0 := _) (Fg_w h3 rfl) (fun M4 h4 => ?_)
  refine qP_bind (fr_X14_read_L22 _ h4) (fun r5 k5 => ?_)
  rcases r5 with x5 | x5
  · exact qP_some k5
  · obtain ⟨y5_0, y5_1⟩ := x5
    have h5 : Fg _ _ y5_1 := k5
    refine qP_bind (fr_X14_read_L48 _ h5) (fun r6 k6 => ?_)
    rcases r6 with x6 | x6
    · exact qP_some k6
    · obtain ⟨y6_0, y6_1⟩ := x6
      have h6 : Fg _ _ y6_1 := k6
      exact (fr_X14_read_J73 h6)
theorem fr_X18_matrix {N : Nat} {M M0 : qm} (h : Fg 248660683994317354410626446702703369957649016853768479250365002935508255682792685305856 M0 M) : qP (qf_X18_matrix N M) (fun r => Fg 248660683994317354410626446702703369957649016853768479250365002935508255682792685305856 M0 r.2) := by
  unfold qf_X18_matrix
  refine qP_bind (fr_X18_stays Fg_refl) (fun r1 k1 => ?_)
  have h1 := Fg_tr h (Fg_mono k1 rfl)
  refine qP_ite ?_ ?_
  · exact qP_some h1
  · refine qP_bind (fr_X14_read Fg_refl) (fun r2 k2 => ?_)
    have h2 := Fg_tr h1 (Fg_mono k2 rfl)
    exact qP_some h2
theorem fr_X11_signal_J32 {N : Nat} {i1 i2 t0 : Int} {M M0 : qm} (h : Fg 1361129467683753853853498429727072845824 M0 M) : qP (qf_X11_signal_J32 N i1 i2 t0 M) (fun r => Fg 1361129467683753853853498429727072845824 M0 r.2) := by
  unfold qf_X11_signal_J32
  refine qP_pure (fun r1 => ?_)
  rcases r1 with x2 | x2
  · refine qP_pure (fun r3 => ?_)
    rcases r3 with x4 | x4
    · refine qP_ite ?_ ?_
      · refine qP_ite ?_ ?_
        · refine qP_bnd (m0 := _) (Fg_wa (k := 130) h rfl rfl) (fun M5 h5 => ?_)
          exact qP_some h5
        · exact qP_none
      · exact qP_none
    · exact qP_some h
  · exact qP_some h
theorem fr_X11_signal_J31 {N : Nat} {i1 i2 : Int} {M M0 : qm} (h : Fg 1361129467683753853853498429727072845824 M0 M) : qP (qf_X11_signal_J31 N i1 i2 M) (fun r => Fg 1361129467683753853853498429727072845824 M0 r.2) := by
  unfold qf_X11_signal_J31
  exact (fr_X11_signal_J32 h)
theorem fr_X11_signal {N : Nat} {i1 i2 : Int} {M M0 : qm} (h : Fg 1361129467683753853853498429727072845824 M0 M) : qP (qf_X11_signal N i1 i2 M) (fun r => Fg 1361129467683753853853498429727072845824 M0 r.2) := by
  unfold qf_X11_signal
  refine qP_pure (fun r1 => ?_)
  refine qP_ite ?_ ?_
  · exact (fr_X11_signal_J31 h)
  · refine qP_pure (fun r2 => ?_)
    refine qP_ite ?_ ?_
    · exact (fr_X11_signal_J31 h)
    · exact (fr_X11_signal_J32 h)
theorem fr_L_signal {N : Nat} {i1 i2 : Int} {M M0 : qm} (h : Fg 165263992197562149737978827008192759957101170741070304821162198818601447809077836457658432077612575065751301435982912421888 M0 M) : qP (qf_L_signal N i1 i2 M) (fun r => Fg 165263992197562149737978827008192759957101170741070304821162198818601447809077836457658432077612575065751301435982912421888 M0 r.2) := by
  unfold qf_L_signal
  refine qP_bind (fr_X11_signal Fg_refl) (fun r1 k1 => ?_)
  have h1 := Fg_tr h (Fg_mono k1 rfl)
  obtain ⟨x1, m1⟩ := r1
  rcases x1 with x1 | x1
  · have h1 : Fg _ _ m1 := h1
    refine qP_bnd (m0 := _) (Fg_wa (k := 406) h1 rfl rfl) (fun M2 h2 => ?_)
    exact qP_some h2
  · have h1 : Fg _ _ m1 := h1
    refine qP_ite ?_ ?_
    · exact qP_some h1
    · refine qP_ite ?_ ?_
      · exact qP_some h1
      · exact qP_none
theorem fr_X18_signal_J30 {N : Nat} {i1 i2 t1 : Int} {M M0 : qm} (h : Fg 59285549689505892056868344324449670322511563051726172473034999295071178308190208 M0 M) : qP (qf_X18_signal_J30 N i1 i2 t1 M) (fun r => Fg 59285549689505892056868344324449670322511563051726172473034999295071178308190208 M0 r.2) := by
  unfold qf_X18_signal_J30
  refine qP_bind (fr_X18_goes Fg_refl) (fun r1 k1 => ?_)
  have h1 := Fg_tr h (Fg_mono k1 rfl)
  refine qP_ite ?_ ?_
  · exact qP_some h1
  · refine qP_ite ?_ ?_
    · refine qP_ite ?_ ?_
      · refine qP_bnd (m0 := _) (Fg_wa (k := 265) h1 rfl rfl) (fun M2 h2 => ?_)
        exact qP_some h2
      · exact qP_none
    · exact qP_none
theorem fr_X18_signal_J29 {N : Nat} {i1 i2 : Int} {M M0 : qm} (h : Fg 59285549689505892056868344324449670322511563051726172473034999295071178308190208 M0 M) : qP (qf_X18_signal_J29 N i1 i2 M) (fun r => Fg 59285549689505892056868344324449670322511563051726172473034999295071178308190208 M0 r.2) := by
  unfold qf_X18_signal_J29
  exact (fr_X18_signal_J30 h)
theorem fr_X18_signal {N : Nat} {i1 i2 : Int} {M M0 : qm} (h : Fg 59285549689505892056868344324449670322511563051726172473034999295071178308190208 M0 M) : qP (qf_X18_signal N i1 i2 M) (fun r => Fg 59285549689505892056868344324449670322511563051726172473034999295071178308190208 M0 r.2) := by
  unfold qf_X18_signal
  refine qP_pure (fun r1 => ?_)
  refine qP_ite ?_ ?_
  · exact (fr_X18_signal_J29 h)
  · refine qP_ite ?_ ?_
    · exact (fr_X18_signal_J29 h)
    · refine qP_ite ?_ ?_
      · exact (fr_X18_signal_J29 h)
      · exact (fr_X18_signal_J30 h)
theorem fr_X18_fault {N : Nat} {i1 i2 : Int} {M M0 : qm} (h : Fg 118571099379011784113736688648897879143385795200534141261237282307122700683837440 M0 M) : qP (qf_X18_fault N i1 i2 M) (fun r => Fg 118571099379011784113736688648897879143385795200534141261237282307122700683837440 M0 r.2) := by
  unfold qf_X18_fault
  refine qP_pure (fun r1 => ?_)
  refine qP_bind (fr_X18_goes Fg_refl) (fun r2 k2 => ?_)
  have h2 := Fg_tr h (Fg_mono k2 rfl)
  refine qP_ite ?_ ?_
  · exact qP_some h2
  · refine qP_ite ?_ ?_
    · refine qP_ite ?_ ?_
      · refine qP_bnd (m0 := _) (Fg_wa (k := 266) h2 rfl rfl) (fun M3 h3 => ?_)
        refine qP_ite ?_ ?_
        · exact qP_some h3
        · exact qP_none
      · exact qP_none
    · exact qP_none
theorem fr_X11_fault {N : Nat} {i1 i2 : Int} {M M0 : qm} (h : Fg 2722258935367507707706996859454145691648 M0 M) : qP (qf_X11_fault N i1 i2 M) (fun r => Fg 2722258935367507707706996859454145691648 M0 r.2) := by
  unfold qf_X11_fault
  refine qP_pure (fun r1 => ?_)
  refine qP_pure (fun r2 => ?_)
  rcases r2 with x3 | x3
  · refine qP_pure (fun r4 => ?_)
    rcases r4 with x5 | x5
    · refine qP_ite ?_ ?_
      · refine qP_ite ?_ ?_
        · refine qP_bnd (m0 := _) (Fg_wa (k := 131) h rfl rfl) (fun M6 h6 => ?_)
          refine qP_ite ?_ ?_
          · exact qP_some h6
          · exact qP_none
        · exact qP_none
      · exact qP_none
    · exact qP_some h
  · exact qP_some h
theorem fr_L_fault_J16 {N : Nat} {t1 t2 : Int} {M M0 : qm} (h : Fg 165263992197562149737978827008192759957101170741070304821162198818601447809077836459019561545296328919604799865709985267712 M0 M) : qP (qf_L_fault_J16 N t1 t2 M) (fun r => Fg 165263992197562149737978827008192759957101170741070304821162198818601447809077836459019561545296328919604799865709985267712 M0 r.2) := by
  unfold qf_L_fault_J16
  refine qP_ite ?_ ?_
  · refine qP_bnd (m0 := _) (Fg_wa (k := 406) h rfl rfl) (fun M1 h1 => ?_)
    exact qP_some h1
  · exact qP_none
theorem fr_L_fault {N : Nat} {i1 i2 : Int} {M M0 : qm} (h : Fg 165263992197562149737978827008192759957101170741070304821162198818601447809077836459019561545296328919604799865709985267712 M0 M) : qP (qf_L_fault N i1 i2 M) (fun r => Fg 165263992197562149737978827008192759957101170741070304821162198818601447809077836459019561545296328919604799865709985267712 M0 r.2) := by
  unfold qf_L_fault
  refine qP_bind (fr_X11_fault Fg_refl) (fun r1 k1 => ?_)
  have h1 := Fg_tr h (Fg_mono k1 rfl)
  obtain ⟨x1, m1⟩ := r1
  rcases x1 with x1 | x1
  · have h1 : Fg _ _ m1 := h1
    refine qP_ite ?_ ?_
    · exact (fr_L_fault_J16 h1)
    · exact (fr_L_fault_J16 h1)
  · have h1 : Fg _ _ m1 := h1
    refine qP_ite ?_ ?_
    · exact qP_some h1
    · refine qP_ite ?_ ?_
      · exact qP_some h1
      · exact qP_none
theorem fr_X11_disable_J32 {N : Nat} {i1 i2 t0 : Int} {M M0 : qm} (h : Fg 5444517870735015415413993718908291383296 M0 M) : qP (qf_X11_disable_J32 N i1 i2 t0 M) (fun r => Fg 5444517870735015415413993718908291383296 M0 r.2) := by
  unfold qf_X11_disable_J32
  refine qP_pure (fun r1 => ?_)
  rcases r1 with x2 | x2
  · refine qP_pure (fun r3 => ?_)
    rcases r3 with x4 | x4
    · refine qP_ite ?_ ?_
      · refine qP_ite ?_ ?_
        · refine qP_bnd (m0 := _) (Fg_wa (k := 132) h rfl rfl) (fun M5 h5 => ?_)
          exact qP_some h5
        · exact qP_none
      · exact qP_none
    · exact qP_some h
  · exact qP_some h
theorem fr_X11_disable_J31 {N : Nat} {i1 i2 : Int} {M M0 : qm} (h : Fg 5444517870735015415413993718908291383296 M0 M) : qP (qf_X11_disable_J31 N i1 i2 M) (fun r => Fg 5444517870735015415413993718908291383296 M0 r.2) := by
  unfold qf_X11_disable_J31
  exact (fr_X11_disable_J32 h)
theorem fr_X11_disable {N : Nat} {i1 i2 : Int} {M M0 : qm} (h : Fg 5444517870735015415413993718908291383296 M0 M) : qP (qf_X11_disable N i1 i2 M) (fun r => Fg 5444517870735015415413993718908291383296 M0 r.2) := by
  unfold qf_X11_disable
  refine qP_pure (fun r1 => ?_)
  refine qP_ite ?_ ?_
  · exact (fr_X11_disable_J31 h)
  · refine qP_pure (fun r2 => ?_)
    refine qP_ite ?_ ?_
    · exact (fr_X11_disable_J31 h)
    · exact (fr_X11_disable_J32 h)
theorem fr_L_disable {N : Nat} {i1 i2 : Int} {M M0 : qm} (h : Fg 165263992197562149737978827008192759957101170741070304821162198818601447809077836461741820480663836627311796725164130959360 M0 M) : qP (qf_L_disable N i1 i2 M) (fun r => Fg 165263992197562149737978827008192759957101170741070304821162198818601447809077836461741820480663836627311796725164130959360 M0 r.2) := by
  unfold qf_L_disable
  refine qP_bind (fr_X11_disable Fg_refl) (fun r1 k1 => ?_)
  have h1 := Fg_tr h (Fg_mono k1 rfl)
  obtain ⟨x1, m1⟩ := r1
  rcases x1 with x1 | x1
  · have h1 : Fg _ _ m1 := h1
    refine qP_bnd (m0 := _) (Fg_wa (k := 406) h1 rfl rfl) (fun M2 h2 => ?_)
    exact qP_some h2
  · have h1 : Fg _ _ m1 := h1
    refine qP_ite ?_ ?_
    · exact qP_some h1
    · refine qP_ite ?_ ?_
      · exact qP_some h1
      · exact qP_none
theorem fr_X18_disable_J31 {N : Nat} {i1 i2 t1 : Int} {M M0 : qm} (h : Fg 237142198758023568227473377297794296785134259498150078837641848331225745435131904 M0 M) : qP (qf_X18_disable_J31 N i1 i2 t1 M) (fun r => Fg 237142198758023568227473377297794296785134259498150078837641848331225745435131904 M0 r.2) := by
  unfold qf_X18_disable_J31
  refine qP_bind (fr_X18_goes Fg_refl) (fun r1 k1 => ?_)
  have h1 := Fg_tr h (Fg_mono k1 rfl)
  refine qP_ite ?_ ?_
  · exact qP_some h1
  · refine qP_ite ?_ ?_
    · refine qP_ite ?_ ?_
      · refine qP_bnd (m0 := _) (Fg_wa (k := 267) h1 rfl rfl) (fun M2 h2 => ?_)
        exact qP_some h2
      · exact qP_none
    · exact qP_none
theorem fr_X18_disable_J30 {N : Nat} {i1 i2 : Int} {M M0 : qm} (h : Fg 237142198758023568227473377297794296785134259498150078837641848331225745435131904 M0 M) : qP (qf_X18_disable_J30 N i1 i2 M) (fun r => Fg 237142198758023568227473377297794296785134259498150078837641848331225745435131904 M0 r.2) := by
  unfold qf_X18_disable_J30
  exact (fr_X18_disable_J31 h)
theorem fr_X18_disable {N : Nat} {i1 i2 : Int} {M M0 : qm} (h : Fg 237142198758023568227473377297794296785134259498150078837641848331225745435131904 M0 M) : qP (qf_X18_disable N i1 i2 M) (fun r => Fg 237142198758023568227473377297794296785134259498150078837641848331225745435131904 M0 r.2) := by
  unfold qf_X18_disable
  refine qP_pure (fun r1 => ?_)
  refine qP_ite ?_ ?_
  · exact (fr_X18_disable_J30 h)
  · refine qP_ite ?_ ?_
    · exact (fr_X18_disable_J30 h)
    · refine qP_ite ?_ ?_
      · exact (fr_X18_disable_J30 h)
      · exact (fr_X18_disable_J31 h)
theorem fr_X4_lookAtActs_L4_b {N : Nat} {i1 i2 i3 : Int} {M M0 : qm} (h : Fg 1045347431181122959759486794030391945592832 M0 M) : qP (qf_X4_lookAtActs_L4_b N i1 i2 i3 M) (pU (pU (fun r => Fg 1045347431181122959759486794030391945592832 M0 r.2) (fun r => Fg 1045347431181122959759486794030391945592832 M0 r.2)) (fun r => Fg 1045347431181122959759486794030391945592832 M0 r.2.2.2)) := by
  unfold qf_X4_lookAtActs_L4_b
  refine qP_ite ?_ ?_
  · exact qP_some h
  · refine qP_ite ?_ ?_
    · refine qP_ite ?_ ?_
      · refine qP_ite ?_ ?_
        · refine qP_ite ?_ ?_
          · refine qP_ite ?_ ?_
            · refine qP_bnd (m0 := _) (Fg_wa (k := 139) h rfl rfl) (fun M1 h1 => ?_)
              refine qP_ite ?_ ?_
              · refine qP_bnd (m0 := _) (Fg_wa (k := 138) h1 rfl rfl) (fun M2 h2 => ?_)
                exact qP_some h2
              · exact qP_none
            · exact qP_none
          · exact qP_some h
        · exact qP_none
      · exact qP_some h
    · exact qP_none
theorem fr_X4_lookAtActs_L4 (n : Nat) {N : Nat} {i1 i2 i3 : Int} {M M0 : qm} (h : Fg 1045347431181122959759486794030391945592832 M0 M) : qP (qf_X4_lookAtActs_L4 N n i1 i2 i3 M) (pU (fun r => Fg 1045347431181122959759486794030391945592832 M0 r.2) (fun r => Fg 1045347431181122959759486794030391945592832 M0 r.2)) := by
  unfold qf_X4_lookAtActs_L4
  exact qP_loop (I := fun s => Fg 1045347431181122959759486794030391945592832 M0 s.2.2.2) (fun s hs => fr_X4_lookAtActs_L4_b hs) n _ h
theorem fr_X4_lookAtActs {N : Nat} {i1 : Int} {M M0 : qm} (h : Fg 1045347431181122959759486794030391945592832 M0 M) : qP (qf_X4_lookAtActs N i1 M) (fun r => Fg 1045347431181122959759486794030391945592832 M0 r.2) := by
  unfold qf_X4_lookAtActs
  refine qP_bind (fr_X4_lookAtActs_L4 _ h) (fun r1 k1 => ?_)
  rcases r1 with x1 | x1
  · exact qP_some k1
  · obtain ⟨y1_0, y1_1⟩ := x1
    have h1 : Fg _ _ y1_1 := k1
    exact qP_some h1
theorem fr_X4_confirmActs_L4_b {N : Nat} {i1 i2 : Int} {M M0 : qm} (h : Fg 1393796574908163946345982392040522594123776 M0 M) : qP (qf_X4_confirmActs_L4_b N i1 i2 M) (pU (pU (fun r => Fg 1393796574908163946345982392040522594123776 M0 r.2) (fun r => Fg 1393796574908163946345982392040522594123776 M0 r.2)) (fun r => Fg 1393796574908163946345982392040522594123776 M0 r.2.2)) := by
  unfold qf_X4_confirmActs_L4_b
  refine qP_ite ?_ ?_
  · exact qP_some h
  · refine qP_ite ?_ ?_
    · refine qP_ite ?_ ?_
      · refine qP_ite ?_ ?_
        · refine qP_ite ?_ ?_
          · refine qP_ite ?_ ?_
            · refine qP_bnd (m0 := _) (Fg_wa (k := 140) h rfl rfl) (fun M1 h1 => ?_)
              exact qP_some h1
            · exact qP_none
          · exact qP_some h
        · exact qP_none
      · exact qP_some h
    · exact qP_none
theorem fr_X4_confirmActs_L4 (n : Nat) {N : Nat} {i1 i2 : Int} {M M0 : qm} (h : Fg 1393796574908163946345982392040522594123776 M0 M) : qP (qf_X4_confirmActs_L4 N n i1 i2 M) (pU (fun r => Fg 1393796574908163946345982392040522594123776 M0 r.2) (fun r => Fg 1393796574908163946345982392040522594123776 M0 r.2)) := by
  unfold qf_X4_confirmActs_L4
  exact qP_loop (I := fun s => Fg 1393796574908163946345982392040522594123776 M0 s.2.2) (fun s hs => fr_X4_confirmActs_L4_b hs) n _ h
theorem fr_X4_confirmActs {N : Nat} {M M0 : qm} (h : Fg 1393796574908163946345982392040522594123776 M0 M) : qP (qf_X4_confirmActs N M) (fun r => Fg 1393796574908163946345982392040522594123776 M0 r.2) := by
  unfold qf_X4_confirmActs
  refine qP_bind (fr_X4_confirmActs_L4 _ h) (fun r1 k1 => ?_)
  rcases r1 with x1 | x1
  · exact qP_some k1
  · obtain ⟨y1_0, y1_1⟩ := x1
    have h1 : Fg _ _ y1_1 := k1
    exact qP_some h1
theorem fr_X11_attend {N : Nat} {i1 : Int} {M M0 : qm} (h : Fg 2439144006089286906105469186070914539716608 M0 M) : qP (qf_X11_attend N i1 M) (fun r => Fg 2439144006089286906105469186070914539716608 M0 r.2) := by
  unfold qf_X11_attend
  refine qP_pure (fun r1 => ?_)
  refine qP_pure (fun r2 => ?_)
  rcases r2 with x3 | x3
  · refine qP_pure (fun r4 => ?_)
    rcases r4 with x5 | x5
    · refine qP_ite ?_ ?_
      · refine qP_bind (fr_X4_lookAtActs Fg_refl) (fun r6 k6 => ?_)
        have h6 := Fg_tr h (Fg_mono k6 rfl)
        exact qP_some h6
      · refine qP_bind (fr_X4_confirmActs Fg_refl) (fun r7 k7 => ?_)
        have h7 := Fg_tr h (Fg_mono k7 rfl)
        exact qP_some h7
    · exact qP_some h
  · exact qP_some h
theorem fr_L_attend {N : Nat} {i1 : Int} {M M0 : qm} (h : Fg 165263992197562149737978827008192759957101170741070304821162198818601447809077838895441308699215727317366989077170379292672 M0 M) : qP (qf_L_attend N i1 M) (fun r => Fg 165263992197562149737978827008192759957101170741070304821162198818601447809077838895441308699215727317366989077170379292672 M0 r.2) := by
  unfold qf_L_attend
  refine qP_bind (fr_X11_attend Fg_refl) (fun r1 k1 => ?_)
  have h1 := Fg_tr h (Fg_mono k1 rfl)
  obtain ⟨x1, m1⟩ := r1
  rcases x1 with x1 | x1
  · have h1 : Fg _ _ m1 := h1
    refine qP_bnd (m0 := _) (Fg_wa (k := 406) h1 rfl rfl) (fun M2 h2 => ?_)
    exact qP_some h2
  · have h1 : Fg _ _ m1 := h1
    refine qP_ite ?_ ?_
    · exact qP_some h1
    · refine qP_ite ?_ ?_
      · exact qP_some h1
      · exact qP_none
theorem fr_X14_attend_J113 {N : Nat} {i1 i3 t0 t1 : Int} {M M0 : qm} (h : Fg 217578915929281655942979733564234117543949565973839626380202989890757279942983351795712 M0 M) : qP (qf_X14_attend_J113 N i1 i3 t0 t1 M) (pU (pU (fun r => Fg 217578915929281655942979733564234117543949565973839626380202989890757279942983351795712 M0 r.2) (fun r => Fg 217578915929281655942979733564234117543949565973839626380202989890757279942983351795712 M0 r.2)) (fun r => Fg 217578915929281655942979733564234117543949565973839626380202989890757279942983351795712 M0 r.2.2.2)) := by
  unfold qf_X14_attend_J113
  exact qP_some h
theorem fr_X14_attend_J102 {N : Nat} {i1 i2 i3 i4 : Int} {M M0 : qm} (h : Fg 217578915929281655942979733564234117543949565973839626380202989890757279942983351795712 M0 M) : qP (qf_X14_attend_J102 N i1 i2 i3 i4 M) (pU (pU (fun r => Fg 217578915929281655942979733564234117543949565973839626380202989890757279942983351795712 M0 r.2) (fun r => Fg 217578915929281655942979733564234117543949565973839626380202989890757279942983351795712 M0 r.2)) (fun r => Fg 217578915929281655942979733564234117543949565973839626380202989890757279942983351795712 M0 r.2.2.2)) := by
  unfold qf_X14_attend_J102
  refine qP_ite ?_ ?_
  · exact (fr_X14_attend_J113 h)
  · exact (fr_X14_attend_J113 h)
theorem fr_X14_attend_J90 {N : Nat} {i1 i2 i3 i4 : Int} {M M0 : qm} (h : Fg 217578915929281655942979733564234117543949565973839626380202989890757279942983351795712 M0 M) : qP (qf_X14_attend_J90 N i1 i2 i3 i4 M) (pU (pU (fun r => Fg 217578915929281655942979733564234117543949565973839626380202989890757279942983351795712 M0 r.2) (fun r => Fg 217578915929281655942979733564234117543949565973839626380202989890757279942983351795712 M0 r.2)) (fun r => Fg 217578915929281655942979733564234117543949565973839626380202989890757279942983351795712 M0 r.2.2.2)) := by
  unfold qf_X14_attend_J90
  refine qP_ite ?_ ?_
  · exact (fr_X14_attend_J102 h)
  · refine qP_ite ?_ ?_
    · refine qP_bnd (m0 := _) (Fg_wa (k := 286) h rfl rfl) (fun M1 h1 => ?_)
      exact (fr_X14_attend_J102 h1)
    · exact qP_none
theorem fr_X14_attend_J59 {N : Nat} {i1 i2 i3 t0 : Int} {M M0 : qm} (h : Fg 217578915929281655942979733564234117543949565973839626380202989890757279942983351795712 M0 M) : qP (qf_X14_attend_J59 N i1 i2 i3 t0 M) (pU (pU (fun r => Fg 217578915929281655942979733564234117543949565973839626380202989890757279942983351795712 M0 r.2) (fun r => Fg 217578915929281655942979733564234117543949565973839626380202989890757279942983351795712 M0 r.2)) (fun r => Fg 217578915929281655942979733564234117543949565973839626380202989890757279942983351795712 M0 r.2.2.2)) := by
  unfold qf_X14_attend_J59
  refine qP_ite ?_ ?_
  · exact (fr_X14_attend_J90 h)
  · refine qP_ite ?_ ?_
    · refine qP_ite ?_ ?_
      · refine qP_bnd (m0 := _) (Fg_wa (k := 284) h rfl rfl) (fun M1 h1 => ?_)
        refine qP_ite ?_ ?_
        · refine qP_bnd (m0 := _) (Fg_wa (k := 285) h1 rfl rfl) (fun M2 h2 => ?_)
          exact (fr_X14_attend_J102 h2)
        · exact qP_none
      · exact qP_none
    · exact (fr_X14_attend_J90 h)
theorem fr_X14_attend_J58 {N : Nat} {i1 i2 i3 : Int} {M M0 : qm} (h : Fg 217578915929281655942979733564234117543949565973839626380202989890757279942983351795712 M0 M) : qP (qf_X14_attend_J58 N i1 i2 i3 M) (pU (pU (fun r => Fg 217578915929281655942979733564234117543949565973839626380202989890757279942983351795712 M0 r.2) (fun r => Fg 217578915929281655942979733564234117543949565973839626380202989890757279942983351795712 M0 r.2)) (fun r => Fg 217578915929281655942979733564234117543949565973839626380202989890757279942983351795712 M0 r.2.2.2)) := by
  unfold qf_X14_attend_J58
  exact (fr_X14_attend_J59 h)
theorem fr_X14_attend_J54 {N : Nat} {i1 i2 i3 : Int} {M M0 : qm} (h : Fg 217578915929281655942979733564234117543949565973839626380202989890757279942983351795712 M0 M) : qP (qf_X14_attend_J54 N i1 i2 i3 M) (pU (pU (fun r => Fg 217578915929281655942979733564234117543949565973839626380202989890757279942983351795712 M0 r.2) (fun r => Fg 217578915929281655942979733564234117543949565973839626380202989890757279942983351795712 M0 r.2)) (fun r => Fg 217578915929281655942979733564234117543949565973839626380202989890757279942983351795712 M0 r.2.2.2)) := by
  unfold qf_X14_attend_J54
  exact (fr_X14_attend_J59 h)
theorem fr_X14_attend_L4_b {N : Nat} {i1 i2 i3 : Int} {M M0 : qm} (h : Fg 217578915929281655942979733564234117543949565973839626380202989890757279942983351795712 M0 M) : qP (qf_X14_attend_L4_b N i1 i2 i3 M) (pU (pU (fun r => Fg 217578915929281655942979733564234117543949565973839626380202989890757279942983351795712 M0 r.2) (fun r => Fg 217578915929281655942979733564234117543949565973839626380202989890757279942983351795712 M0 r.2)) (fun r => Fg 217578915929281655942979733564234117543949565973839626380202989890757279942983351795712 M0 r.2.2.2)) := by
  unfold qf_X14_attend_L4_b
  refine qP_ite ?_ ?_
  · exact qP_some h
  · refine qP_ite ?_ ?_
    · refine qP_ite ?_ ?_
      · exact (fr_X14_attend_J58 h)
      · refine qP_ite ?_ ?_
        · refine qP_ite ?_ ?_
          · refine qP_ite ?_ ?_
            · refine qP_ite ?_ ?_
              · refine qP_ite ?_ ?_
                · exact (fr_X14_attend_J54 h)
                · exact (fr_X14_attend_J58 h)
              · exact qP_none
            · refine qP_ite ?_ ?_
              · refine qP_ite ?_ ?_
                · exact (fr_X14_attend_J54 h)
                · exact (fr_X14_attend_J58 h)
              · exact qP_none
          · exact (fr_X14_attend_J58 h)
        · exact qP_none
    · exact qP_none
theorem fr_X14_attend_L4 (n : Nat) {N : Nat} {i1 i2 i3 : Int} {M M0 : qm} (h : Fg 217578915929281655942979733564234117543949565973839626380202989890757279942983351795712 M0 M) : qP (qf_X14_attend_L4 N n i1 i2 i3 M) (pU (fun r => Fg 217578915929281655942979733564234117543949565973839626380202989890757279942983351795712 M0 r.2) (fun r => Fg 217578915929281655942979733564234117543949565973839626380202989890757279942983351795712 M0 r.2)) := by
  unfold qf_X14_attend_L4
  exact qP_loop (I := fun s => Fg 217578915929281655942979733564234117543949565973839626380202989890757279942983351795712 M0 s.2.2.2) (fun s hs => fr_X14_attend_L4_b hs) n _ h
theorem fr_X14_attend {N : Nat} {i1 : Int} {M M0 : qm} (h : Fg 217578915929281655942979733564234117543949565973839626380202989890757279942983351795712 M0 M) : qP (qf_X14_attend N i1 M) (fun r => Fg 217578915929281655942979733564234117543949565973839626380202989890757279942983351795712 M0 r.2) := by
  unfold qf_X14_attend
  refine qP_bind (fr_X14_attend_L4 _ h) (fun r1 k1 => ?_)
  rcases r1 with x1 | x1
  · exact qP_some k1
  · obtain ⟨y1_0, y1_1⟩ := x1
    have h1 : Fg _ _ y1_1 := k1
    exact qP_some h1
theorem fr_X18_attend_J15 {N : Nat} {i1 t1 : Int} {M M0 : qm} (h : Fg 217578915929281655942979733564234117545411067611170529298406674723473562962639284338688 M0 M) : qP (qf_X18_attend_J15 N i1 t1 M) (fun r => Fg 217578915929281655942979733564234117545411067611170529298406674723473562962639284338688 M0 r.2) := by
  unfold qf_X18_attend_J15
  refine qP_bind (fr_X18_goes Fg_refl) (fun r1 k1 => ?_)
  have h1 := Fg_tr h (Fg_mono k1 rfl)
  refine qP_ite ?_ ?_
  · exact qP_some h1
  · refine qP_bind (fr_X14_attend Fg_refl) (fun r2 k2 => ?_)
    have h2 := Fg_tr h1 (Fg_mono k2 rfl)
    exact qP_some h2
theorem fr_X18_attend_J10 {N : Nat} {i1 : Int} {M M0 : qm} (h : Fg 217578915929281655942979733564234117545411067611170529298406674723473562962639284338688 M0 M) : qP (qf_X18_attend_J10 N i1 M) (fun r => Fg 217578915929281655942979733564234117545411067611170529298406674723473562962639284338688 M0 r.2) := by
  unfold qf_X18_attend_J10
  exact (fr_X18_attend_J15 h)
theorem fr_X18_attend {N : Nat} {i1 : Int} {M M0 : qm} (h : Fg 217578915929281655942979733564234117545411067611170529298406674723473562962639284338688 M0 M) : qP (qf_X18_attend N i1 M) (fun r => Fg 217578915929281655942979733564234117545411067611170529298406674723473562962639284338688 M0 r.2) := by
  unfold qf_X18_attend
  refine qP_ite ?_ ?_
  · exact (fr_X18_attend_J10 h)
  · refine qP_ite ?_ ?_
    · exact (fr_X18_attend_J10 h)
    · exact (fr_X18_attend_J15 h)
theorem fr_X4_lookAtZones_J48 {N : Nat} {i1 i2 i3 t1 t2 : Int} {M M0 : qm} (h : Fg 8362779449448983678075894352243135564742656 M0 M) : qP (qf_X4_lookAtZones_J48 N i1 i2 i3 t1 t2 M) (pU (pU (fun r => Fg 8362779449448983678075894352243135564742656 M0 r.2) (fun r => Fg 8362779449448983678075894352243135564742656 M0 r.2)) (fun r => Fg 8362779449448983678075894352243135564742656 M0 r.2.2)) := by
  unfold qf_X4_lookAtZones_J48
  refine qP_ite ?_ ?_
  · refine qP_bnd (m0 := _) (Fg_wa (k := 141) h rfl rfl) (fun M1 h1 => ?_)
    refine qP_pure (fun r2 => ?_)
    refine qP_pure (fun r3 => ?_)
    refine qP_ite ?_ ?_
    · refine qP_bnd (m0 := _) (Fg_wa (k := 142) h1 rfl rfl) (fun M4 h4 => ?_)
      exact qP_some h4
    · exact qP_none
  · exact qP_none
theorem fr_X4_lookAtZones_J47 {N : Nat} {i1 i2 i3 t1 : Int} {M M0 : qm} (h : Fg 8362779449448983678075894352243135564742656 M0 M) : qP (qf_X4_lookAtZones_J47 N i1 i2 i3 t1 M) (pU (pU (fun r => Fg 8362779449448983678075894352243135564742656 M0 r.2) (fun r => Fg 8362779449448983678075894352243135564742656 M0 r.2)) (fun r => Fg 8362779449448983678075894352243135564742656 M0 r.2.2)) := by
  unfold qf_X4_lookAtZones_J47
  exact (fr_X4_lookAtZones_J48 h)
theorem fr_X4_lookAtZones_L2_b {N : Nat} {i1 i2 : Int} {M M0 : qm} (h : Fg 8362779449448983678075894352243135564742656 M0 M) : qP (qf_X4_lookAtZones_L2_b N i1 i2 M) (pU (pU (fun r => Fg 8362779449448983678075894352243135564742656 M0 r.2) (fun r => Fg 8362779449448983678075894352243135564742656 M0 r.2)) (fun r => Fg 8362779449448983678075894352243135564742656 M0 r.2.2)) := by
  unfold qf_X4_lookAtZones_L2_b
  refine qP_ite ?_ ?_
  · exact qP_some h
  · refine qP_pure (fun r1 => ?_)
    refine qP_pure (fun r2 => ?_)
    refine qP_ite ?_ ?_
    · exact (fr_X4_lookAtZones_J47 h)
    · refine qP_ite ?_ ?_
      · refine qP_ite ?_ ?_
        · exact (fr_X4_lookAtZones_J47 h)
        · exact (fr_X4_lookAtZones_J48 h)
      · exact qP_none
theorem fr_X4_lookAtZones_L2 (n : Nat) {N : Nat} {i1 i2 : Int} {M M0 : qm} (h : Fg 8362779449448983678075894352243135564742656 M0 M) : qP (qf_X4_lookAtZones_L2 N n i1 i2 M) (pU (fun r => Fg 8362779449448983678075894352243135564742656 M0 r.2) (fun r => Fg 8362779449448983678075894352243135564742656 M0 r.2)) := by
  unfold qf_X4_lookAtZones_L2
  exact qP_loop (I := fun s => Fg 8362779449448983678075894352243135564742656 M0 s.2.2) (fun s hs => fr_X4_lookAtZones_L2_b hs) n _ h
theorem fr_X4_lookAtZones {N : Nat} {i1 : Int} {M M0 : qm} (h : Fg 8362779449448983678075894352243135564742656 M0 M) : qP (qf_X4_lookAtZones N i1 M) (fun r => Fg 8362779449448983678075894352243135564742656 M0 r.2) := by
  unfold qf_X4_lookAtZones
  refine qP_bind (fr_X4_lookAtZones_L2 _ h) (fun r1 k1 => ?_)
  rcases r1 with x1 | x1
  · exact qP_some k1
  · obtain ⟨y1_0, y1_1⟩ := x1
    have h1 : Fg _ _ y1_1 := k1
    exact qP_some h1
theorem fr_X4_setDone_J104 {N : Nat} {i1 a4 : Int} {M M0 : qm} (h : Fg 11325279729724950027965494710678647285481472 M0 M) : qP (qf_X4_setDone_J104 N i1 a4 M) (fun r => Fg 11325279729724950027965494710678647285481472 M0 r.2) := by
  unfold qf_X4_setDone_J104
  refine qP_ite ?_ ?_
  · refine qP_ite ?_ ?_
    · refine qP_ite ?_ ?_
      · refine qP_bnd (m0 := _) (Fg_wa (k := 104) h rfl rfl) (fun M1 h1 => ?_)
        exact qP_some h1
      · exact qP_none
    · exact qP_some h
  · exact qP_none
theorem fr_X1_enqueue_J113 {N : Nat} {a7 : Int} {M M0 : qm} (h : Fg 1993841993677373809355710590420516864 M0 M) : qP (qf_X1_enqueue_J113 N a7 M) (fun r => Fg 1993841993677373809355710590420516864 M0 r.2) := by
  unfold qf_X1_enqueue_J113
  exact qP_some h
theorem fr_X1_enqueue_J77 {N : Nat} {i5 i6 a7 i8 a9 t0 t1 t2 : Int} {M M0 : qm} (h : Fg 1993841993677373809355710590420516864 M0 M) : qP (qf_X1_enqueue_J77 N i5 i6 a7 i8 a9 t0 t1 t2 M) (fun r => Fg 1993841993677373809355710590420516864 M0 r.2) := by
  unfold qf_X1_enqueue_J77
  refine qP_ite ?_ ?_
  · refine qP_bnd (m0 := _) (Fg_wa (k := 120) h rfl rfl) (fun M1 h1 => ?_)
    refine qP_ite ?_ ?_
    · refine qP_bnd (m0 := _) (Fg_wa (k := 120) h1 rfl rfl) (fun M2 h2 => ?_)
      refine qP_ite ?_ ?_
      · refine qP_bnd (m0 := _) (Fg_wa (k := 120) h2 rfl rfl) (fun M3 h3 => ?_)
        refine qP_ite ?_ ?_
        · refine qP_bnd (m0 := _) (Fg_wa (k := 120) h3 rfl rfl) (fun M4 h4 => ?_)
          refine qP_bnd (m0 := _) (Fg_wa (k := 119) h4 rfl rfl) (fun M5 h5 => ?_)
          exact (fr_X1_enqueue_J113 h5)
        · exact qP_none
      · exact qP_none
    · exact qP_none
  · exact qP_none
theorem fr_X1_enqueue {N : Nat} {i1 i2 i3 i4 i5 i6 : Int} {M M0 : qm} (h : Fg 1993841993677373809355710590420516864 M0 M) : qP (qf_X1_enqueue N i1 i2 i3 i4 i5 i6 M) (fun r => Fg 1993841993677373809355710590420516864 M0 r.2) := by
  unfold qf_X1_enqueue
  refine qP_ite ?_ ?_
  · refine qP_pure (fun r1 => ?_)
    refine qP_ite ?_ ?_
    · exact (fr_X1_enqueue_J113 h)
    · refine qP_ite ?_ ?_
      · refine qP_ite ?_ ?_
        · refine qP_bnd (m0 := _) (Fg_wa (k := 120) h rfl rfl) (fun M2 h2 => ?_)
          refine qP_ite ?_ ?_
          · refine qP_bnd (m0 := _) (Fg_wa (k := 120) h2 rfl rfl) (fun M3 h3 => ?_)
            refine qP_ite ?_ ?_
            · refine qP_bnd (m0 := _) (Fg_wa (k := 120) h3 rfl rfl) (fun M4 h4 => ?_)
              refine qP_ite ?_ ?_
              · exact (fr_X1_enqueue_J77 h4)
              · exact (fr_X1_enqueue_J77 h4)
            · exact qP_none
          · exact qP_none
        · exact qP_none
      · exact qP_none
  · exact qP_none
theorem fr_X4_setDone_J51 {N : Nat} {i1 a4 t0 t1 t2 : Int} {M M0 : qm} (h : Fg 11325279729724950027965494710678647285481472 M0 M) : qP (qf_X4_setDone_J51 N i1 a4 t0 t1 t2 M) (fun r => Fg 11325279729724950027965494710678647285481472 M0 r.2) := by
  unfold qf_X4_setDone_J51
  refine qP_ite ?_ ?_
  · refine qP_bnd (m0 := _) (Fg_wa (k := 143) h rfl rfl) (fun M1 h1 => ?_)
    refine qP_bnd (m0 := _) (Fg_w h1 rfl) (fun M2 h2 => ?_)
    refine qP_ite ?_ ?_
    · refine qP_ite ?_ ?_
      · refine qP_pure (fun r3 => ?_)
        refine qP_ite ?_ ?_
        · exact (fr_X4_setDone_J104 h2)
        · refine qP_bind (fr_X1_enqueue Fg_refl) (fun r4 k4 => ?_)
          have h4 := Fg_tr h2 (Fg_mono k4 rfl)
          exact (fr_X4_setDone_J104 h4)
      · exact (fr_X4_setDone_J104 h2)
    · exact qP_none
  · exact qP_none
theorem fr_X4_setDone_J14 {N : Nat} {i1 i2 i3 t1 t2 : Int} {M M0 : qm} (h : Fg 11325279729724950027965494710678647285481472 M0 M) : qP (qf_X4_setDone_J14 N i1 i2 i3 t1 t2 M) (fun r => Fg 11325279729724950027965494710678647285481472 M0 r.2) := by
  unfold qf_X4_setDone_J14
  refine qP_ite ?_ ?_
  · refine qP_bnd (m0 := _) (Fg_wa (k := 137) h rfl rfl) (fun M1 h1 => ?_)
    refine qP_ite ?_ ?_
    · refine qP_bnd (m0 := _) (Fg_wa (k := 143) h1 rfl rfl) (fun M2 h2 => ?_)
      refine qP_bnd (m0 := _) (Fg_wa (k := 143) h2 rfl rfl) (fun M3 h3 => ?_)
      refine qP_ite ?_ ?_
      · exact (fr_X4_setDone_J51 h3)
      · exact (fr_X4_setDone_J51 h3)
    · exact qP_none
  · exact qP_none
theorem fr_X4_setDone {N : Nat} {i1 i2 i3 : Int} {M M0 : qm} (h : Fg 11325279729724950027965494710678647285481472 M0 M) : qP (qf_X4_setDone N i1 i2 i3 M) (fun r => Fg 11325279729724950027965494710678647285481472 M0 r.2) := by
  unfold qf_X4_setDone
  refine qP_ite ?_ ?_
  · exact (fr_X4_setDone_J14 h)
  · exact (fr_X4_setDone_J14 h)
theorem fr_X4_resetLatched_L9_b {N : Nat} {i1 i2 i3 : Int} {M M0 : qm} (h : Fg 19688059179173933706041389062921782850224128 M0 M) : qP (qf_X4_resetLatched_L9_b N i1 i2 i3 M) (pU (pU (fun r => Fg 19688059179173933706041389062921782850224128 M0 r.2) (fun r => Fg 19688059179173933706041389062921782850224128 M0 r.2)) (fun r => Fg 19688059179173933706041389062921782850224128 M0 r.2.2.2)) := by
  unfold qf_X4_resetLatched_L9_b
  refine qP_ite ?_ ?_
  · exact qP_some h
  · refine qP_ite ?_ ?_
    · refine qP_ite ?_ ?_
      · refine qP_ite ?_ ?_
        · refine qP_ite ?_ ?_
          · refine qP_ite ?_ ?_
            · exact qP_some h
            · refine qP_pure (fun r1 => ?_)
              refine qP_ite ?_ ?_
              · refine qP_bind (fr_X4_setDone Fg_refl) (fun r2 k2 => ?_)
                have h2 := Fg_tr h (Fg_mono k2 rfl)
                exact qP_some h2
              · exact qP_some h
          · exact qP_none
        · exact qP_some h
      · exact qP_none
    · exact qP_none
theorem fr_X4_resetLatched_L9 (n : Nat) {N : Nat} {i1 i2 i3 : Int} {M M0 : qm} (h : Fg 19688059179173933706041389062921782850224128 M0 M) : qP (qf_X4_resetLatched_L9 N n i1 i2 i3 M) (pU (fun r => Fg 19688059179173933706041389062921782850224128 M0 r.2) (fun r => Fg 19688059179173933706041389062921782850224128 M0 r.2)) := by
  unfold qf_X4_resetLatched_L9
  exact qP_loop (I := fun s => Fg 19688059179173933706041389062921782850224128 M0 s.2.2.2) (fun s hs => fr_X4_resetLatched_L9_b hs) n _ h
theorem fr_X4_resetLatched {N : Nat} {i1 : Int} {M M0 : qm} (h : Fg 19688059179173933706041389062921782850224128 M0 M) : qP (qf_X4_resetLatched N i1 M) (fun r => Fg 19688059179173933706041389062921782850224128 M0 r.2) := by
  unfold qf_X4_resetLatched
  refine qP_bind (fr_X4_lookAtZones Fg_refl) (fun r1 k1 => ?_)
  have h1 := Fg_tr h (Fg_mono k1 rfl)
  refine qP_bind (fr_X4_resetLatched_L9 _ h1) (fun r2 k2 => ?_)
  rcases r2 with x2 | x2
  · exact qP_some k2
  · obtain ⟨y2_0, y2_1⟩ := x2
    have h2 : Fg _ _ y2_1 := k2
    exact qP_some h2
theorem fr_X11_reset {N : Nat} {M M0 : qm} (h : Fg 19688059179173933706041389062921782850224128 M0 M) : qP (qf_X11_reset N M) (fun r => Fg 19688059179173933706041389062921782850224128 M0 r.2) := by
  unfold qf_X11_reset
  refine qP_pure (fun r1 => ?_)
  rcases r1 with x2 | x2
  · refine qP_bind (fr_X4_resetLatched Fg_refl) (fun r3 k3 => ?_)
    have h3 := Fg_tr h (Fg_mono k3 rfl)
    exact qP_some h3
  · exact qP_some h
theorem fr_L_reset {N : Nat} {M M0 : qm} (h : Fg 165263992197562149737978827008192759957101170741070304821162198818601447809077856144356481783862527253286865928038689800192 M0 M) : qP (qf_L_reset N M) (fun r => Fg 165263992197562149737978827008192759957101170741070304821162198818601447809077856144356481783862527253286865928038689800192 M0 r.2) := by
  unfold qf_L_reset
  refine qP_bind (fr_X11_reset Fg_refl) (fun r1 k1 => ?_)
  have h1 := Fg_tr h (Fg_mono k1 rfl)
  obtain ⟨x1, m1⟩ := r1
  rcases x1 with x1 | x1
  · have h1 : Fg _ _ m1 := h1
    refine qP_bnd (m0 := _) (Fg_wa (k := 406) h1 rfl rfl) (fun M2 h2 => ?_)
    exact qP_some h2
  · have h1 : Fg _ _ m1 := h1
    refine qP_ite ?_ ?_
    · exact qP_some h1
    · exact qP_none
theorem fr_X14_tell_L11_b {N : Nat} {i1 i2 i3 : Int} {M M0 : qm} (h : Fg 1740631342255640669920310882730959021463648733009275048243616116176628992556747408277504 M0 M) : qP (qf_X14_tell_L11_b N i1 i2 i3 M) (pU (pU (fun r => Fg 1740631342255640669920310882730959021463648733009275048243616116176628992556747408277504 M0 r.2) (fun r => Fg 1740631342255640669920310882730959021463648733009275048243616116176628992556747408277504 M0 r.2)) (fun r => Fg 1740631342255640669920310882730959021463648733009275048243616116176628992556747408277504 M0 r.2.2.2)) := by
  unfold qf_X14_tell_L11_b
  refine qP_ite ?_ ?_
  · exact qP_some h
  · refine qP_ite ?_ ?_
    · refine qP_ite ?_ ?_
      · refine qP_bnd (m0 := _) (Fg_wa (k := 287) h rfl rfl) (fun M1 h1 => ?_)
        refine qP_ite ?_ ?_
        · refine qP_ite ?_ ?_
          · refine qP_bnd (m0 := _) (Fg_wa (k := 288) h1 rfl rfl) (fun M2 h2 => ?_)
            refine qP_ite ?_ ?_
            · refine qP_ite ?_ ?_
              · refine qP_bnd (m0 := _) (Fg_wa (k := 289) h2 rfl rfl) (fun M3 h3 => ?_)
                exact qP_some h3
              · exact qP_none
            · exact qP_none
          · exact qP_none
        · exact qP_none
      · exact qP_none
    · exact qP_none
theorem fr_X14_tell_L11 (n : Nat) {N : Nat} {i1 i2 i3 : Int} {M M0 : qm} (h : Fg 1740631342255640669920310882730959021463648733009275048243616116176628992556747408277504 M0 M) : qP (qf_X14_tell_L11 N n i1 i2 i3 M) (pU (fun r => Fg 1740631342255640669920310882730959021463648733009275048243616116176628992556747408277504 M0 r.2) (fun r => Fg 1740631342255640669920310882730959021463648733009275048243616116176628992556747408277504 M0 r.2)) := by
  unfold qf_X14_tell_L11
  exact qP_loop (I := fun s => Fg 1740631342255640669920310882730959021463648733009275048243616116176628992556747408277504 M0 s.2.2.2) (fun s hs => fr_X14_tell_L11_b hs) n _ h
theorem fr_X14_tell_J75 {N : Nat} {i1 i2 : Int} {M M0 : qm} (h : Fg 1740631342255640669920310882730959021463648733009275048243616116176628992556747408277504 M0 M) : qP (qf_X14_tell_J75 N i1 i2 M) (fun r => Fg 1740631342255640669920310882730959021463648733009275048243616116176628992556747408277504 M0 r.2) := by
  unfold qf_X14_tell_J75
  refine qP_ite ?_ ?_
  · refine qP_bnd (m0 := _) (Fg_wa (k := 287) h rfl rfl) (fun M1 h1 => ?_)
    refine qP_ite ?_ ?_
    · refine qP_bnd (m0 := _) (Fg_wa (k := 288) h1 rfl rfl) (fun M2 h2 => ?_)
      refine qP_ite ?_ ?_
      · refine qP_bnd (m0 := _) (Fg_wa (k := 289) h2 rfl rfl) (fun M3 h3 => ?_)
        refine qP_bnd (m0 := _) (Fg_w h3 rfl) (fun M4 h4 => ?_)
        exact qP_some h4
      · exact qP_none
    · exact qP_none
  · exact qP_none
theorem fr_X14_tell {N : Nat} {i1 i2 : Int} {M M0 : qm} (h : Fg 1740631342255640669920310882730959021463648733009275048243616116176628992556747408277504 M0 M) : qP (qf_X14_tell N i1 i2 M) (fun r => Fg 1740631342255640669920310882730959021463648733009275048243616116176628992556747408277504 M0 r.2) := by
  unfold qf_X14_tell
  refine qP_ite ?_ ?_
  · refine qP_bind (fr_X14_tell_L11 _ h) (fun r1 k1 => ?_)
    rcases r1 with x1 | x1
    · exact qP_some k1
    · obtain ⟨y1_0, y1_1⟩ := x1
      have h1 : Fg _ _ y1_1 := k1
      refine qP_bnd (m0 := _) (Fg_w h1 rfl) (fun M2 h2 => ?_)
      exact (fr_X14_tell_J75 h2)
  · exact (fr_X14_tell_J75 h)
theorem fr_X14_resets {N : Nat} {i1 : Int} {M M0 : qm} (h : Fg 1973751609322728158430646311549781290260737553695531790793833605345297506781372428058624 M0 M) : qP (qf_X14_resets N i1 M) (fun r => Fg 1973751609322728158430646311549781290260737553695531790793833605345297506781372428058624 M0 r.2) := by
  unfold qf_X14_resets
  refine qP_ite ?_ ?_
  · refine qP_ite ?_ ?_
    · exact qP_some h
    · refine qP_ite ?_ ?_
      · refine qP_ite ?_ ?_
        · refine qP_pure (fun r1 => ?_)
          refine qP_ite ?_ ?_
          · refine qP_bind (fr_X14_rests Fg_refl) (fun r2 k2 => ?_)
            have h2 := Fg_tr h (Fg_mono k2 rfl)
            refine qP_bind (fr_X14_tell Fg_refl) (fun r3 k3 => ?_)
            have h3 := Fg_tr h2 (Fg_mono k3 rfl)
            exact qP_some h3
          · exact qP_some h
        · exact qP_some h
      · exact qP_none
  · exact qP_none
theorem fr_X18_reset_J50 {N : Nat} {i1 i3 : Int} {M M0 : qm} (h : Fg 820219086980754465952565823917800687419089471522205460024956860453938791330145577425393067612962816 M0 M) : qP (qf_X18_reset_J50 N i1 i3 M) (pU (pU (fun r => Fg 820219086980754465952565823917800687419089471522205460024956860453938791330145577425393067612962816 M0 r.2) (fun r => Fg 820219086980754465952565823917800687419089471522205460024956860453938791330145577425393067612962816 M0 r.2)) (fun r => Fg 820219086980754465952565823917800687419089471522205460024956860453938791330145577425393067612962816 M0 r.2.2.2)) := by
  unfold qf_X18_reset_J50
  refine qP_pure (fun r1 => ?_)
  exact qP_some h
theorem fr_X18_does_J43 {N : Nat} {i1 i2 : Int} {M M0 : qm} (h : Fg 820219086978780714343243095759370041107539690231943260969623997760226754039967563635592039252361216 M0 M) : qP (qf_X18_does_J43 N i1 i2 M) (fun r => Fg 820219086978780714343243095759370041107539690231943260969623997760226754039967563635592039252361216 M0 r.2) := by
  unfold qf_X18_does_J43
  refine qP_ite ?_ ?_
  · refine qP_ite ?_ ?_
    · refine qP_ite ?_ ?_
      · refine qP_bnd (m0 := _) (Fg_wa (k := 305) h rfl rfl) (fun M1 h1 => ?_)
        exact qP_some h1
      · exact qP_none
    · exact qP_some h
  · exact qP_none
theorem fr_X12_send_L125_b {N : Nat} {i1 i2 i5 i6 i7 i8 : Int} {M M0 : qm} (h : Fg 820219021793629471639688335169108012007438536584954663659663977403732374699765971208817441383645184 M0 M) : qP (qf_X12_send_L125_b N i1 i2 i5 i6 i7 i8 M) (pU (pU (fun r => Fg 820219021793629471639688335169108012007438536584954663659663977403732374699765971208817441383645184 M0 r.2) (fun r => Fg 820219021793629471639688335169108012007438536584954663659663977403732374699765971208817441383645184 M0 r.2)) (fun r => Fg 820219021793629471639688335169108012007438536584954663659663977403732374699765971208817441383645184 M0 r.2.2.2.2.2.2)) := by
  unfold qf_X12_send_L125_b
  refine qP_ite ?_ ?_
  · exact qP_some h
  · refine qP_ite ?_ ?_
    · refine qP_bnd (m0 := _) (Fg_wa (k := 328) h rfl rfl) (fun M1 h1 => ?_)
      exact qP_some h1
    · exact qP_none
theorem fr_X12_send_L125 (n : Nat) {N : Nat} {i1 i2 i5 i6 i7 i8 : Int} {M M0 : qm} (h : Fg 820219021793629471639688335169108012007438536584954663659663977403732374699765971208817441383645184 M0 M) : qP (qf_X12_send_L125 N n i1 i2 i5 i6 i7 i8 M) (pU (fun r => Fg 820219021793629471639688335169108012007438536584954663659663977403732374699765971208817441383645184 M0 r.2) (fun r => Fg 820219021793629471639688335169108012007438536584954663659663977403732374699765971208817441383645184 M0 r.2)) := by
  unfold qf_X12_send_L125
  exact qP_loop (I := fun s => Fg 820219021793629471639688335169108012007438536584954663659663977403732374699765971208817441383645184 M0 s.2.2.2.2.2.2) (fun s hs => fr_X12_send_L125_b hs) n _ h
theorem fr_X12_check {N : Nat} {i1 : Int} {M M0 : qm} (h : Fg 546812681195752981093125556779405341338292357723303109106442651602488249799843980805878294255763456 M0 M) : qP (qf_X12_check N i1 M) (fun r => Fg 546812681195752981093125556779405341338292357723303109106442651602488249799843980805878294255763456 M0 r.2) := by
  unfold qf_X12_check
  refine qP_ite ?_ ?_
  · refine qP_pure (fun r1 => ?_)
    rcases r1 with x2 | x2
    · exact qP_some h
    · refine qP_ite ?_ ?_
      · refine qP_bnd (m0 := _) (Fg_wa (k := 328) h rfl rfl) (fun M3 h3 => ?_)
        exact qP_some h3
      · exact qP_none
  · exact qP_none
theorem fr_X12_send_J120 {N : Nat} {i1 i2 i5 i6 i7 t1 t2 t3 : Int} {M M0 : qm} (h : Fg 820219021793629471639688335169108012007438536584954663659663977403732374699765971208817441383645184 M0 M) : qP (qf_X12_send_J120 N i1 i2 i5 i6 i7 t1 t2 t3 M) (fun r => Fg 820219021793629471639688335169108012007438536584954663659663977403732374699765971208817441383645184 M0 r.2) := by
  unfold qf_X12_send_J120
  refine qP_ite ?_ ?_
  · refine qP_bnd (m0 := _) (Fg_wa (k := 328) h rfl rfl) (fun M1 h1 => ?_)
    refine qP_bind (fr_X12_send_L125 _ h1) (fun r2 k2 => ?_)
    rcases r2 with x2 | x2
    · exact qP_some k2
    · obtain ⟨y2_0, y2_1⟩ := x2
      have h2 : Fg _ _ y2_1 := k2
      refine qP_ite ?_ ?_
      · refine qP_bnd (m0 := _) (Fg_wa (k := 328) h2 rfl rfl) (fun M3 h3 => ?_)
        refine qP_ite ?_ ?_
        · refine qP_bnd (m0 := _) (Fg_wa (k := 328) h3 rfl rfl) (fun M4 h4 => ?_)
          refine qP_ite ?_ ?_
          · refine qP_bnd (m0 := _) (Fg_wa (k := 328) h4 rfl rfl) (fun M5 h5 => ?_)
            refine qP_bind (fr_X12_check Fg_refl) (fun r6 k6 => ?_)
            have h6 := Fg_tr h5 (Fg_mono k6 rfl)
            refine qP_ite ?_ ?_
            · refine qP_ite ?_ ?_
              · refine qP_bnd (m0 := _) (Fg_wa (k := 327) h6 rfl rfl) (fun M7 h7 => ?_)
                refine qP_ite ?_ ?_
                · exact qP_some h7
                · exact qP_none
              · exact qP_none
            · exact qP_none
          · exact qP_none
        · exact qP_none
      · exact qP_none
  · exact qP_none
theorem fr_X12_send {N : Nat} {i1 i2 i3 i4 i5 i6 : Int} {M M0 : qm} (h : Fg 820219021793629471639688335169108012007438536584954663659663977403732374699765971208817441383645184 M0 M) : qP (qf_X12_send N i1 i2 i3 i4 i5 i6 M) (fun r => Fg 820219021793629471639688335169108012007438536584954663659663977403732374699765971208817441383645184 M0 r.2) := by
  unfold qf_X12_send
  refine qP_ite ?_ ?_
  · refine qP_ite ?_ ?_
    · refine qP_bnd (m0 := _) (Fg_wa (k := 328) h rfl rfl) (fun M1 h1 => ?_)
      refine qP_ite ?_ ?_
      · refine qP_ite ?_ ?_
        · refine qP_bnd (m0 := _) (Fg_wa (k := 328) h1 rfl rfl) (fun M2 h2 => ?_)
          refine qP_ite ?_ ?_
          · refine qP_ite ?_ ?_
            · refine qP_bnd (m0 := _) (Fg_wa (k := 328) h2 rfl rfl) (fun M3 h3 => ?_)
              refine qP_ite ?_ ?_
              · refine qP_bnd (m0 := _) (Fg_wa (k := 328) h3 rfl rfl) (fun M4 h4 => ?_)
                refine qP_ite ?_ ?_
                · refine qP_bnd (m0 := _) (Fg_wa (k := 328) h4 rfl rfl) (fun M5 h5 => ?_)
                  refine qP_ite ?_ ?_
                  · exact (fr_X12_send_J120 h5)
                  · exact (fr_X12_send_J120 h5)
                · exact qP_none
              · exact qP_none
            · exact qP_none
          · exact qP_none
        · exact qP_none
      · exact qP_none
    · exact qP_none
  · exact qP_none
theorem fr_X18_does {N : Nat} {i1 i2 : Int} {M M0 : qm} (h : Fg 820219086978780714343243095759370041107539690231943260969623997760226754039967563635592039252361216 M0 M) : qP (qf_X18_does N i1 i2 M) (fun r => Fg 820219086978780714343243095759370041107539690231943260969623997760226754039967563635592039252361216 M0 r.2) := by
  unfold qf_X18_does
  refine qP_ite ?_ ?_
  · refine qP_ite ?_ ?_
    · refine qP_ite ?_ ?_
      · exact (fr_X18_does_J43 h)
      · refine qP_bind (fr_X12_send Fg_refl) (fun r1 k1 => ?_)
        have h1 := Fg_tr h (Fg_mono k1 rfl)
        exact (fr_X18_does_J43 h1)
    · exact (fr_X18_does_J43 h)
  · exact qP_none
theorem fr_X18_reset_L26_b {N : Nat} {i1 i2 i3 : Int} {M M0 : qm} (h : Fg 820219086980754465952565823917800687419089471522205460024956860453938791330145577425393067612962816 M0 M) : qP (qf_X18_reset_L26_b N i1 i2 i3 M) (pU (pU (fun r => Fg 820219086980754465952565823917800687419089471522205460024956860453938791330145577425393067612962816 M0 r.2) (fun r => Fg 820219086980754465952565823917800687419089471522205460024956860453938791330145577425393067612962816 M0 r.2)) (fun r => Fg 820219086980754465952565823917800687419089471522205460024956860453938791330145577425393067612962816 M0 r.2.2.2)) := by
  unfold qf_X18_reset_L26_b
  refine qP_ite ?_ ?_
  · exact qP_some h
  · refine qP_bind (fr_X14_resets Fg_refl) (fun r1 k1 => ?_)
    have h1 := Fg_tr h (Fg_mono k1 rfl)
    refine qP_ite ?_ ?_
    · exact (fr_X18_reset_J50 h1)
    · refine qP_bind (fr_X18_does Fg_refl) (fun r2 k2 => ?_)
      have h2 := Fg_tr h1 (Fg_mono k2 rfl)
      exact (fr_X18_reset_J50 h2)
theorem fr_X18_reset_L26 (n : Nat) {N : Nat} {i1 i2 i3 : Int} {M M0 : qm} (h : Fg 820219086980754465952565823917800687419089471522205460024956860453938791330145577425393067612962816 M0 M) : qP (qf_X18_reset_L26 N n i1 i2 i3 M) (pU (fun r => Fg 820219086980754465952565823917800687419089471522205460024956860453938791330145577425393067612962816 M0 r.2) (fun r => Fg 820219086980754465952565823917800687419089471522205460024956860453938791330145577425393067612962816 M0 r.2)) := by
  unfold qf_X18_reset_L26
  exact qP_loop (I := fun s => Fg 820219086980754465952565823917800687419089471522205460024956860453938791330145577425393067612962816 M0 s.2.2.2) (fun s hs => fr_X18_reset_L26_b hs) n _ h
theorem fr_X18_reset {N : Nat} {M M0 : qm} (h : Fg 820219086980754465952565823917800687419089471522205460024956860453938791330145577425393067612962816 M0 M) : qP (qf_X18_reset N M) (fun r => Fg 820219086980754465952565823917800687419089471522205460024956860453938791330145577425393067612962816 M0 r.2) := by
  unfold qf_X18_reset
  refine qP_bind (fr_X18_stays Fg_refl) (fun r1 k1 => ?_)
  have h1 := Fg_tr h (Fg_mono k1 rfl)
  refine qP_ite ?_ ?_
  · exact qP_some h1
  · refine qP_pure (fun r2 => ?_)
    refine qP_bind (fr_X18_reset_L26 _ h1) (fun r3 k3 => ?_)
    rcases r3 with x3 | x3
    · exact qP_some k3
    · obtain ⟨y3_0, y3_1⟩ := x3
      have h3 : Fg _ _ y3_1 := k3
      exact qP_some h3
theorem fr_L_act {N : Nat} {i1 i2 : Int} {M M0 : qm} (h : Fg 165263992197562149737978827008192759957101170741070304821162198818601447809077836456297302609928821211897803006255839576064 M0 M) : qP (qf_L_act N i1 i2 M) (fun r => Fg 165263992197562149737978827008192759957101170741070304821162198818601447809077836456297302609928821211897803006255839576064 M0 r.2) := by
  unfold qf_L_act
  refine qP_pure (fun r1 => ?_)
  rcases r1 with x2 | x2
  · refine qP_bnd (m0 := _) (Fg_wa (k := 406) h rfl rfl) (fun M3 h3 => ?_)
    exact qP_some h3
  · refine qP_ite ?_ ?_
    · exact qP_some h
    · refine qP_ite ?_ ?_
      · exact qP_some h
      · exact qP_none
theorem fr_X18_act_J36 {N : Nat} {i1 i2 t1 : Int} {M M0 : qm} (h : Fg 1461501637330902918203684832716283019655932542976 M0 M) : qP (qf_X18_act_J36 N i1 i2 t1 M) (fun r => Fg 1461501637330902918203684832716283019655932542976 M0 r.2) := by
  unfold qf_X18_act_J36
  refine qP_bind (fr_X18_goes Fg_refl) (fun r1 k1 => ?_)
  have h1 := Fg_tr h (Fg_mono k1 rfl)
  refine qP_ite ?_ ?_
  · exact qP_some h1
  · refine qP_pure (fun r2 => ?_)
    exact qP_some h1
theorem fr_X18_act_J35 {N : Nat} {i1 i2 : Int} {M M0 : qm} (h : Fg 1461501637330902918203684832716283019655932542976 M0 M) : qP (qf_X18_act_J35 N i1 i2 M) (fun r => Fg 1461501637330902918203684832716283019655932542976 M0 r.2) := by
  unfold qf_X18_act_J35
  exact (fr_X18_act_J36 h)
theorem fr_X18_act {N : Nat} {i1 i2 : Int} {M M0 : qm} (h : Fg 1461501637330902918203684832716283019655932542976 M0 M) : qP (qf_X18_act N i1 i2 M) (fun r => Fg 1461501637330902918203684832716283019655932542976 M0 r.2) := by
  unfold qf_X18_act
  refine qP_pure (fun r1 => ?_)
  refine qP_ite ?_ ?_
  · exact (fr_X18_act_J35 h)
  · refine qP_ite ?_ ?_
    · refine qP_ite ?_ ?_
      · exact (fr_X18_act_J35 h)
      · refine qP_pure (fun r2 => ?_)
        refine qP_ite ?_ ?_
        · exact (fr_X18_act_J35 h)
        · exact (fr_X18_act_J36 h)
    · exact qP_none
theorem fr_L_zone {N : Nat} {i1 i2 : Int} {M M0 : qm} (h : Fg 165263992197562149737978827008192759957101170741070304821162198818601447809077836456297302609928821211897803006255839576064 M0 M) : qP (qf_L_zone N i1 i2 M) (fun r => Fg 165263992197562149737978827008192759957101170741070304821162198818601447809077836456297302609928821211897803006255839576064 M0 r.2) := by
  unfold qf_L_zone
  refine qP_pure (fun r1 => ?_)
  rcases r1 with x2 | x2
  · refine qP_bnd (m0 := _) (Fg_wa (k := 406) h rfl rfl) (fun M3 h3 => ?_)
    exact qP_some h3
  · refine qP_ite ?_ ?_
    · exact qP_some h
    · refine qP_ite ?_ ?_
      · exact qP_some h
      · exact qP_none
theorem fr_X18_zone_J35 {N : Nat} {i1 i2 t1 : Int} {M M0 : qm} (h : Fg 1461501637330902918203684832716283019655932542976 M0 M) : qP (qf_X18_zone_J35 N i1 i2 t1 M) (fun r => Fg 1461501637330902918203684832716283019655932542976 M0 r.2) := by
  unfold qf_X18_zone_J35
  refine qP_bind (fr_X18_goes Fg_refl) (fun r1 k1 => ?_)
  have h1 := Fg_tr h (Fg_mono k1 rfl)
  refine qP_ite ?_ ?_
  · exact qP_some h1
  · refine qP_ite ?_ ?_
    · refine qP_pure (fun r2 => ?_)
      refine qP_ite ?_ ?_
      · exact qP_some h1
      · exact qP_some h1
    · refine qP_ite ?_ ?_
      · refine qP_pure (fun r3 => ?_)
        refine qP_ite ?_ ?_
        · exact qP_some h1
        · exact qP_some h1
      · refine qP_ite ?_ ?_
        · refine qP_ite ?_ ?_
          · exact qP_some h1
          · exact qP_none
        · refine qP_pure (fun r4 => ?_)
          exact qP_some h1
theorem fr_X18_zone_J34 {N : Nat} {i1 i2 : Int} {M M0 : qm} (h : Fg 1461501637330902918203684832716283019655932542976 M0 M) : qP (qf_X18_zone_J34 N i1 i2 M) (fun r => Fg 1461501637330902918203684832716283019655932542976 M0 r.2) := by
  unfold qf_X18_zone_J34
  exact (fr_X18_zone_J35 h)
theorem fr_X18_zone {N : Nat} {i1 i2 : Int} {M M0 : qm} (h : Fg 1461501637330902918203684832716283019655932542976 M0 M) : qP (qf_X18_zone N i1 i2 M) (fun r => Fg 1461501637330902918203684832716283019655932542976 M0 r.2) := by
  unfold qf_X18_zone
  refine qP_pure (fun r1 => ?_)
  refine qP_ite ?_ ?_
  · exact (fr_X18_zone_J34 h)
  · refine qP_ite ?_ ?_
    · refine qP_ite ?_ ?_
      · exact (fr_X18_zone_J34 h)
      · refine qP_pure (fun r2 => ?_)
        refine qP_ite ?_ ?_
        · exact (fr_X18_zone_J34 h)
        · exact (fr_X18_zone_J35 h)
    · exact qP_none
theorem fr_L_event {N : Nat} {i1 i2 : Int} {M M0 : qm} (h : Fg 165263992197562149737978827008192759957101170741070304821162198818601447809077836456297302609928821211897803006255839576064 M0 M) : qP (qf_L_event N i1 i2 M) (fun r => Fg 165263992197562149737978827008192759957101170741070304821162198818601447809077836456297302609928821211897803006255839576064 M0 r.2) := by
  unfold qf_L_event
  refine qP_pure (fun r1 => ?_)
  rcases r1 with x2 | x2
  · refine qP_bnd (m0 := _) (Fg_wa (k := 406) h rfl rfl) (fun M3 h3 => ?_)
    exact qP_some h3
  · refine qP_ite ?_ ?_
    · exact qP_some h
    · refine qP_ite ?_ ?_
      · exact qP_some h
      · exact qP_none
theorem fr_X18_event_J28 {N : Nat} {i1 i2 t1 : Int} {M M0 : qm} (h : Fg 1461501637330902918203684832716283019655932542976 M0 M) : qP (qf_X18_event_J28 N i1 i2 t1 M) (fun r => Fg 1461501637330902918203684832716283019655932542976 M0 r.2) := by
  unfold qf_X18_event_J28
  refine qP_bind (fr_X18_goes Fg_refl) (fun r1 k1 => ?_)
  have h1 := Fg_tr h (Fg_mono k1 rfl)
  refine qP_ite ?_ ?_
  · exact qP_some h1
  · refine qP_pure (fun r2 => ?_)
    exact qP_some h1
theorem fr_X18_event_J27 {N : Nat} {i1 i2 : Int} {M M0 : qm} (h : Fg 1461501637330902918203684832716283019655932542976 M0 M) : qP (qf_X18_event_J27 N i1 i2 M) (fun r => Fg 1461501637330902918203684832716283019655932542976 M0 r.2) := by
  unfold qf_X18_event_J27
  exact (fr_X18_event_J28 h)
theorem fr_X18_event {N : Nat} {i1 i2 : Int} {M M0 : qm} (h : Fg 1461501637330902918203684832716283019655932542976 M0 M) : qP (qf_X18_event N i1 i2 M) (fun r => Fg 1461501637330902918203684832716283019655932542976 M0 r.2) := by
  unfold qf_X18_event
  refine qP_pure (fun r1 => ?_)
  refine qP_ite ?_ ?_
  · exact (fr_X18_event_J27 h)
  · refine qP_pure (fun r2 => ?_)
    refine qP_ite ?_ ?_
    · exact (fr_X18_event_J27 h)
    · exact (fr_X18_event_J28 h)
theorem fr_X9_addBlock {N : Nat} {i1 : Int} {M M0 : qm} (h : Fg 10310493102198110964566080880640 M0 M) : qP (qf_X9_addBlock N i1 M) (fun r => Fg 10310493102198110964566080880640 M0 r.2) := by
  unfold qf_X9_addBlock
  refine qP_ite ?_ ?_
  · refine qP_ite ?_ ?_
    · refine qP_bnd (m0 := _) (Fg_wa (k := 93) h rfl rfl) (fun M1 h1 => ?_)
      refine qP_ite ?_ ?_
      · refine qP_bnd (m0 := _) (Fg_f2 (k := 97) h1 (fun _ => rfl) rfl) (fun M2 h2 => ?_)
        refine qP_ite ?_ ?_
        · refine qP_bnd (m0 := _) (Fg_wa (k := 103) h2 rfl rfl) (fun M3 h3 => ?_)
          refine qP_bnd (m0 := _) (Fg_w h3 rfl) (fun M4 h4 => ?_)
          refine qP_bnd (m0 := _) (Fg_w h4 rfl) (fun M5 h5 => ?_)
          exact qP_some h5
        · exact qP_none
      · exact qP_none
    · exact qP_none
  · exact qP_some h
theorem fr_X11_block_J34 {N : Nat} {i1 t0 : Int} {M M0 : qm} (h : Fg 10310493102198110964566080880640 M0 M) : qP (qf_X11_block_J34 N i1 t0 M) (fun r => Fg 10310493102198110964566080880640 M0 r.2) := by
  unfold qf_X11_block_J34
  refine qP_pure (fun r1 => ?_)
  rcases r1 with x2 | x2
  · refine qP_bind (fr_X9_addBlock Fg_refl) (fun r3 k3 => ?_)
    have h3 := Fg_tr h (Fg_mono k3 rfl)
    exact qP_some h3
  · exact qP_some h
theorem fr_X11_block_J33 {N : Nat} {i1 : Int} {M M0 : qm} (h : Fg 10310493102198110964566080880640 M0 M) : qP (qf_X11_block_J33 N i1 M) (fun r => Fg 10310493102198110964566080880640 M0 r.2) := by
  unfold qf_X11_block_J33
  exact (fr_X11_block_J34 h)
theorem fr_X11_block {N : Nat} {i1 : Int} {M M0 : qm} (h : Fg 10310493102198110964566080880640 M0 M) : qP (qf_X11_block N i1 M) (fun r => Fg 10310493102198110964566080880640 M0 r.2) := by
  unfold qf_X11_block
  refine qP_pure (fun r1 => ?_)
  refine qP_pure (fun r2 => ?_)
  rcases r2 with x3 | x3
  · refine qP_ite ?_ ?_
    · exact (fr_X11_block_J33 h)
    · refine qP_ite ?_ ?_
      · exact (fr_X11_block_J33 h)
      · exact (fr_X11_block_J34 h)
  · exact qP_some h
theorem fr_L_block {N : Nat} {i1 : Int} {M M0 : qm} (h : Fg 165263992197562149737978827008192759957101170741070304821162198818601447809077836456297302620239314314095913970821920456704 M0 M) : qP (qf_L_block N i1 M) (fun r => Fg 165263992197562149737978827008192759957101170741070304821162198818601447809077836456297302620239314314095913970821920456704 M0 r.2) := by
  unfold qf_L_block
  refine qP_bind (fr_X11_block Fg_refl) (fun r1 k1 => ?_)
  have h1 := Fg_tr h (Fg_mono k1 rfl)
  obtain ⟨x1, m1⟩ := r1
  rcases x1 with x1 | x1
  · have h1 : Fg _ _ m1 := h1
    refine qP_bnd (m0 := _) (Fg_wa (k := 406) h1 rfl rfl) (fun M2 h2 => ?_)
    exact qP_some h2
  · have h1 : Fg _ _ m1 := h1
    refine qP_ite ?_ ?_
    · exact qP_some h1
    · refine qP_ite ?_ ?_
      · exact qP_some h1
      · exact qP_none
theorem fr_X17_block_L12_b {N : Nat} {i2 : Int} {M M0 : qm} (h : Fg 545066267105126159802298943968915640750099941273893098314748518674902808725736579584229376 M0 M) : qP (qf_X17_block_L12_b N i2 M) (pU (pU (fun r => Fg 545066267105126159802298943968915640750099941273893098314748518674902808725736579584229376 M0 r.2) (fun r => Fg 545066267105126159802298943968915640750099941273893098314748518674902808725736579584229376 M0 r.2)) (fun r => Fg 545066267105126159802298943968915640750099941273893098314748518674902808725736579584229376 M0 r.2)) := by
  unfold qf_X17_block_L12_b
  refine qP_ite ?_ ?_
  · exact qP_some h
  · refine qP_ite ?_ ?_
    · refine qP_bnd (m0 := _) (Fg_wa (k := 298) h rfl rfl) (fun M1 h1 => ?_)
      exact qP_some h1
    · exact qP_none
theorem fr_X17_block_L12 (n : Nat) {N : Nat} {i2 : Int} {M M0 : qm} (h : Fg 545066267105126159802298943968915640750099941273893098314748518674902808725736579584229376 M0 M) : qP (qf_X17_block_L12 N n i2 M) (pU (fun r => Fg 545066267105126159802298943968915640750099941273893098314748518674902808725736579584229376 M0 r.2) (fun r => Fg 545066267105126159802298943968915640750099941273893098314748518674902808725736579584229376 M0 r.2)) := by
  unfold qf_X17_block_L12
  exact qP_loop (I := fun s => Fg 545066267105126159802298943968915640750099941273893098314748518674902808725736579584229376 M0 s.2) (fun s hs => fr_X17_block_L12_b hs) n _ h
theorem fr_X17_block {N : Nat} {i1 : Int} {M M0 : qm} (h : Fg 545066267105126159802298943968915640750099941273893098314748518674902808725736579584229376 M0 M) : qP (qf_X17_block N i1 M) (fun r => Fg 545066267105126159802298943968915640750099941273893098314748518674902808725736579584229376 M0 r.2) := by
  unfold qf_X17_block
  refine qP_ite ?_ ?_
  · refine qP_bnd (m0 := _) (Fg_wa (k := 294) h rfl rfl) (fun M1 h1 => ?_)
    refine qP_bind (fr_X17_block_L12 _ h1) (fun r2 k2 => ?_)
    rcases r2 with x2 | x2
    · exact qP_some k2
    · obtain ⟨y2_0, y2_1⟩ := x2
      have h2 : Fg _ _ y2_1 := k2
      refine qP_bnd (m0 := _) (Fg_w h2 rfl) (fun M3 h3 => ?_)
      exact qP_some h3
  · exact qP_none
theorem fr_X18_block_J31 {N : Nat} {i1 t1 t2 : Int} {M M0 : qm} (h : Fg 545066267105126159802298943968915640750101402775530429217666722359735525008756235516772352 M0 M) : qP (qf_X18_block_J31 N i1 t1 t2 M) (fun r => Fg 545066267105126159802298943968915640750101402775530429217666722359735525008756235516772352 M0 r.2) := by
  unfold qf_X18_block_J31
  refine qP_bind (fr_X18_goes Fg_refl) (fun r1 k1 => ?_)
  have h1 := Fg_tr h (Fg_mono k1 rfl)
  refine qP_ite ?_ ?_
  · exact qP_some h1
  · refine qP_bind (fr_X17_block Fg_refl) (fun r2 k2 => ?_)
    have h2 := Fg_tr h1 (Fg_mono k2 rfl)
    exact qP_some h2
theorem fr_X18_block_J30 {N : Nat} {i1 t1 : Int} {M M0 : qm} (h : Fg 545066267105126159802298943968915640750101402775530429217666722359735525008756235516772352 M0 M) : qP (qf_X18_block_J30 N i1 t1 M) (fun r => Fg 545066267105126159802298943968915640750101402775530429217666722359735525008756235516772352 M0 r.2) := by
  unfold qf_X18_block_J30
  exact (fr_X18_block_J31 h)
theorem fr_X18_block {N : Nat} {i1 : Int} {M M0 : qm} (h : Fg 545066267105126159802298943968915640750101402775530429217666722359735525008756235516772352 M0 M) : qP (qf_X18_block N i1 M) (fun r => Fg 545066267105126159802298943968915640750101402775530429217666722359735525008756235516772352 M0 r.2) := by
  unfold qf_X18_block
  refine qP_pure (fun r1 => ?_)
  refine qP_ite ?_ ?_
  · exact (fr_X18_block_J30 h)
  · refine qP_ite ?_ ?_
    · exact (fr_X18_block_J30 h)
    · exact (fr_X18_block_J31 h)
theorem fr_X9_setInput {N : Nat} {i1 i2 i3 : Int} {M M0 : qm} (h : Fg 159075295048171365324537462784 M0 M) : qP (qf_X9_setInput N i1 i2 i3 M) (fun r => Fg 159075295048171365324537462784 M0 r.2) := by
  unfold qf_X9_setInput
  refine qP_ite ?_ ?_
  · refine qP_ite ?_ ?_
    · refine qP_ite ?_ ?_
      · refine qP_ite ?_ ?_
        · refine qP_bnd (m0 := _) (Fg_wa (k := 97) h rfl rfl) (fun M1 h1 => ?_)
          refine qP_bnd (m0 := _) (Fg_w h1 rfl) (fun M2 h2 => ?_)
          exact qP_some h2
        · exact qP_none
      · exact qP_none
    · exact qP_none
  · exact qP_none
theorem fr_X11_wire_J35 {N : Nat} {i1 i2 i3 t0 : Int} {M M0 : qm} (h : Fg 159075295048171365324537462784 M0 M) : qP (qf_X11_wire_J35 N i1 i2 i3 t0 M) (fun r => Fg 159075295048171365324537462784 M0 r.2) := by
  unfold qf_X11_wire_J35
  refine qP_pure (fun r1 => ?_)
  rcases r1 with x2 | x2
  · refine qP_pure (fun r3 => ?_)
    rcases r3 with x4 | x4
    · refine qP_bind (fr_X9_setInput Fg_refl) (fun r5 k5 => ?_)
      have h5 := Fg_tr h (Fg_mono k5 rfl)
      exact qP_some h5
    · exact qP_some h
  · exact qP_some h
theorem fr_X11_wire_J34 {N : Nat} {i1 i2 i3 : Int} {M M0 : qm} (h : Fg 159075295048171365324537462784 M0 M) : qP (qf_X11_wire_J34 N i1 i2 i3 M) (fun r => Fg 159075295048171365324537462784 M0 r.2) := by
  unfold qf_X11_wire_J34
  exact (fr_X11_wire_J35 h)
theorem fr_X11_wire_J30 {N : Nat} {i1 i2 i3 : Int} {M M0 : qm} (h : Fg 159075295048171365324537462784 M0 M) : qP (qf_X11_wire_J30 N i1 i2 i3 M) (fun r => Fg 159075295048171365324537462784 M0 r.2) := by
  unfold qf_X11_wire_J30
  exact (fr_X11_wire_J35 h)
theorem fr_X11_wire {N : Nat} {i1 i2 i3 : Int} {M M0 : qm} (h : Fg 159075295048171365324537462784 M0 M) : qP (qf_X11_wire N i1 i2 i3 M) (fun r => Fg 159075295048171365324537462784 M0 r.2) := by
  unfold qf_X11_wire
  refine qP_pure (fun r1 => ?_)
  refine qP_ite ?_ ?_
  · exact (fr_X11_wire_J34 h)
  · refine qP_pure (fun r2 => ?_)
    refine qP_ite ?_ ?_
    · exact (fr_X11_wire_J34 h)
    · refine qP_ite ?_ ?_
      · exact (fr_X11_wire_J30 h)
      · refine qP_pure (fun r3 => ?_)
        refine qP_ite ?_ ?_
        · exact (fr_X11_wire_J34 h)
        · exact (fr_X11_wire_J30 h)
theorem fr_L_wire {N : Nat} {i1 i2 i3 : Int} {M M0 : qm} (h : Fg 165263992197562149737978827008192759957101170741070304821162198818601447809077836456297302610087896506945974371580377038848 M0 M) : qP (qf_L_wire N i1 i2 i3 M) (fun r => Fg 165263992197562149737978827008192759957101170741070304821162198818601447809077836456297302610087896506945974371580377038848 M0 r.2) := by
  unfold qf_L_wire
  refine qP_bind (fr_X11_wire Fg_refl) (fun r1 k1 => ?_)
  have h1 := Fg_tr h (Fg_mono k1 rfl)
  obtain ⟨x1, m1⟩ := r1
  rcases x1 with x1 | x1
  · have h1 : Fg _ _ m1 := h1
    refine qP_bnd (m0 := _) (Fg_wa (k := 406) h1 rfl rfl) (fun M2 h2 => ?_)
    exact qP_some h2
  · have h1 : Fg _ _ m1 := h1
    refine qP_ite ?_ ?_
    · exact qP_some h1
    · refine qP_ite ?_ ?_
      · exact qP_some h1
      · exact qP_none
theorem fr_X18_wire_J47 {N : Nat} {i1 i2 i3 t1 : Int} {M M0 : qm} (h : Fg 509258994083621521567111422102344540262868559918121393561953316023428041223853832478392320 M0 M) : qP (qf_X18_wire_J47 N i1 i2 i3 t1 M) (fun r => Fg 509258994083621521567111422102344540262868559918121393561953316023428041223853832478392320 M0 r.2) := by
  unfold qf_X18_wire_J47
  refine qP_bind (fr_X18_goes Fg_refl) (fun r1 k1 => ?_)
  have h1 := Fg_tr h (Fg_mono k1 rfl)
  refine qP_ite ?_ ?_
  · exact qP_some h1
  · refine qP_ite ?_ ?_
    · refine qP_ite ?_ ?_
      · refine qP_bnd (m0 := _) (Fg_wa (k := 298) h1 rfl rfl) (fun M2 h2 => ?_)
        exact qP_some h2
      · exact qP_none
    · exact qP_none
theorem fr_X18_wire_J46 {N : Nat} {i1 i2 i3 : Int} {M M0 : qm} (h : Fg 509258994083621521567111422102344540262868559918121393561953316023428041223853832478392320 M0 M) : qP (qf_X18_wire_J46 N i1 i2 i3 M) (fun r => Fg 509258994083621521567111422102344540262868559918121393561953316023428041223853832478392320 M0 r.2) := by
  unfold qf_X18_wire_J46
  exact (fr_X18_wire_J47 h)
theorem fr_X18_wire_J42 {N : Nat} {i1 i2 i3 : Int} {M M0 : qm} (h : Fg 509258994083621521567111422102344540262868559918121393561953316023428041223853832478392320 M0 M) : qP (qf_X18_wire_J42 N i1 i2 i3 M) (fun r => Fg 509258994083621521567111422102344540262868559918121393561953316023428041223853832478392320 M0 r.2) := by
  unfold qf_X18_wire_J42
  exact (fr_X18_wire_J47 h)
theorem fr_X18_wire {N : Nat} {i1 i2 i3 : Int} {M M0 : qm} (h : Fg 509258994083621521567111422102344540262868559918121393561953316023428041223853832478392320 M0 M) : qP (qf_X18_wire N i1 i2 i3 M) (fun r => Fg 509258994083621521567111422102344540262868559918121393561953316023428041223853832478392320 M0 r.2) := by
  unfold qf_X18_wire
  refine qP_pure (fun r1 => ?_)
  refine qP_ite ?_ ?_
  · exact (fr_X18_wire_J46 h)
  · refine qP_pure (fun r2 => ?_)
    refine qP_ite ?_ ?_
    · exact (fr_X18_wire_J46 h)
    · refine qP_ite ?_ ?_
      · exact (fr_X18_wire_J42 h)
      · refine qP_pure (fun r3 => ?_)
        refine qP_ite ?_ ?_
        · exact (fr_X18_wire_J46 h)
        · exact (fr_X18_wire_J42 h)
theorem fr_X11_numbers {N : Nat} {i1 i2 i3 : Int} {M M0 : qm} (h : Fg 59421121885698253195157962752 M0 M) : qP (qf_X11_numbers N i1 i2 i3 M) (fun r => Fg 59421121885698253195157962752 M0 r.2) := by
  unfold qf_X11_numbers
  refine qP_pure (fun r1 => ?_)
  refine qP_pure (fun r2 => ?_)
  rcases r2 with x3 | x3
  · refine qP_pure (fun r4 => ?_)
    rcases r4 with x5 | x5
    · refine qP_ite ?_ ?_
      · refine qP_bnd (m0 := _) (Fg_wa (k := 94) h rfl rfl) (fun M6 h6 => ?_)
        refine qP_ite ?_ ?_
        · refine qP_bnd (m0 := _) (Fg_wa (k := 95) h6 rfl rfl) (fun M7 h7 => ?_)
          exact qP_some h7
        · exact qP_none
      · exact qP_none
    · exact qP_some h
  · exact qP_some h
theorem fr_L_numbers {N : Nat} {i1 i2 i3 : Int} {M M0 : qm} (h : Fg 59421121885698253195157962752 M0 M) : qP (qf_L_numbers N i1 i2 i3 M) (fun r => Fg 59421121885698253195157962752 M0 r.2) := by
  unfold qf_L_numbers
  refine qP_bind (fr_X11_numbers Fg_refl) (fun r1 k1 => ?_)
  have h1 := Fg_tr h (Fg_mono k1 rfl)
  obtain ⟨x1, m1⟩ := r1
  rcases x1 with x1 | x1
  · have h1 : Fg _ _ m1 := h1
    exact qP_some h1
  · have h1 : Fg _ _ m1 := h1
    refine qP_ite ?_ ?_
    · exact qP_some h1
    · refine qP_ite ?_ ?_
      · exact qP_some h1
      · exact qP_none
theorem fr_X18_numbers {N : Nat} {i1 i2 i3 : Int} {M M0 : qm} (h : Fg 190972122781358070587666783288379202598576623407818854400056370811805963135832472137236480 M0 M) : qP (qf_X18_numbers N i1 i2 i3 M) (fun r => Fg 190972122781358070587666783288379202598576623407818854400056370811805963135832472137236480 M0 r.2) := by
  unfold qf_X18_numbers
  refine qP_pure (fun r1 => ?_)
  refine qP_bind (fr_X18_goes Fg_refl) (fun r2 k2 => ?_)
  have h2 := Fg_tr h (Fg_mono k2 rfl)
  refine qP_ite ?_ ?_
  · exact qP_some h2
  · refine qP_ite ?_ ?_
    · refine qP_bnd (m0 := _) (Fg_wa (k := 295) h2 rfl rfl) (fun M3 h3 => ?_)
      refine qP_ite ?_ ?_
      · refine qP_bnd (m0 := _) (Fg_wa (k := 296) h3 rfl rfl) (fun M4 h4 => ?_)
        exact qP_some h4
      · exact qP_none
    · exact qP_none
theorem fr_X11_row_J52 {N : Nat} {i1 i2 i3 t0 : Int} {M M0 : qm} (h : Fg 1267650600228229401496703205376 M0 M) : qP (qf_X11_row_J52 N i1 i2 i3 t0 M) (fun r => Fg 1267650600228229401496703205376 M0 r.2) := by
  unfold qf_X11_row_J52
  refine qP_pure (fun r1 => ?_)
  rcases r1 with x2 | x2
  · refine qP_ite ?_ ?_
    · refine qP_ite ?_ ?_
      · refine qP_ite ?_ ?_
        · refine qP_ite ?_ ?_
          · refine qP_bnd (m0 := _) (Fg_wa (k := 100) h rfl rfl) (fun M3 h3 => ?_)
            exact qP_some h3
          · exact qP_none
        · exact qP_none
      · exact qP_none
    · exact qP_none
  · exact qP_some h
theorem fr_X11_row_J51 {N : Nat} {i1 i2 i3 : Int} {M M0 : qm} (h : Fg 1267650600228229401496703205376 M0 M) : qP (qf_X11_row_J51 N i1 i2 i3 M) (fun r => Fg 1267650600228229401496703205376 M0 r.2) := by
  unfold qf_X11_row_J51
  exact (fr_X11_row_J52 h)
theorem fr_X11_row_J23 {N : Nat} {i1 i2 i3 t0 : Int} {M M0 : qm} (h : Fg 1267650600228229401496703205376 M0 M) : qP (qf_X11_row_J23 N i1 i2 i3 t0 M) (fun r => Fg 1267650600228229401496703205376 M0 r.2) := by
  unfold qf_X11_row_J23
  refine qP_pure (fun r1 => ?_)
  rcases r1 with x2 | x2
  · refine qP_ite ?_ ?_
    · exact (fr_X11_row_J51 h)
    · refine qP_ite ?_ ?_
      · refine qP_ite ?_ ?_
        · exact (fr_X11_row_J52 h)
        · exact (fr_X11_row_J51 h)
      · exact qP_none
  · exact qP_some h
theorem fr_X11_row_J22 {N : Nat} {i1 i2 i3 : Int} {M M0 : qm} (h : Fg 1267650600228229401496703205376 M0 M) : qP (qf_X11_row_J22 N i1 i2 i3 M) (fun r => Fg 1267650600228229401496703205376 M0 r.2) := by
  unfold qf_X11_row_J22
  exact (fr_X11_row_J23 h)
theorem fr_X11_row {N : Nat} {i1 i2 i3 : Int} {M M0 : qm} (h : Fg 1267650600228229401496703205376 M0 M) : qP (qf_X11_row N i1 i2 i3 M) (fun r => Fg 1267650600228229401496703205376 M0 r.2) := by
  unfold qf_X11_row
  refine qP_pure (fun r1 => ?_)
  refine qP_ite ?_ ?_
  · exact (fr_X11_row_J22 h)
  · refine qP_pure (fun r2 => ?_)
    refine qP_ite ?_ ?_
    · exact (fr_X11_row_J22 h)
    · exact (fr_X11_row_J23 h)
theorem fr_L_row {N : Nat} {i1 i2 i3 : Int} {M M0 : qm} (h : Fg 165263992197562149737978827008192759957101170741070304821162198818601447809077836456297302611196471812126032407752542781440 M0 M) : qP (qf_L_row N i1 i2 i3 M) (fun r => Fg 165263992197562149737978827008192759957101170741070304821162198818601447809077836456297302611196471812126032407752542781440 M0 r.2) := by
  unfold qf_L_row
  refine qP_bind (fr_X11_row Fg_refl) (fun r1 k1 => ?_)
  have h1 := Fg_tr h (Fg_mono k1 rfl)
  obtain ⟨x1, m1⟩ := r1
  rcases x1 with x1 | x1
  · have h1 : Fg _ _ m1 := h1
    refine qP_bnd (m0 := _) (Fg_wa (k := 406) h1 rfl rfl) (fun M2 h2 => ?_)
    exact qP_some h2
  · have h1 : Fg _ _ m1 := h1
    refine qP_ite ?_ ?_
    · exact qP_some h1
    · refine qP_ite ?_ ?_
      · exact qP_some h1
      · exact qP_none
theorem fr_X18_row_J64 {N : Nat} {i1 i2 i3 t1 t2 : Int} {M M0 : qm} (h : Fg 1018517988167243043134222844204689080525735658334605456220988428362023366164688009024241664 M0 M) : qP (qf_X18_row_J64 N i1 i2 i3 t1 t2 M) (fun r => Fg 1018517988167243043134222844204689080525735658334605456220988428362023366164688009024241664 M0 r.2) := by
  unfold qf_X18_row_J64
  refine qP_bind (fr_X18_goes Fg_refl) (fun r1 k1 => ?_)
  have h1 := Fg_tr h (Fg_mono k1 rfl)
  refine qP_ite ?_ ?_
  · exact qP_some h1
  · refine qP_ite ?_ ?_
    · refine qP_ite ?_ ?_
      · refine qP_bnd (m0 := _) (Fg_wa (k := 299) h1 rfl rfl) (fun M2 h2 => ?_)
        exact qP_some h2
      · exact qP_none
    · exact qP_none
theorem fr_X18_row_J63 {N : Nat} {i1 i2 i3 t1 : Int} {M M0 : qm} (h : Fg 1018517988167243043134222844204689080525735658334605456220988428362023366164688009024241664 M0 M) : qP (qf_X18_row_J63 N i1 i2 i3 t1 M) (fun r => Fg 1018517988167243043134222844204689080525735658334605456220988428362023366164688009024241664 M0 r.2) := by
  unfold qf_X18_row_J63
  exact (fr_X18_row_J64 h)
theorem fr_X18_row_J59 {N : Nat} {i1 i2 i3 t1 : Int} {M M0 : qm} (h : Fg 1018517988167243043134222844204689080525735658334605456220988428362023366164688009024241664 M0 M) : qP (qf_X18_row_J59 N i1 i2 i3 t1 M) (fun r => Fg 1018517988167243043134222844204689080525735658334605456220988428362023366164688009024241664 M0 r.2) := by
  unfold qf_X18_row_J59
  exact (fr_X18_row_J64 h)
theorem fr_X18_row_J28 {N : Nat} {i1 i2 i3 t0 : Int} {M M0 : qm} (h : Fg 1018517988167243043134222844204689080525735658334605456220988428362023366164688009024241664 M0 M) : qP (qf_X18_row_J28 N i1 i2 i3 t0 M) (fun r => Fg 1018517988167243043134222844204689080525735658334605456220988428362023366164688009024241664 M0 r.2) := by
  unfold qf_X18_row_J28
  refine qP_ite ?_ ?_
  · exact (fr_X18_row_J63 h)
  · refine qP_ite ?_ ?_
    · exact (fr_X18_row_J59 h)
    · refine qP_ite ?_ ?_
      · refine qP_ite ?_ ?_
        · exact (fr_X18_row_J59 h)
        · exact (fr_X18_row_J63 h)
      · exact qP_none
theorem fr_X18_row_J27 {N : Nat} {i1 i2 i3 : Int} {M M0 : qm} (h : Fg 1018517988167243043134222844204689080525735658334605456220988428362023366164688009024241664 M0 M) : qP (qf_X18_row_J27 N i1 i2 i3 M) (fun r => Fg 1018517988167243043134222844204689080525735658334605456220988428362023366164688009024241664 M0 r.2) := by
  unfold qf_X18_row_J27
  exact (fr_X18_row_J28 h)
theorem fr_X18_row {N : Nat} {i1 i2 i3 : Int} {M M0 : qm} (h : Fg 1018517988167243043134222844204689080525735658334605456220988428362023366164688009024241664 M0 M) : qP (qf_X18_row N i1 i2 i3 M) (fun r => Fg 1018517988167243043134222844204689080525735658334605456220988428362023366164688009024241664 M0 r.2) := by
  unfold qf_X18_row
  refine qP_pure (fun r1 => ?_)
  refine qP_ite ?_ ?_
  · exact (fr_X18_row_J27 h)
  · refine qP_pure (fun r2 => ?_)
    refine qP_ite ?_ ?_
    · exact (fr_X18_row_J27 h)
    · exact (fr_X18_row_J28 h)
theorem fr_X11_safe {N : Nat} {i1 i2 : Int} {M M0 : qm} (h : Fg 79228162514264337593543950336 M0 M) : qP (qf_X11_safe N i1 i2 M) (fun r => Fg 79228162514264337593543950336 M0 r.2) := by
  unfold qf_X11_safe
  refine qP_pure (fun r1 => ?_)
  refine qP_pure (fun r2 => ?_)
  rcases r2 with x3 | x3
  · refine qP_pure (fun r4 => ?_)
    rcases r4 with x5 | x5
    · refine qP_ite ?_ ?_
      · refine qP_ite ?_ ?_
        · refine qP_bnd (m0 := _) (Fg_wa (k := 96) h rfl rfl) (fun M6 h6 => ?_)
          exact qP_some h6
        · exact qP_none
      · exact qP_none
    · exact qP_some h
  · exact qP_some h
theorem fr_L_safe {N : Nat} {i1 i2 : Int} {M M0 : qm} (h : Fg 165263992197562149737978827008192759957101170741070304821162198818601447809077836456297302610008049374412067343849383526400 M0 M) : qP (qf_L_safe N i1 i2 M) (fun r => Fg 165263992197562149737978827008192759957101170741070304821162198818601447809077836456297302610008049374412067343849383526400 M0 r.2) := by
  unfold qf_L_safe
  refine qP_bind (fr_X11_safe Fg_refl) (fun r1 k1 => ?_)
  have h1 := Fg_tr h (Fg_mono k1 rfl)
  obtain ⟨x1, m1⟩ := r1
  rcases x1 with x1 | x1
  · have h1 : Fg _ _ m1 := h1
    refine qP_bnd (m0 := _) (Fg_wa (k := 406) h1 rfl rfl) (fun M2 h2 => ?_)
    exact qP_some h2
  · have h1 : Fg _ _ m1 := h1
    refine qP_ite ?_ ?_
    · exact qP_some h1
    · refine qP_ite ?_ ?_
      · exact qP_some h1
      · exact qP_none
theorem fr_X18_safe {N : Nat} {i1 i2 : Int} {M M0 : qm} (h : Fg 254629497041810760783555711051172270131435010709879362232435759854130378753436744205467648 M0 M) : qP (qf_X18_safe N i1 i2 M) (fun r => Fg 254629497041810760783555711051172270131435010709879362232435759854130378753436744205467648 M0 r.2) := by
  unfold qf_X18_safe
  refine qP_pure (fun r1 => ?_)
  refine qP_bind (fr_X18_goes Fg_refl) (fun r2 k2 => ?_)
  have h2 := Fg_tr h (Fg_mono k2 rfl)
  refine qP_ite ?_ ?_
  · exact qP_some h2
  · refine qP_ite ?_ ?_
    · refine qP_ite ?_ ?_
      · refine qP_bnd (m0 := _) (Fg_wa (k := 297) h2 rfl rfl) (fun M3 h3 => ?_)
        exact qP_some h3
      · exact qP_none
    · exact qP_none
theorem fr_X18_hand {N : Nat} {i1 i2 i3 : Int} {M M0 : qm} (h : Fg 48888863432027666070442696521825075865235242909484107346170288988189983910603100604334080000 M0 M) : qP (qf_X18_hand N i1 i2 i3 M) (fun r => Fg 48888863432027666070442696521825075865235242909484107346170288988189983910603100604334080000 M0 r.2) := by
  unfold qf_X18_hand
  refine qP_pure (fun r1 => ?_)
  refine qP_bind (fr_X18_goes Fg_refl) (fun r2 k2 => ?_)
  have h2 := Fg_tr h (Fg_mono k2 rfl)
  refine qP_ite ?_ ?_
  · exact qP_some h2
  · refine qP_ite ?_ ?_
    · refine qP_ite ?_ ?_
      · refine qP_bnd (m0 := _) (Fg_wa (k := 303) h2 rfl rfl) (fun M3 h3 => ?_)
        refine qP_ite ?_ ?_
        · refine qP_bnd (m0 := _) (Fg_wa (k := 304) h3 rfl rfl) (fun M4 h4 => ?_)
          refine qP_ite ?_ ?_
          · exact qP_some h4
          · exact qP_none
        · exact qP_none
      · exact qP_none
    · exact qP_none
theorem fr_X11_hand {N : Nat} {i1 i2 i3 : Int} {M M0 : qm} (h : Fg 7605903601369376408980219232256 M0 M) : qP (qf_X11_hand N i1 i2 i3 M) (fun r => Fg 7605903601369376408980219232256 M0 r.2) := by
  unfold qf_X11_hand
  refine qP_pure (fun r1 => ?_)
  refine qP_pure (fun r2 => ?_)
  rcases r2 with x3 | x3
  · refine qP_pure (fun r4 => ?_)
    rcases r4 with x5 | x5
    · refine qP_ite ?_ ?_
      · refine qP_ite ?_ ?_
        · refine qP_bnd (m0 := _) (Fg_wa (k := 101) h rfl rfl) (fun M6 h6 => ?_)
          refine qP_ite ?_ ?_
          · refine qP_bnd (m0 := _) (Fg_wa (k := 102) h6 rfl rfl) (fun M7 h7 => ?_)
            refine qP_ite ?_ ?_
            · exact qP_some h7
            · exact qP_none
          · exact qP_none
        · exact qP_none
      · exact qP_none
    · exact qP_some h
  · exact qP_some h
theorem fr_L_hand_J18 {N : Nat} {t1 t2 : Int} {M M0 : qm} (h : Fg 165263992197562149737978827008192759957101170741070304821162198818601447809077836456297302617534724813267179415236058808320 M0 M) : qP (qf_L_hand_J18 N t1 t2 M) (fun r => Fg 165263992197562149737978827008192759957101170741070304821162198818601447809077836456297302617534724813267179415236058808320 M0 r.2) := by
  unfold qf_L_hand_J18
  refine qP_ite ?_ ?_
  · refine qP_bnd (m0 := _) (Fg_wa (k := 406) h rfl rfl) (fun M1 h1 => ?_)
    exact qP_some h1
  · exact qP_none
theorem fr_L_hand {N : Nat} {i1 i2 i3 : Int} {M M0 : qm} (h : Fg 165263992197562149737978827008192759957101170741070304821162198818601447809077836456297302617534724813267179415236058808320 M0 M) : qP (qf_L_hand N i1 i2 i3 M) (fun r => Fg 165263992197562149737978827008192759957101170741070304821162198818601447809077836456297302617534724813267179415236058808320 M0 r.2) := by
  unfold qf_L_hand
  refine qP_bind (fr_X11_hand Fg_refl) (fun r1 k1 => ?_)
  have h1 := Fg_tr h (Fg_mono k1 rfl)
  obtain ⟨x1, m1⟩ := r1
  rcases x1 with x1 | x1
  · have h1 : Fg _ _ m1 := h1
    refine qP_ite ?_ ?_
    · exact (fr_L_hand_J18 h1)
    · exact (fr_L_hand_J18 h1)
  · have h1 : Fg _ _ m1 := h1
    refine qP_ite ?_ ?_
    · exact qP_some h1
    · refine qP_ite ?_ ?_
      · exact qP_some h1
      · exact qP_none
theorem fr_X11_bind_J23 {N : Nat} {i1 i2 t0 : Int} {M M0 : qm} (h : Fg 10141204801825835211973625643008 M0 M) : qP (qf_X11_bind_J23 N i1 i2 t0 M) (fun r => Fg 10141204801825835211973625643008 M0 r.2) := by
  unfold qf_X11_bind_J23
  refine qP_pure (fun r1 => ?_)
  rcases r1 with x2 | x2
  · refine qP_pure (fun r3 => ?_)
    rcases r3 with x4 | x4
    · refine qP_ite ?_ ?_
      · refine qP_ite ?_ ?_
        · refine qP_bnd (m0 := _) (Fg_wa (k := 103) h rfl rfl) (fun M5 h5 => ?_)
          exact qP_some h5
        · exact qP_none
      · exact qP_none
    · exact qP_some h
  · exact qP_some h
theorem fr_X11_bind_J22 {N : Nat} {i1 i2 : Int} {M M0 : qm} (h : Fg 10141204801825835211973625643008 M0 M) : qP (qf_X11_bind_J22 N i1 i2 M) (fun r => Fg 10141204801825835211973625643008 M0 r.2) := by
  unfold qf_X11_bind_J22
  exact (fr_X11_bind_J23 h)
theorem fr_X11_bind {N : Nat} {i1 i2 : Int} {M M0 : qm} (h : Fg 10141204801825835211973625643008 M0 M) : qP (qf_X11_bind N i1 i2 M) (fun r => Fg 10141204801825835211973625643008 M0 r.2) := by
  unfold qf_X11_bind
  refine qP_pure (fun r1 => ?_)
  refine qP_ite ?_ ?_
  · exact (fr_X11_bind_J22 h)
  · refine qP_pure (fun r2 => ?_)
    refine qP_ite ?_ ?_
    · exact (fr_X11_bind_J22 h)
    · exact (fr_X11_bind_J23 h)
theorem fr_L_bind {N : Nat} {i1 i2 : Int} {M M0 : qm} (h : Fg 165263992197562149737978827008192759957101170741070304821162198818601447809077836456297302620070026013723638218229465219072 M0 M) : qP (qf_L_bind N i1 i2 M) (fun r => Fg 165263992197562149737978827008192759957101170741070304821162198818601447809077836456297302620070026013723638218229465219072 M0 r.2) := by
  unfold qf_L_bind
  refine qP_bind (fr_X11_bind Fg_refl) (fun r1 k1 => ?_)
  have h1 := Fg_tr h (Fg_mono k1 rfl)
  obtain ⟨x1, m1⟩ := r1
  rcases x1 with x1 | x1
  · have h1 : Fg _ _ m1 := h1
    refine qP_bnd (m0 := _) (Fg_wa (k := 406) h1 rfl rfl) (fun M2 h2 => ?_)
    exact qP_some h2
  · have h1 : Fg _ _ m1 := h1
    refine qP_ite ?_ ?_
    · exact qP_some h1
    · refine qP_ite ?_ ?_
      · exact qP_some h1
      · exact qP_none
theorem fr_X18_bind_J31 {N : Nat} {i1 i2 t1 : Int} {M M0 : qm} (h : Fg 130370302485407109521180524058200202307293978656121557371615906962365235901136568851669975040 M0 M) : qP (qf_X18_bind_J31 N i1 i2 t1 M) (fun r => Fg 130370302485407109521180524058200202307293978656121557371615906962365235901136568851669975040 M0 r.2) := by
  unfold qf_X18_bind_J31
  refine qP_bind (fr_X18_goes Fg_refl) (fun r1 k1 => ?_)
  have h1 := Fg_tr h (Fg_mono k1 rfl)
  refine qP_ite ?_ ?_
  · exact qP_some h1
  · refine qP_ite ?_ ?_
    · refine qP_ite ?_ ?_
      · refine qP_bnd (m0 := _) (Fg_wa (k := 306) h1 rfl rfl) (fun M2 h2 => ?_)
        exact qP_some h2
      · exact qP_none
    · exact qP_none
theorem fr_X18_bind_J30 {N : Nat} {i1 i2 : Int} {M M0 : qm} (h : Fg 130370302485407109521180524058200202307293978656121557371615906962365235901136568851669975040 M0 M) : qP (qf_X18_bind_J30 N i1 i2 M) (fun r => Fg 130370302485407109521180524058200202307293978656121557371615906962365235901136568851669975040 M0 r.2) := by
  unfold qf_X18_bind_J30
  exact (fr_X18_bind_J31 h)
theorem fr_X18_bind {N : Nat} {i1 i2 : Int} {M M0 : qm} (h : Fg 130370302485407109521180524058200202307293978656121557371615906962365235901136568851669975040 M0 M) : qP (qf_X18_bind N i1 i2 M) (fun r => Fg 130370302485407109521180524058200202307293978656121557371615906962365235901136568851669975040 M0 r.2) := by
  unfold qf_X18_bind
  refine qP_pure (fun r1 => ?_)
  refine qP_ite ?_ ?_
  · exact (fr_X18_bind_J30 h)
  · refine qP_ite ?_ ?_
    · exact (fr_X18_bind_J30 h)
    · refine qP_ite ?_ ?_
      · exact (fr_X18_bind_J30 h)
      · exact (fr_X18_bind_J31 h)
theorem fr_X11_point {N : Nat} {i1 i2 : Int} {M M0 : qm} (h : Fg 20282409603651670423947251286016 M0 M) : qP (qf_X11_point N i1 i2 M) (fun r => Fg 20282409603651670423947251286016 M0 r.2) := by
  unfold qf_X11_point
  refine qP_pure (fun r1 => ?_)
  refine qP_pure (fun r2 => ?_)
  rcases r2 with x3 | x3
  · refine qP_pure (fun r4 => ?_)
    rcases r4 with x5 | x5
    · refine qP_ite ?_ ?_
      · refine qP_ite ?_ ?_
        · refine qP_bnd (m0 := _) (Fg_wa (k := 104) h rfl rfl) (fun M6 h6 => ?_)
          exact qP_some h6
        · exact qP_none
      · exact qP_none
    · exact qP_some h
  · exact qP_some h
theorem fr_L_point {N : Nat} {i1 i2 : Int} {M M0 : qm} (h : Fg 165263992197562149737978827008192759957101170741070304821162198818601447809077836456297302630211230815549473430203090862080 M0 M) : qP (qf_L_point N i1 i2 M) (fun r => Fg 165263992197562149737978827008192759957101170741070304821162198818601447809077836456297302630211230815549473430203090862080 M0 r.2) := by
  unfold qf_L_point
  refine qP_bind (fr_X11_point Fg_refl) (fun r1 k1 => ?_)
  have h1 := Fg_tr h (Fg_mono k1 rfl)
  obtain ⟨x1, m1⟩ := r1
  rcases x1 with x1 | x1
  · have h1 : Fg _ _ m1 := h1
    refine qP_bnd (m0 := _) (Fg_wa (k := 406) h1 rfl rfl) (fun M2 h2 => ?_)
    exact qP_some h2
  · have h1 : Fg _ _ m1 := h1
    refine qP_ite ?_ ?_
    · exact qP_some h1
    · refine qP_ite ?_ ?_
      · exact qP_some h1
      · exact qP_none
theorem fr_X18_point_J17 {N : Nat} {i1 i2 t1 : Int} {M M0 : qm} (h : Fg 65185151242703554760590262029100101153646990058811597351259412583025034308709794253801259008 M0 M) : qP (qf_X18_point_J17 N i1 i2 t1 M) (fun r => Fg 65185151242703554760590262029100101153646990058811597351259412583025034308709794253801259008 M0 r.2) := by
  unfold qf_X18_point_J17
  refine qP_bind (fr_X18_goes Fg_refl) (fun r1 k1 => ?_)
  have h1 := Fg_tr h (Fg_mono k1 rfl)
  refine qP_ite ?_ ?_
  · exact qP_some h1
  · refine qP_ite ?_ ?_
    · refine qP_ite ?_ ?_
      · refine qP_bnd (m0 := _) (Fg_wa (k := 305) h1 rfl rfl) (fun M2 h2 => ?_)
        exact qP_some h2
      · exact qP_none
    · exact qP_none
theorem fr_X18_point_J16 {N : Nat} {i1 i2 : Int} {M M0 : qm} (h : Fg 65185151242703554760590262029100101153646990058811597351259412583025034308709794253801259008 M0 M) : qP (qf_X18_point_J16 N i1 i2 M) (fun r => Fg 65185151242703554760590262029100101153646990058811597351259412583025034308709794253801259008 M0 r.2) := by
  unfold qf_X18_point_J16
  exact (fr_X18_point_J17 h)
theorem fr_X18_point {N : Nat} {i1 i2 : Int} {M M0 : qm} (h : Fg 65185151242703554760590262029100101153646990058811597351259412583025034308709794253801259008 M0 M) : qP (qf_X18_point N i1 i2 M) (fun r => Fg 65185151242703554760590262029100101153646990058811597351259412583025034308709794253801259008 M0 r.2) := by
  unfold qf_X18_point
  refine qP_ite ?_ ?_
  · exact (fr_X18_point_J16 h)
  · refine qP_ite ?_ ?_
    · exact (fr_X18_point_J16 h)
    · exact (fr_X18_point_J17 h)
theorem fr_L_pointAt {N : Nat} {i1 : Int} {M M0 : qm} (h : Fg 165263992197562149737978827008192759957101170741070304821162198818601447809077836456297302609928821211897803006255839576064 M0 M) : qP (qf_L_pointAt N i1 M) (fun r => Fg 165263992197562149737978827008192759957101170741070304821162198818601447809077836456297302609928821211897803006255839576064 M0 r.2) := by
  unfold qf_L_pointAt
  refine qP_pure (fun r1 => ?_)
  rcases r1 with x2 | x2
  · refine qP_bnd (m0 := _) (Fg_wa (k := 406) h rfl rfl) (fun M3 h3 => ?_)
    exact qP_some h3
  · refine qP_ite ?_ ?_
    · exact qP_some h
    · refine qP_ite ?_ ?_
      · exact qP_some h
      · exact qP_none
theorem fr_X18_pointAt {N : Nat} {i1 : Int} {M M0 : qm} (h : Fg 1461501637330902918203684832716283019655932542976 M0 M) : qP (qf_X18_pointAt N i1 M) (fun r => Fg 1461501637330902918203684832716283019655932542976 M0 r.2) := by
  unfold qf_X18_pointAt
  refine qP_pure (fun r1 => ?_)
  refine qP_bind (fr_X18_goes Fg_refl) (fun r2 k2 => ?_)
  have h2 := Fg_tr h (Fg_mono k2 rfl)
  refine qP_ite ?_ ?_
  · exact qP_some h2
  · refine qP_ite ?_ ?_
    · exact qP_some h2
    · exact qP_none
theorem fr_X9_place {N : Nat} {i1 i2 : Int} {M M0 : qm} (h : Fg 121694457621910022543683507716096 M0 M) : qP (qf_X9_place N i1 i2 M) (fun r => Fg 121694457621910022543683507716096 M0 r.2) := by
  unfold qf_X9_place
  refine qP_ite ?_ ?_
  · refine qP_bnd (m0 := _) (Fg_wa (k := 106) h rfl rfl) (fun M1 h1 => ?_)
    refine qP_ite ?_ ?_
    · refine qP_bnd (m0 := _) (Fg_wa (k := 105) h1 rfl rfl) (fun M2 h2 => ?_)
      exact qP_some h2
    · exact qP_none
  · exact qP_none
theorem fr_X9_sortBlocks_L23_b {N : Nat} {i1 : Int} {M M0 : qm} (h : Fg 121696314531968950614095856402432 M0 M) : qP (qf_X9_sortBlocks_L23_b N i1 M) (pU (pU (fun r => Fg 121696314531968950614095856402432 M0 r.2) (fun r => Fg 121696314531968950614095856402432 M0 r.2)) (fun r => Fg 121696314531968950614095856402432 M0 r.2)) := by
  unfold qf_X9_sortBlocks_L23_b
  refine qP_ite ?_ ?_
  · exact qP_some h
  · refine qP_pure (fun r1 => ?_)
    refine qP_ite ?_ ?_
    · exact qP_some h
    · refine qP_bind (fr_X9_place Fg_refl) (fun r2 k2 => ?_)
      have h2 := Fg_tr h (Fg_mono k2 rfl)
      refine qP_bnd (m0 := _) (Fg_w h2 rfl) (fun M3 h3 => ?_)
      exact qP_some h3
theorem fr_X9_sortBlocks_L23 (n : Nat) {N : Nat} {i1 : Int} {M M0 : qm} (h : Fg 121696314531968950614095856402432 M0 M) : qP (qf_X9_sortBlocks_L23 N n i1 M) (pU (fun r => Fg 121696314531968950614095856402432 M0 r.2) (fun r => Fg 121696314531968950614095856402432 M0 r.2)) := by
  unfold qf_X9_sortBlocks_L23
  exact qP_loop (I := fun s => Fg 121696314531968950614095856402432 M0 s.2) (fun s hs => fr_X9_sortBlocks_L23_b hs) n _ h
theorem fr_X9_sortBlocks_L73_b {N : Nat} {i1 i2 : Int} {M M0 : qm} (h : Fg 121696314531968950614095856402432 M0 M) : qP (qf_X9_sortBlocks_L73_b N i1 i2 M) (pU (pU (fun r => Fg 121696314531968950614095856402432 M0 r.2) (fun r => Fg 121696314531968950614095856402432 M0 r.2)) (fun r => Fg 121696314531968950614095856402432 M0 r.2.2)) := by
  unfold qf_X9_sortBlocks_L73_b
  refine qP_ite ?_ ?_
  · exact qP_some h
  · refine qP_ite ?_ ?_
    · refine qP_ite ?_ ?_
      · refine qP_bind (fr_X9_place Fg_refl) (fun r1 k1 => ?_)
        have h1 := Fg_tr h (Fg_mono k1 rfl)
        exact qP_some h1
      · exact qP_some h
    · exact qP_none
theorem fr_X9_sortBlocks_L73 (n : Nat) {N : Nat} {i1 i2 : Int} {M M0 : qm} (h : Fg 121696314531968950614095856402432 M0 M) : qP (qf_X9_sortBlocks_L73 N n i1 i2 M) (pU (fun r => Fg 121696314531968950614095856402432 M0 r.2) (fun r => Fg 121696314531968950614095856402432 M0 r.2)) := by
  unfold qf_X9_sortBlocks_L73
  exact qP_loop (I := fun s => Fg 121696314531968950614095856402432 M0 s.2.2) (fun s hs => fr_X9_sortBlocks_L73_b hs) n _ h
theorem fr_X9_sortBlocks {N : Nat} {M M0 : qm} (h : Fg 121696314531968950614095856402432 M0 M) : qP (qf_X9_sortBlocks N M) (fun r => Fg 121696314531968950614095856402432 M0 r.2) := by
  unfold qf_X9_sortBlocks
  refine qP_ite ?_ ?_
  · refine qP_bnd (m0 := _) (Fg_f1 (k := 106) h (fun _ => rfl) rfl) (fun M1 h1 => ?_)
    refine qP_bnd (m0 := _) (Fg_w h1 rfl) (fun M2 h2 => ?_)
    refine qP_bind (fr_X9_sortBlocks_L23 _ h2) (fun r3 k3 => ?_)
    rcases r3 with x3 | x3
    · exact qP_some k3
    · obtain ⟨y3_0, y3_1⟩ := x3
      have h3 : Fg _ _ y3_1 := k3
      refine qP_bind (fr_X9_sortBlocks_L73 _ h3) (fun r4 k4 => ?_)
      rcases r4 with x4 | x4
      · exact qP_some k4
      · obtain ⟨y4_0, y4_1⟩ := x4
        have h4 : Fg _ _ y4_1 := k4
        refine qP_bnd (m0 := _) (Fg_w h4 rfl) (fun M5 h5 => ?_)
        exact qP_some h5
  · exact qP_some h
theorem fr_X11_order {N : Nat} {M M0 : qm} (h : Fg 121696314531968950614095856402432 M0 M) : qP (qf_X11_order N M) (fun r => Fg 121696314531968950614095856402432 M0 r.2) := by
  unfold qf_X11_order
  refine qP_pure (fun r1 => ?_)
  rcases r1 with x2 | x2
  · refine qP_bind (fr_X9_sortBlocks Fg_refl) (fun r3 k3 => ?_)
    have h3 := Fg_tr h (Fg_mono k3 rfl)
    exact qP_some h3
  · exact qP_some h
theorem fr_L_order {N : Nat} {M M0 : qm} (h : Fg 165263992197562149737978827008192759957101170741070304821162198818601447809077836456297302731625135743866753620351695978496 M0 M) : qP (qf_L_order N M) (fun r => Fg 165263992197562149737978827008192759957101170741070304821162198818601447809077836456297302731625135743866753620351695978496 M0 r.2) := by
  unfold qf_L_order
  refine qP_bind (fr_X11_order Fg_refl) (fun r1 k1 => ?_)
  have h1 := Fg_tr h (Fg_mono k1 rfl)
  obtain ⟨x1, m1⟩ := r1
  rcases x1 with x1 | x1
  · have h1 : Fg _ _ m1 := h1
    refine qP_bnd (m0 := _) (Fg_wa (k := 406) h1 rfl rfl) (fun M2 h2 => ?_)
    exact qP_some h2
  · have h1 : Fg _ _ m1 := h1
    refine qP_ite ?_ ?_
    · exact qP_some h1
    · exact qP_none
theorem fr_X17_sort_L2_b {N : Nat} {i1 : Int} {M M0 : qm} (h : Fg 782221814912442657127083144349201213843763863167719520244277932552082419109121295174424592384 M0 M) : qP (qf_X17_sort_L2_b N i1 M) (pU (pU (fun r => Fg 782221814912442657127083144349201213843763863167719520244277932552082419109121295174424592384 M0 r.2) (fun r => Fg 782221814912442657127083144349201213843763863167719520244277932552082419109121295174424592384 M0 r.2)) (fun r => Fg 782221814912442657127083144349201213843763863167719520244277932552082419109121295174424592384 M0 r.2)) := by
  unfold qf_X17_sort_L2_b
  refine qP_ite ?_ ?_
  · exact qP_some h
  · refine qP_ite ?_ ?_
    · refine qP_bnd (m0 := _) (Fg_wa (k := 308) h rfl rfl) (fun M1 h1 => ?_)
      exact qP_some h1
    · exact qP_none
theorem fr_X17_sort_L2 (n : Nat) {N : Nat} {i1 : Int} {M M0 : qm} (h : Fg 782221814912442657127083144349201213843763863167719520244277932552082419109121295174424592384 M0 M) : qP (qf_X17_sort_L2 N n i1 M) (pU (fun r => Fg 782221814912442657127083144349201213843763863167719520244277932552082419109121295174424592384 M0 r.2) (fun r => Fg 782221814912442657127083144349201213843763863167719520244277932552082419109121295174424592384 M0 r.2)) := by
  unfold qf_X17_sort_L2
  exact qP_loop (I := fun s => Fg 782221814912442657127083144349201213843763863167719520244277932552082419109121295174424592384 M0 s.2) (fun s hs => fr_X17_sort_L2_b hs) n _ h
theorem fr_X17_sort_J87 {N : Nat} {i1 i3 t0 : Int} {M M0 : qm} (h : Fg 782221814912442657127083144349201213843763863167719520244277932552082419109121295174424592384 M0 M) : qP (qf_X17_sort_J87 N i1 i3 t0 M) (pU (pU (fun r => Fg 782221814912442657127083144349201213843763863167719520244277932552082419109121295174424592384 M0 r.2) (fun r => Fg 782221814912442657127083144349201213843763863167719520244277932552082419109121295174424592384 M0 r.2)) (fun r => Fg 782221814912442657127083144349201213843763863167719520244277932552082419109121295174424592384 M0 r.2.2)) := by
  unfold qf_X17_sort_J87
  refine qP_ite ?_ ?_
  · exact qP_some h
  · refine qP_ite ?_ ?_
    · refine qP_bnd (m0 := _) (Fg_wa (k := 308) h rfl rfl) (fun M1 h1 => ?_)
      refine qP_ite ?_ ?_
      · refine qP_bnd (m0 := _) (Fg_wa (k := 307) h1 rfl rfl) (fun M2 h2 => ?_)
        exact qP_some h2
      · exact qP_none
    · exact qP_none
theorem fr_X17_sort_L27_b {N : Nat} {i1 i2 : Int} {M M0 : qm} (h : Fg 782221814912442657127083144349201213843763863167719520244277932552082419109121295174424592384 M0 M) : qP (qf_X17_sort_L27_b N i1 i2 M) (pU (pU (fun r => Fg 782221814912442657127083144349201213843763863167719520244277932552082419109121295174424592384 M0 r.2) (fun r => Fg 782221814912442657127083144349201213843763863167719520244277932552082419109121295174424592384 M0 r.2)) (fun r => Fg 782221814912442657127083144349201213843763863167719520244277932552082419109121295174424592384 M0 r.2.2)) := by
  unfold qf_X17_sort_L27_b
  refine qP_ite ?_ ?_
  · exact qP_some h
  · refine qP_pure (fun r1 => ?_)
    rcases r1 with x2 | x2
    · exact qP_some h
    · refine qP_ite ?_ ?_
      · exact (fr_X17_sort_J87 h)
      · exact (fr_X17_sort_J87 h)
theorem fr_X17_sort_L27 (n : Nat) {N : Nat} {i1 i2 : Int} {M M0 : qm} (h : Fg 782221814912442657127083144349201213843763863167719520244277932552082419109121295174424592384 M0 M) : qP (qf_X17_sort_L27 N n i1 i2 M) (pU (fun r => Fg 782221814912442657127083144349201213843763863167719520244277932552082419109121295174424592384 M0 r.2) (fun r => Fg 782221814912442657127083144349201213843763863167719520244277932552082419109121295174424592384 M0 r.2)) := by
  unfold qf_X17_sort_L27
  exact qP_loop (I := fun s => Fg 782221814912442657127083144349201213843763863167719520244277932552082419109121295174424592384 M0 s.2.2) (fun s hs => fr_X17_sort_L27_b hs) n _ h
theorem fr_X17_sort_L117_b {N : Nat} {i1 i3 i4 : Int} {M M0 : qm} (h : Fg 782221814912442657127083144349201213843763863167719520244277932552082419109121295174424592384 M0 M) : qP (qf_X17_sort_L117_b N i1 i3 i4 M) (pU (pU (fun r => Fg 782221814912442657127083144349201213843763863167719520244277932552082419109121295174424592384 M0 r.2) (fun r => Fg 782221814912442657127083144349201213843763863167719520244277932552082419109121295174424592384 M0 r.2)) (fun r => Fg 782221814912442657127083144349201213843763863167719520244277932552082419109121295174424592384 M0 r.2.2.2)) := by
  unfold qf_X17_sort_L117_b
  refine qP_ite ?_ ?_
  · exact qP_some h
  · refine qP_ite ?_ ?_
    · refine qP_ite ?_ ?_
      · refine qP_ite ?_ ?_
        · refine qP_bnd (m0 := _) (Fg_wa (k := 307) h rfl rfl) (fun M1 h1 => ?_)
          exact qP_some h1
        · exact qP_none
      · exact qP_some h
    · exact qP_none
theorem fr_X17_sort_L117 (n : Nat) {N : Nat} {i1 i3 i4 : Int} {M M0 : qm} (h : Fg 782221814912442657127083144349201213843763863167719520244277932552082419109121295174424592384 M0 M) : qP (qf_X17_sort_L117 N n i1 i3 i4 M) (pU (fun r => Fg 782221814912442657127083144349201213843763863167719520244277932552082419109121295174424592384 M0 r.2) (fun r => Fg 782221814912442657127083144349201213843763863167719520244277932552082419109121295174424592384 M0 r.2)) := by
  unfold qf_X17_sort_L117
  exact qP_loop (I := fun s => Fg 782221814912442657127083144349201213843763863167719520244277932552082419109121295174424592384 M0 s.2.2.2) (fun s hs => fr_X17_sort_L117_b hs) n _ h
theorem fr_X17_sort {N : Nat} {M M0 : qm} (h : Fg 782221814912442657127083144349201213843763863167719520244277932552082419109121295174424592384 M0 M) : qP (qf_X17_sort N M) (fun r => Fg 782221814912442657127083144349201213843763863167719520244277932552082419109121295174424592384 M0 r.2) := by
  unfold qf_X17_sort
  refine qP_bind (fr_X17_sort_L2 _ h) (fun r1 k1 => ?_)
  rcases r1 with x1 | x1
  · exact qP_some k1
  · obtain ⟨y1_0, y1_1⟩ := x1
    have h1 : Fg _ _ y1_1 := k1
    refine qP_bind (fr_X17_sort_L27 _ h1) (fun r2 k2 => ?_)
    rcases r2 with x2 | x2
    · exact qP_some k2
    · obtain ⟨y2_0, y2_1⟩ := x2
      have h2 : Fg _ _ y2_1 := k2
      refine qP_bind (fr_X17_sort_L117 _ h2) (fun r3 k3 => ?_)
      rcases r3 with x3 | x3
      · exact qP_some k3
      · obtain ⟨y3_0, y3_1⟩ := x3
        have h3 : Fg _ _ y3_1 := k3
        exact qP_some h3
theorem fr_X18_order {N : Nat} {M M0 : qm} (h : Fg 782221814912442657127083144349201213843763864629221157575180850755767251825404314830357135360 M0 M) : qP (qf_X18_order N M) (fun r => Fg 782221814912442657127083144349201213843763864629221157575180850755767251825404314830357135360 M0 r.2) := by
  unfold qf_X18_order
  refine qP_bind (fr_X18_stays Fg_refl) (fun r1 k1 => ?_)
  have h1 := Fg_tr h (Fg_mono k1 rfl)
  refine qP_ite ?_ ?_
  · exact qP_some h1
  · refine qP_bind (fr_X17_sort Fg_refl) (fun r2 k2 => ?_)
    have h2 := Fg_tr h1 (Fg_mono k2 rfl)
    exact qP_some h2
theorem fr_X9_blockFact {N : Nat} {i1 i2 : Int} {M M0 : qm} (h : Fg 121696314531968950614095856402432 M0 M) : qP (qf_X9_blockFact N i1 i2 M) (fun r => Fg 121696314531968950614095856402432 M0 r.2) := by
  unfold qf_X9_blockFact
  refine qP_ite ?_ ?_
  · refine qP_ite ?_ ?_
    · exact qP_some h
    · exact qP_none
  · refine qP_ite ?_ ?_
    · refine qP_ite ?_ ?_
      · exact qP_some h
      · exact qP_none
    · refine qP_ite ?_ ?_
      · refine qP_ite ?_ ?_
        · exact qP_some h
        · exact qP_none
      · refine qP_bind (fr_X9_sortBlocks Fg_refl) (fun r1 k1 => ?_)
        have h1 := Fg_tr h (Fg_mono k1 rfl)
        refine qP_ite ?_ ?_
        · exact qP_some h1
        · exact qP_none
theorem fr_X11_out_J22 {N : Nat} {i1 i2 t0 : Int} {M M0 : qm} (h : Fg 121696314531968950614095856402432 M0 M) : qP (qf_X11_out_J22 N i1 i2 t0 M) (fun r => Fg 121696314531968950614095856402432 M0 r.2) := by
  unfold qf_X11_out_J22
  refine qP_pure (fun r1 => ?_)
  rcases r1 with x2 | x2
  · refine qP_pure (fun r3 => ?_)
    rcases r3 with x4 | x4
    · refine qP_bind (fr_X9_blockFact Fg_refl) (fun r5 k5 => ?_)
      have h5 := Fg_tr h (Fg_mono k5 rfl)
      exact qP_some h5
    · exact qP_some h
  · exact qP_some h
theorem fr_X11_out_J21 {N : Nat} {i1 i2 : Int} {M M0 : qm} (h : Fg 121696314531968950614095856402432 M0 M) : qP (qf_X11_out_J21 N i1 i2 M) (fun r => Fg 121696314531968950614095856402432 M0 r.2) := by
  unfold qf_X11_out_J21
  exact (fr_X11_out_J22 h)
theorem fr_X11_out {N : Nat} {i1 i2 : Int} {M M0 : qm} (h : Fg 121696314531968950614095856402432 M0 M) : qP (qf_X11_out N i1 i2 M) (fun r => Fg 121696314531968950614095856402432 M0 r.2) := by
  unfold qf_X11_out
  refine qP_pure (fun r1 => ?_)
  refine qP_ite ?_ ?_
  · exact (fr_X11_out_J21 h)
  · refine qP_pure (fun r2 => ?_)
    refine qP_ite ?_ ?_
    · exact (fr_X11_out_J21 h)
    · exact (fr_X11_out_J22 h)
theorem fr_L_out {N : Nat} {i1 i2 : Int} {M M0 : qm} (h : Fg 165263992197562149737978827008192759957101170741070304821162198818601447809077836456297302731625135743866753620351695978496 M0 M) : qP (qf_L_out N i1 i2 M) (fun r => Fg 165263992197562149737978827008192759957101170741070304821162198818601447809077836456297302731625135743866753620351695978496 M0 r.2) := by
  unfold qf_L_out
  refine qP_bind (fr_X11_out Fg_refl) (fun r1 k1 => ?_)
  have h1 := Fg_tr h (Fg_mono k1 rfl)
  obtain ⟨x1, m1⟩ := r1
  rcases x1 with x1 | x1
  · have h1 : Fg _ _ m1 := h1
    refine qP_bnd (m0 := _) (Fg_wa (k := 406) h1 rfl rfl) (fun M2 h2 => ?_)
    exact qP_some h2
  · have h1 : Fg _ _ m1 := h1
    refine qP_ite ?_ ?_
    · exact qP_some h1
    · refine qP_ite ?_ ?_
      · exact qP_some h1
      · exact qP_none
theorem fr_X17_place {N : Nat} {i1 : Int} {M M0 : qm} (h : Fg 782221814912442657127083144349201213843763863167719520244277932552082419109121295174424592384 M0 M) : qP (qf_X17_place N i1 M) (fun r => Fg 782221814912442657127083144349201213843763863167719520244277932552082419109121295174424592384 M0 r.2) := by
  unfold qf_X17_place
  refine qP_bind (fr_X17_sort Fg_refl) (fun r1 k1 => ?_)
  have h1 := Fg_tr h (Fg_mono k1 rfl)
  refine qP_pure (fun r2 => ?_)
  rcases r2 with x3 | x3
  · exact qP_some h1
  · exact qP_some h1
theorem fr_X18_out_J28 {N : Nat} {i1 i2 t1 : Int} {M M0 : qm} (h : Fg 782221814912442657127083144349201213843763864629221157575180850755767251825404314830357135360 M0 M) : qP (qf_X18_out_J28 N i1 i2 t1 M) (fun r => Fg 782221814912442657127083144349201213843763864629221157575180850755767251825404314830357135360 M0 r.2) := by
  unfold qf_X18_out_J28
  refine qP_bind (fr_X18_goes Fg_refl) (fun r1 k1 => ?_)
  have h1 := Fg_tr h (Fg_mono k1 rfl)
  refine qP_ite ?_ ?_
  · exact qP_some h1
  · refine qP_ite ?_ ?_
    · refine qP_ite ?_ ?_
      · exact qP_some h1
      · exact qP_none
    · refine qP_ite ?_ ?_
      · refine qP_ite ?_ ?_
        · exact qP_some h1
        · exact qP_none
      · refine qP_ite ?_ ?_
        · refine qP_ite ?_ ?_
          · exact qP_some h1
          · exact qP_none
        · refine qP_bind (fr_X17_place Fg_refl) (fun r2 k2 => ?_)
          have h2 := Fg_tr h1 (Fg_mono k2 rfl)
          exact qP_some h2
theorem fr_X18_out_J27 {N : Nat} {i1 i2 : Int} {M M0 : qm} (h : Fg 782221814912442657127083144349201213843763864629221157575180850755767251825404314830357135360 M0 M) : qP (qf_X18_out_J27 N i1 i2 M) (fun r => Fg 782221814912442657127083144349201213843763864629221157575180850755767251825404314830357135360 M0 r.2) := by
  unfold qf_X18_out_J27
  exact (fr_X18_out_J28 h)
theorem fr_X18_out {N : Nat} {i1 i2 : Int} {M M0 : qm} (h : Fg 782221814912442657127083144349201213843763864629221157575180850755767251825404314830357135360 M0 M) : qP (qf_X18_out N i1 i2 M) (fun r => Fg 782221814912442657127083144349201213843763864629221157575180850755767251825404314830357135360 M0 r.2) := by
  unfold qf_X18_out
  refine qP_pure (fun r1 => ?_)
  refine qP_ite ?_ ?_
  · exact (fr_X18_out_J27 h)
  · refine qP_pure (fun r2 => ?_)
    refine qP_ite ?_ ?_
    · exact (fr_X18_out_J27 h)
    · exact (fr_X18_out_J28 h)
theorem fr_L_failed {N : Nat} {i1 : Int} {M M0 : qm} (h : Fg 165263992197562149737978827008192759957101170741070304821162198818601447809077836456297302609928821211897803006255839576064 M0 M) : qP (qf_L_failed N i1 M) (fun r => Fg 165263992197562149737978827008192759957101170741070304821162198818601447809077836456297302609928821211897803006255839576064 M0 r.2) := by
  unfold qf_L_failed
  refine qP_pure (fun r1 => ?_)
  rcases r1 with x2 | x2
  · refine qP_bnd (m0 := _) (Fg_wa (k := 406) h rfl rfl) (fun M3 h3 => ?_)
    exact qP_some h3
  · refine qP_ite ?_ ?_
    · exact qP_some h
    · refine qP_ite ?_ ?_
      · exact qP_some h
      · exact qP_none
theorem fr_X18_failed {N : Nat} {i1 : Int} {M M0 : qm} (h : Fg 1461501637330902918203684832716283019655932542976 M0 M) : qP (qf_X18_failed N i1 M) (fun r => Fg 1461501637330902918203684832716283019655932542976 M0 r.2) := by
  unfold qf_X18_failed
  refine qP_pure (fun r1 => ?_)
  refine qP_bind (fr_X18_goes Fg_refl) (fun r2 k2 => ?_)
  have h2 := Fg_tr h (Fg_mono k2 rfl)
  refine qP_ite ?_ ?_
  · exact qP_some h2
  · refine qP_ite ?_ ?_
    · exact qP_some h2
    · exact qP_none
theorem fr_X1_setAddress {N : Nat} {i1 i2 : Int} {M M0 : qm} (h : Fg 664613997892457936451903530140172288 M0 M) : qP (qf_X1_setAddress N i1 i2 M) (fun r => Fg 664613997892457936451903530140172288 M0 r.2) := by
  unfold qf_X1_setAddress
  refine qP_ite ?_ ?_
  · refine qP_ite ?_ ?_
    · refine qP_bnd (m0 := _) (Fg_wa (k := 119) h rfl rfl) (fun M1 h1 => ?_)
      exact qP_some h1
    · exact qP_none
  · exact qP_none
theorem fr_X11_address_J23 {N : Nat} {i1 i2 t0 : Int} {M M0 : qm} (h : Fg 664613997892457936451903530140172288 M0 M) : qP (qf_X11_address_J23 N i1 i2 t0 M) (fun r => Fg 664613997892457936451903530140172288 M0 r.2) := by
  unfold qf_X11_address_J23
  refine qP_pure (fun r1 => ?_)
  rcases r1 with x2 | x2
  · refine qP_pure (fun r3 => ?_)
    rcases r3 with x4 | x4
    · refine qP_bind (fr_X1_setAddress Fg_refl) (fun r5 k5 => ?_)
      have h5 := Fg_tr h (Fg_mono k5 rfl)
      exact qP_some h5
    · exact qP_some h
  · exact qP_some h
theorem fr_X11_address_J22 {N : Nat} {i1 i2 : Int} {M M0 : qm} (h : Fg 664613997892457936451903530140172288 M0 M) : qP (qf_X11_address_J22 N i1 i2 M) (fun r => Fg 664613997892457936451903530140172288 M0 r.2) := by
  unfold qf_X11_address_J22
  exact (fr_X11_address_J23 h)
theorem fr_X11_address {N : Nat} {i1 i2 : Int} {M M0 : qm} (h : Fg 664613997892457936451903530140172288 M0 M) : qP (qf_X11_address N i1 i2 M) (fun r => Fg 664613997892457936451903530140172288 M0 r.2) := by
  unfold qf_X11_address
  refine qP_pure (fun r1 => ?_)
  refine qP_ite ?_ ?_
  · exact (fr_X11_address_J22 h)
  · refine qP_pure (fun r2 => ?_)
    refine qP_ite ?_ ?_
    · exact (fr_X11_address_J22 h)
    · exact (fr_X11_address_J23 h)
theorem fr_L_address {N : Nat} {i1 i2 : Int} {M M0 : qm} (h : Fg 165263992197562149737978827008192759957101170741070304821162198818601447809077836456297967223926713669834254909785979748352 M0 M) : qP (qf_L_address N i1 i2 M) (fun r => Fg 165263992197562149737978827008192759957101170741070304821162198818601447809077836456297967223926713669834254909785979748352 M0 r.2) := by
  unfold qf_L_address
  refine qP_bind (fr_X11_address Fg_refl) (fun r1 k1 => ?_)
  have h1 := Fg_tr h (Fg_mono k1 rfl)
  obtain ⟨x1, m1⟩ := r1
  rcases x1 with x1 | x1
  · have h1 : Fg _ _ m1 := h1
    refine qP_bnd (m0 := _) (Fg_wa (k := 406) h1 rfl rfl) (fun M2 h2 => ?_)
    exact qP_some h2
  · have h1 : Fg _ _ m1 := h1
    refine qP_ite ?_ ?_
    · exact qP_some h1
    · refine qP_ite ?_ ?_
      · exact qP_some h1
      · exact qP_none
theorem fr_X18_address_J25 {N : Nat} {i1 i2 t1 : Int} {M M0 : qm} (h : Fg 34175792574734561318320347298712833833643272357707905820789996628073719297322965083387049323528192 M0 M) : qP (qf_X18_address_J25 N i1 i2 t1 M) (fun r => Fg 34175792574734561318320347298712833833643272357707905820789996628073719297322965083387049323528192 M0 r.2) := by
  unfold qf_X18_address_J25
  refine qP_bind (fr_X18_goes Fg_refl) (fun r1 k1 => ?_)
  have h1 := Fg_tr h (Fg_mono k1 rfl)
  refine qP_ite ?_ ?_
  · exact qP_some h1
  · refine qP_ite ?_ ?_
    · refine qP_ite ?_ ?_
      · refine qP_bnd (m0 := _) (Fg_wa (k := 324) h1 rfl rfl) (fun M2 h2 => ?_)
        exact qP_some h2
      · exact qP_none
    · exact qP_none
theorem fr_X18_address_J24 {N : Nat} {i1 i2 : Int} {M M0 : qm} (h : Fg 34175792574734561318320347298712833833643272357707905820789996628073719297322965083387049323528192 M0 M) : qP (qf_X18_address_J24 N i1 i2 M) (fun r => Fg 34175792574734561318320347298712833833643272357707905820789996628073719297322965083387049323528192 M0 r.2) := by
  unfold qf_X18_address_J24
  exact (fr_X18_address_J25 h)
theorem fr_X18_address {N : Nat} {i1 i2 : Int} {M M0 : qm} (h : Fg 34175792574734561318320347298712833833643272357707905820789996628073719297322965083387049323528192 M0 M) : qP (qf_X18_address N i1 i2 M) (fun r => Fg 34175792574734561318320347298712833833643272357707905820789996628073719297322965083387049323528192 M0 r.2) := by
  unfold qf_X18_address
  refine qP_pure (fun r1 => ?_)
  refine qP_ite ?_ ?_
  · exact (fr_X18_address_J24 h)
  · refine qP_pure (fun r2 => ?_)
    refine qP_ite ?_ ?_
    · exact (fr_X18_address_J24 h)
    · exact (fr_X18_address_J25 h)
theorem fr_X18_listen_J25 {N : Nat} {i1 i2 i3 t1 : Int} {M M0 : qm} (h : Fg 68351585149469122636640694597425667667286544715414350139942662353229234909813213883754442714513408 M0 M) : qP (qf_X18_listen_J25 N i1 i2 i3 t1 M) (fun r => Fg 68351585149469122636640694597425667667286544715414350139942662353229234909813213883754442714513408 M0 r.2) := by
  unfold qf_X18_listen_J25
  refine qP_bind (fr_X18_goes Fg_refl) (fun r1 k1 => ?_)
  have h1 := Fg_tr h (Fg_mono k1 rfl)
  refine qP_ite ?_ ?_
  · exact qP_some h1
  · refine qP_ite ?_ ?_
    · refine qP_ite ?_ ?_
      · refine qP_bnd (m0 := _) (Fg_wa (k := 325) h1 rfl rfl) (fun M2 h2 => ?_)
        refine qP_ite ?_ ?_
        · exact qP_some h2
        · exact qP_none
      · exact qP_none
    · exact qP_none
theorem fr_X18_listen_J24 {N : Nat} {i1 i2 i3 : Int} {M M0 : qm} (h : Fg 68351585149469122636640694597425667667286544715414350139942662353229234909813213883754442714513408 M0 M) : qP (qf_X18_listen_J24 N i1 i2 i3 M) (fun r => Fg 68351585149469122636640694597425667667286544715414350139942662353229234909813213883754442714513408 M0 r.2) := by
  unfold qf_X18_listen_J24
  exact (fr_X18_listen_J25 h)
theorem fr_X18_listen {N : Nat} {i1 i2 i3 : Int} {M M0 : qm} (h : Fg 68351585149469122636640694597425667667286544715414350139942662353229234909813213883754442714513408 M0 M) : qP (qf_X18_listen N i1 i2 i3 M) (fun r => Fg 68351585149469122636640694597425667667286544715414350139942662353229234909813213883754442714513408 M0 r.2) := by
  unfold qf_X18_listen
  refine qP_pure (fun r1 => ?_)
  refine qP_ite ?_ ?_
  · exact (fr_X18_listen_J24 h)
  · refine qP_pure (fun r2 => ?_)
    refine qP_ite ?_ ?_
    · exact (fr_X18_listen_J24 h)
    · exact (fr_X18_listen_J25 h)
theorem fr_X1_setListening {N : Nat} {i1 i2 i3 : Int} {M M0 : qm} (h : Fg 5316911983139663491615228241121378304 M0 M) : qP (qf_X1_setListening N i1 i2 i3 M) (fun r => Fg 5316911983139663491615228241121378304 M0 r.2) := by
  unfold qf_X1_setListening
  refine qP_ite ?_ ?_
  · refine qP_ite ?_ ?_
    · refine qP_bnd (m0 := _) (Fg_wa (k := 122) h rfl rfl) (fun M1 h1 => ?_)
      refine qP_ite ?_ ?_
      · exact qP_some h1
      · exact qP_none
    · exact qP_none
  · exact qP_none
theorem fr_X11_listen_J23 {N : Nat} {i1 i2 i3 t0 : Int} {M M0 : qm} (h : Fg 5316911983139663491615228241121378304 M0 M) : qP (qf_X11_listen_J23 N i1 i2 i3 t0 M) (fun r => Fg 5316911983139663491615228241121378304 M0 r.2) := by
  unfold qf_X11_listen_J23
  refine qP_pure (fun r1 => ?_)
  rcases r1 with x2 | x2
  · refine qP_pure (fun r3 => ?_)
    rcases r3 with x4 | x4
    · refine qP_bind (fr_X1_setListening Fg_refl) (fun r5 k5 => ?_)
      have h5 := Fg_tr h (Fg_mono k5 rfl)
      refine qP_ite ?_ ?_
      · exact qP_some h5
      · exact qP_none
    · exact qP_some h
  · exact qP_some h
theorem fr_X11_listen_J22 {N : Nat} {i1 i2 i3 : Int} {M M0 : qm} (h : Fg 5316911983139663491615228241121378304 M0 M) : qP (qf_X11_listen_J22 N i1 i2 i3 M) (fun r => Fg 5316911983139663491615228241121378304 M0 r.2) := by
  unfold qf_X11_listen_J22
  exact (fr_X11_listen_J23 h)
theorem fr_X11_listen {N : Nat} {i1 i2 i3 : Int} {M M0 : qm} (h : Fg 5316911983139663491615228241121378304 M0 M) : qP (qf_X11_listen N i1 i2 i3 M) (fun r => Fg 5316911983139663491615228241121378304 M0 r.2) := by
  unfold qf_X11_listen
  refine qP_pure (fun r1 => ?_)
  refine qP_ite ?_ ?_
  · exact (fr_X11_listen_J22 h)
  · refine qP_pure (fun r2 => ?_)
    refine qP_ite ?_ ?_
    · exact (fr_X11_listen_J22 h)
    · exact (fr_X11_listen_J23 h)
theorem fr_L_listen_J18 {N : Nat} {t1 t2 : Int} {M M0 : qm} (h : Fg 165263992197562149737978827008192759957101170741070304821162198818601447809077836456302619521911960875389418234496960954368 M0 M) : qP (qf_L_listen_J18 N t1 t2 M) (fun r => Fg 165263992197562149737978827008192759957101170741070304821162198818601447809077836456302619521911960875389418234496960954368 M0 r.2) := by
  unfold qf_L_listen_J18
  refine qP_ite ?_ ?_
  · refine qP_bnd (m0 := _) (Fg_wa (k := 406) h rfl rfl) (fun M1 h1 => ?_)
    exact qP_some h1
  · exact qP_none
theorem fr_L_listen {N : Nat} {i1 i2 i3 : Int} {M M0 : qm} (h : Fg 165263992197562149737978827008192759957101170741070304821162198818601447809077836456302619521911960875389418234496960954368 M0 M) : qP (qf_L_listen N i1 i2 i3 M) (fun r => Fg 165263992197562149737978827008192759957101170741070304821162198818601447809077836456302619521911960875389418234496960954368 M0 r.2) := by
  unfold qf_L_listen
  refine qP_bind (fr_X11_listen Fg_refl) (fun r1 k1 => ?_)
  have h1 := Fg_tr h (Fg_mono k1 rfl)
  obtain ⟨x1, m1⟩ := r1
  rcases x1 with x1 | x1
  · have h1 : Fg _ _ m1 := h1
    refine qP_ite ?_ ?_
    · exact (fr_L_listen_J18 h1)
    · exact (fr_L_listen_J18 h1)
  · have h1 : Fg _ _ m1 := h1
    refine qP_ite ?_ ?_
    · exact qP_some h1
    · refine qP_ite ?_ ?_
      · exact qP_some h1
      · exact qP_none
theorem fr_X18_busy {N : Nat} {i1 i2 : Int} {M M0 : qm} (h : Fg 136703170298938245273281389194851335334573089430827238778247993803540266134793711484489229496483840 M0 M) : qP (qf_X18_busy N i1 i2 M) (fun r => Fg 136703170298938245273281389194851335334573089430827238778247993803540266134793711484489229496483840 M0 r.2) := by
  unfold qf_X18_busy
  refine qP_pure (fun r1 => ?_)
  refine qP_bind (fr_X18_goes Fg_refl) (fun r2 k2 => ?_)
  have h2 := Fg_tr h (Fg_mono k2 rfl)
  refine qP_ite ?_ ?_
  · exact qP_some h2
  · refine qP_ite ?_ ?_
    · refine qP_ite ?_ ?_
      · refine qP_bnd (m0 := _) (Fg_wa (k := 326) h2 rfl rfl) (fun M3 h3 => ?_)
        refine qP_ite ?_ ?_
        · exact qP_some h3
        · exact qP_none
      · exact qP_none
    · exact qP_none
theorem fr_X1_setBusy_J17 {N : Nat} {i1 i2 t0 : Int} {M M0 : qm} (h : Fg 664613997892457936451903530140172288 M0 M) : qP (qf_X1_setBusy_J17 N i1 i2 t0 M) (fun r => Fg 664613997892457936451903530140172288 M0 r.2) := by
  unfold qf_X1_setBusy_J17
  refine qP_ite ?_ ?_
  · refine qP_ite ?_ ?_
    · refine qP_bnd (m0 := _) (Fg_wa (k := 119) h rfl rfl) (fun M1 h1 => ?_)
      refine qP_ite ?_ ?_
      · exact qP_some h1
      · exact qP_none
    · refine qP_bnd (m0 := _) (Fg_wa (k := 119) h rfl rfl) (fun M2 h2 => ?_)
      refine qP_ite ?_ ?_
      · exact qP_some h2
      · exact qP_none
  · exact qP_none
theorem fr_X1_setBusy {N : Nat} {i1 i2 : Int} {M M0 : qm} (h : Fg 664613997892457936451903530140172288 M0 M) : qP (qf_X1_setBusy N i1 i2 M) (fun r => Fg 664613997892457936451903530140172288 M0 r.2) := by
  unfold qf_X1_setBusy
  refine qP_ite ?_ ?_
  · refine qP_ite ?_ ?_
    · exact (fr_X1_setBusy_J17 h)
    · exact (fr_X1_setBusy_J17 h)
  · exact qP_none
theorem fr_X11_busy {N : Nat} {i1 i2 : Int} {M M0 : qm} (h : Fg 664613997892457936451903530140172288 M0 M) : qP (qf_X11_busy N i1 i2 M) (fun r => Fg 664613997892457936451903530140172288 M0 r.2) := by
  unfold qf_X11_busy
  refine qP_pure (fun r1 => ?_)
  refine qP_pure (fun r2 => ?_)
  rcases r2 with x3 | x3
  · refine qP_pure (fun r4 => ?_)
    rcases r4 with x5 | x5
    · refine qP_bind (fr_X1_setBusy Fg_refl) (fun r6 k6 => ?_)
      have h6 := Fg_tr h (Fg_mono k6 rfl)
      refine qP_ite ?_ ?_
      · exact qP_some h6
      · exact qP_none
    · exact qP_some h
  · exact qP_some h
theorem fr_L_busy_J16 {N : Nat} {t1 t2 : Int} {M M0 : qm} (h : Fg 165263992197562149737978827008192759957101170741070304821162198818601447809077836456297967223926713669834254909785979748352 M0 M) : qP (qf_L_busy_J16 N t1 t2 M) (fun r => Fg 165263992197562149737978827008192759957101170741070304821162198818601447809077836456297967223926713669834254909785979748352 M0 r.2) := by
  unfold qf_L_busy_J16
  refine qP_ite ?_ ?_
  · refine qP_bnd (m0 := _) (Fg_wa (k := 406) h rfl rfl) (fun M1 h1 => ?_)
    exact qP_some h1
  · exact qP_none
theorem fr_L_busy {N : Nat} {i1 i2 : Int} {M M0 : qm} (h : Fg 165263992197562149737978827008192759957101170741070304821162198818601447809077836456297967223926713669834254909785979748352 M0 M) : qP (qf_L_busy N i1 i2 M) (fun r => Fg 165263992197562149737978827008192759957101170741070304821162198818601447809077836456297967223926713669834254909785979748352 M0 r.2) := by
  unfold qf_L_busy
  refine qP_bind (fr_X11_busy Fg_refl) (fun r1 k1 => ?_)
  have h1 := Fg_tr h (Fg_mono k1 rfl)
  obtain ⟨x1, m1⟩ := r1
  rcases x1 with x1 | x1
  · have h1 : Fg _ _ m1 := h1
    refine qP_ite ?_ ?_
    · exact (fr_L_busy_J16 h1)
    · exact (fr_L_busy_J16 h1)
  · have h1 : Fg _ _ m1 := h1
    refine qP_ite ?_ ?_
    · exact qP_some h1
    · refine qP_ite ?_ ?_
      · exact qP_some h1
      · exact qP_none
theorem fr_X18_send_J103 {N : Nat} {i1 i2 i3 i4 i5 i6 t1 t2 : Int} {M M0 : qm} (h : Fg 820219021793629471639688335169108012007438536584956125161301308306650578384598687491837097316188160 M0 M) : qP (qf_X18_send_J103 N i1 i2 i3 i4 i5 i6 t1 t2 M) (fun r => Fg 820219021793629471639688335169108012007438536584956125161301308306650578384598687491837097316188160 M0 r.2) := by
  unfold qf_X18_send_J103
  refine qP_bind (fr_X18_goes Fg_refl) (fun r1 k1 => ?_)
  have h1 := Fg_tr h (Fg_mono k1 rfl)
  refine qP_ite ?_ ?_
  · exact qP_some h1
  · refine qP_bind (fr_X12_send Fg_refl) (fun r2 k2 => ?_)
    have h2 := Fg_tr h1 (Fg_mono k2 rfl)
    exact qP_some h2
theorem fr_X18_send_J102 {N : Nat} {i1 i2 i3 i4 i5 i6 t1 : Int} {M M0 : qm} (h : Fg 820219021793629471639688335169108012007438536584956125161301308306650578384598687491837097316188160 M0 M) : qP (qf_X18_send_J102 N i1 i2 i3 i4 i5 i6 t1 M) (fun r => Fg 820219021793629471639688335169108012007438536584956125161301308306650578384598687491837097316188160 M0 r.2) := by
  unfold qf_X18_send_J102
  exact (fr_X18_send_J103 h)
theorem fr_X18_send_J98 {N : Nat} {i1 i2 i3 i4 i5 i6 t1 : Int} {M M0 : qm} (h : Fg 820219021793629471639688335169108012007438536584956125161301308306650578384598687491837097316188160 M0 M) : qP (qf_X18_send_J98 N i1 i2 i3 i4 i5 i6 t1 M) (fun r => Fg 820219021793629471639688335169108012007438536584956125161301308306650578384598687491837097316188160 M0 r.2) := by
  unfold qf_X18_send_J98
  exact (fr_X18_send_J103 h)
theorem fr_X18_send_J67 {N : Nat} {i1 i2 i3 i4 i5 i6 t0 : Int} {M M0 : qm} (h : Fg 820219021793629471639688335169108012007438536584956125161301308306650578384598687491837097316188160 M0 M) : qP (qf_X18_send_J67 N i1 i2 i3 i4 i5 i6 t0 M) (fun r => Fg 820219021793629471639688335169108012007438536584956125161301308306650578384598687491837097316188160 M0 r.2) := by
  unfold qf_X18_send_J67
  refine qP_ite ?_ ?_
  · exact (fr_X18_send_J102 h)
  · refine qP_ite ?_ ?_
    · exact (fr_X18_send_J98 h)
    · refine qP_ite ?_ ?_
      · refine qP_ite ?_ ?_
        · exact (fr_X18_send_J102 h)
        · exact (fr_X18_send_J98 h)
      · exact qP_none
theorem fr_X18_send_J66 {N : Nat} {i1 i2 i3 i4 i5 i6 : Int} {M M0 : qm} (h : Fg 820219021793629471639688335169108012007438536584956125161301308306650578384598687491837097316188160 M0 M) : qP (qf_X18_send_J66 N i1 i2 i3 i4 i5 i6 M) (fun r => Fg 820219021793629471639688335169108012007438536584956125161301308306650578384598687491837097316188160 M0 r.2) := by
  unfold qf_X18_send_J66
  exact (fr_X18_send_J67 h)
theorem fr_X18_send_J32 {N : Nat} {i1 i2 i3 i4 i5 i6 t0 t1 : Int} {M M0 : qm} (h : Fg 820219021793629471639688335169108012007438536584956125161301308306650578384598687491837097316188160 M0 M) : qP (qf_X18_send_J32 N i1 i2 i3 i4 i5 i6 t0 t1 M) (fun r => Fg 820219021793629471639688335169108012007438536584956125161301308306650578384598687491837097316188160 M0 r.2) := by
  unfold qf_X18_send_J32
  refine qP_pure (fun r1 => ?_)
  refine qP_ite ?_ ?_
  · exact (fr_X18_send_J66 h)
  · refine qP_ite ?_ ?_
    · exact (fr_X18_send_J66 h)
    · refine qP_ite ?_ ?_
      · exact (fr_X18_send_J66 h)
      · refine qP_pure (fun r2 => ?_)
        refine qP_ite ?_ ?_
        · exact (fr_X18_send_J66 h)
        · exact (fr_X18_send_J67 h)
theorem fr_X18_send {N : Nat} {i1 i2 i3 i4 i5 i6 : Int} {M M0 : qm} (h : Fg 820219021793629471639688335169108012007438536584956125161301308306650578384598687491837097316188160 M0 M) : qP (qf_X18_send N i1 i2 i3 i4 i5 i6 M) (fun r => Fg 820219021793629471639688335169108012007438536584956125161301308306650578384598687491837097316188160 M0 r.2) := by
  unfold qf_X18_send
  refine qP_pure (fun r1 => ?_)
  refine qP_ite ?_ ?_
  · exact (fr_X18_send_J66 h)
  · refine qP_pure (fun r2 => ?_)
    refine qP_ite ?_ ?_
    · exact (fr_X18_send_J66 h)
    · refine qP_ite ?_ ?_
      · exact (fr_X18_send_J32 h)
      · exact (fr_X18_send_J32 h)
theorem fr_X11_send_J100 {N : Nat} {i1 i2 i3 i4 i5 i6 t0 : Int} {M M0 : qm} (h : Fg 1993841993677373809355710590420516864 M0 M) : qP (qf_X11_send_J100 N i1 i2 i3 i4 i5 i6 t0 M) (fun r => Fg 1993841993677373809355710590420516864 M0 r.2) := by
  unfold qf_X11_send_J100
  refine qP_pure (fun r1 => ?_)
  rcases r1 with x2 | x2
  · refine qP_bind (fr_X1_enqueue Fg_refl) (fun r3 k3 => ?_)
    have h3 := Fg_tr h (Fg_mono k3 rfl)
    exact qP_some h3
  · exact qP_some h
theorem fr_X11_send_J99 {N : Nat} {i1 i2 i3 i4 i5 i6 : Int} {M M0 : qm} (h : Fg 1993841993677373809355710590420516864 M0 M) : qP (qf_X11_send_J99 N i1 i2 i3 i4 i5 i6 M) (fun r => Fg 1993841993677373809355710590420516864 M0 r.2) := by
  unfold qf_X11_send_J99
  exact (fr_X11_send_J100 h)
theorem fr_X11_send_J74 {N : Nat} {i1 i2 i3 i4 i5 i6 t0 : Int} {M M0 : qm} (h : Fg 1993841993677373809355710590420516864 M0 M) : qP (qf_X11_send_J74 N i1 i2 i3 i4 i5 i6 t0 M) (fun r => Fg 1993841993677373809355710590420516864 M0 r.2) := by
  unfold qf_X11_send_J74
  refine qP_pure (fun r1 => ?_)
  rcases r1 with x2 | x2
  · refine qP_ite ?_ ?_
    · exact (fr_X11_send_J99 h)
    · refine qP_pure (fun r3 => ?_)
      refine qP_ite ?_ ?_
      · exact (fr_X11_send_J99 h)
      · exact (fr_X11_send_J100 h)
  · exact qP_some h
theorem fr_X11_send_J73 {N : Nat} {i1 i2 i3 i4 i5 i6 : Int} {M M0 : qm} (h : Fg 1993841993677373809355710590420516864 M0 M) : qP (qf_X11_send_J73 N i1 i2 i3 i4 i5 i6 M) (fun r => Fg 1993841993677373809355710590420516864 M0 r.2) := by
  unfold qf_X11_send_J73
  exact (fr_X11_send_J74 h)
theorem fr_X11_send_J43 {N : Nat} {i1 i2 i3 i4 i5 i6 t0 : Int} {M M0 : qm} (h : Fg 1993841993677373809355710590420516864 M0 M) : qP (qf_X11_send_J43 N i1 i2 i3 i4 i5 i6 t0 M) (fun r => Fg 1993841993677373809355710590420516864 M0 r.2) := by
  unfold qf_X11_send_J43
  refine qP_pure (fun r1 => ?_)
  rcases r1 with x2 | x2
  · refine qP_pure (fun r3 => ?_)
    refine qP_ite ?_ ?_
    · exact (fr_X11_send_J73 h)
    · refine qP_pure (fun r4 => ?_)
      refine qP_ite ?_ ?_
      · exact (fr_X11_send_J73 h)
      · exact (fr_X11_send_J74 h)
  · exact qP_some h
theorem fr_X11_send_J42 {N : Nat} {i1 i2 i3 i4 i5 i6 : Int} {M M0 : qm} (h : Fg 1993841993677373809355710590420516864 M0 M) : qP (qf_X11_send_J42 N i1 i2 i3 i4 i5 i6 M) (fun r => Fg 1993841993677373809355710590420516864 M0 r.2) := by
  unfold qf_X11_send_J42
  exact (fr_X11_send_J43 h)
theorem fr_X11_send_J32 {N : Nat} {i1 i2 i3 i4 i5 i6 t0 t1 t2 : Int} {M M0 : qm} (h : Fg 1993841993677373809355710590420516864 M0 M) : qP (qf_X11_send_J32 N i1 i2 i3 i4 i5 i6 t0 t1 t2 M) (fun r => Fg 1993841993677373809355710590420516864 M0 r.2) := by
  unfold qf_X11_send_J32
  refine qP_pure (fun r1 => ?_)
  refine qP_ite ?_ ?_
  · exact (fr_X11_send_J42 h)
  · exact (fr_X11_send_J43 h)
theorem fr_X11_send {N : Nat} {i1 i2 i3 i4 i5 i6 : Int} {M M0 : qm} (h : Fg 1993841993677373809355710590420516864 M0 M) : qP (qf_X11_send N i1 i2 i3 i4 i5 i6 M) (fun r => Fg 1993841993677373809355710590420516864 M0 r.2) := by
  unfold qf_X11_send
  refine qP_pure (fun r1 => ?_)
  refine qP_ite ?_ ?_
  · exact (fr_X11_send_J42 h)
  · refine qP_pure (fun r2 => ?_)
    refine qP_ite ?_ ?_
    · exact (fr_X11_send_J42 h)
    · refine qP_ite ?_ ?_
      · exact (fr_X11_send_J32 h)
      · exact (fr_X11_send_J32 h)
theorem fr_L_send {N : Nat} {i1 i2 i3 i4 i5 i6 : Int} {M M0 : qm} (h : Fg 165263992197562149737978827008192759957101170741070304821162198818601447809077836456299296451922498585707158716846260092928 M0 M) : qP (qf_L_send N i1 i2 i3 i4 i5 i6 M) (fun r => Fg 165263992197562149737978827008192759957101170741070304821162198818601447809077836456299296451922498585707158716846260092928 M0 r.2) := by
  unfold qf_L_send
  refine qP_bind (fr_X11_send Fg_refl) (fun r1 k1 => ?_)
  have h1 := Fg_tr h (Fg_mono k1 rfl)
  obtain ⟨x1, m1⟩ := r1
  rcases x1 with x1 | x1
  · have h1 : Fg _ _ m1 := h1
    refine qP_bnd (m0 := _) (Fg_wa (k := 406) h1 rfl rfl) (fun M2 h2 => ?_)
    exact qP_some h2
  · have h1 : Fg _ _ m1 := h1
    refine qP_ite ?_ ?_
    · exact qP_some h1
    · refine qP_ite ?_ ?_
      · exact qP_some h1
      · exact qP_none
theorem fr_X1_addDisturbance {N : Nat} {i1 : Int} {M M0 : qm} (h : Fg 10635122040493960690137589106325061632 M0 M) : qP (qf_X1_addDisturbance N i1 M) (fun r => Fg 10635122040493960690137589106325061632 M0 r.2) := by
  unfold qf_X1_addDisturbance
  refine qP_ite ?_ ?_
  · exact qP_none
  · refine qP_ite ?_ ?_
    · refine qP_ite ?_ ?_
      · refine qP_ite ?_ ?_
        · refine qP_bnd (m0 := _) (Fg_wa (k := 123) h rfl rfl) (fun M1 h1 => ?_)
          refine qP_bnd (m0 := _) (Fg_w h1 rfl) (fun M2 h2 => ?_)
          exact qP_some h2
        · exact qP_none
      · exact qP_some h
    · exact qP_none
theorem fr_X11_disturb_J35 {N : Nat} {i1 t0 : Int} {M M0 : qm} (h : Fg 10635122040493960690137589106325061632 M0 M) : qP (qf_X11_disturb_J35 N i1 t0 M) (fun r => Fg 10635122040493960690137589106325061632 M0 r.2) := by
  unfold qf_X11_disturb_J35
  refine qP_pure (fun r1 => ?_)
  rcases r1 with x2 | x2
  · refine qP_bind (fr_X1_addDisturbance Fg_refl) (fun r3 k3 => ?_)
    have h3 := Fg_tr h (Fg_mono k3 rfl)
    refine qP_ite ?_ ?_
    · exact qP_some h3
    · exact qP_none
  · exact qP_some h
theorem fr_X11_disturb_J34 {N : Nat} {i1 : Int} {M M0 : qm} (h : Fg 10635122040493960690137589106325061632 M0 M) : qP (qf_X11_disturb_J34 N i1 M) (fun r => Fg 10635122040493960690137589106325061632 M0 r.2) := by
  unfold qf_X11_disturb_J34
  exact (fr_X11_disturb_J35 h)
theorem fr_X11_disturb {N : Nat} {i1 : Int} {M M0 : qm} (h : Fg 10635122040493960690137589106325061632 M0 M) : qP (qf_X11_disturb N i1 M) (fun r => Fg 10635122040493960690137589106325061632 M0 r.2) := by
  unfold qf_X11_disturb
  refine qP_pure (fun r1 => ?_)
  refine qP_pure (fun r2 => ?_)
  rcases r2 with x3 | x3
  · refine qP_ite ?_ ?_
    · exact (fr_X11_disturb_J34 h)
    · refine qP_ite ?_ ?_
      · exact (fr_X11_disturb_J34 h)
      · exact (fr_X11_disturb_J35 h)
  · exact qP_some h
theorem fr_L_disturb_J15 {N : Nat} {t1 t2 : Int} {M M0 : qm} (h : Fg 165263992197562149737978827008192759957101170741070304821162198818601447809077836456307937731969315172587940595362164637696 M0 M) : qP (qf_L_disturb_J15 N t1 t2 M) (fun r => Fg 165263992197562149737978827008192759957101170741070304821162198818601447809077836456307937731969315172587940595362164637696 M0 r.2) := by
  unfold qf_L_disturb_J15
  refine qP_ite ?_ ?_
  · refine qP_bnd (m0 := _) (Fg_wa (k := 406) h rfl rfl) (fun M1 h1 => ?_)
    exact qP_some h1
  · exact qP_none
theorem fr_L_disturb {N : Nat} {i1 : Int} {M M0 : qm} (h : Fg 165263992197562149737978827008192759957101170741070304821162198818601447809077836456307937731969315172587940595362164637696 M0 M) : qP (qf_L_disturb N i1 M) (fun r => Fg 165263992197562149737978827008192759957101170741070304821162198818601447809077836456307937731969315172587940595362164637696 M0 r.2) := by
  unfold qf_L_disturb
  refine qP_bind (fr_X11_disturb Fg_refl) (fun r1 k1 => ?_)
  have h1 := Fg_tr h (Fg_mono k1 rfl)
  obtain ⟨x1, m1⟩ := r1
  rcases x1 with x1 | x1
  · have h1 : Fg _ _ m1 := h1
    refine qP_ite ?_ ?_
    · exact (fr_L_disturb_J15 h1)
    · exact (fr_L_disturb_J15 h1)
  · have h1 : Fg _ _ m1 := h1
    refine qP_ite ?_ ?_
    · exact qP_some h1
    · refine qP_ite ?_ ?_
      · exact qP_some h1
      · exact qP_none
theorem fr_X12_disturb_J46 {N : Nat} {i2 t1 t2 : Int} {M M0 : qm} (h : Fg 17092068137046813686664851426126279323295469586123449997017635678218035579147039713757960293318656 M0 M) : qP (qf_X12_disturb_J46 N i2 t1 t2 M) (fun r => Fg 17092068137046813686664851426126279323295469586123449997017635678218035579147039713757960293318656 M0 r.2) := by
  unfold qf_X12_disturb_J46
  refine qP_bnd (m0 := _) (Fg_w h rfl) (fun M1 h1 => ?_)
  refine qP_ite ?_ ?_
  · exact qP_some h1
  · exact qP_none
theorem fr_X12_disturb_J19 {N : Nat} {i1 t0 : Int} {M M0 : qm} (h : Fg 17092068137046813686664851426126279323295469586123449997017635678218035579147039713757960293318656 M0 M) : qP (qf_X12_disturb_J19 N i1 t0 M) (fun r => Fg 17092068137046813686664851426126279323295469586123449997017635678218035579147039713757960293318656 M0 r.2) := by
  unfold qf_X12_disturb_J19
  refine qP_ite ?_ ?_
  · refine qP_bnd (m0 := _) (Fg_wa (k := 323) h rfl rfl) (fun M1 h1 => ?_)
    refine qP_ite ?_ ?_
    · exact (fr_X12_disturb_J46 h1)
    · exact (fr_X12_disturb_J46 h1)
  · exact qP_none
theorem fr_X12_disturb {N : Nat} {i1 : Int} {M M0 : qm} (h : Fg 17092068137046813686664851426126279323295469586123449997017635678218035579147039713757960293318656 M0 M) : qP (qf_X12_disturb N i1 M) (fun r => Fg 17092068137046813686664851426126279323295469586123449997017635678218035579147039713757960293318656 M0 r.2) := by
  unfold qf_X12_disturb
  refine qP_ite ?_ ?_
  · refine qP_ite ?_ ?_
    · exact (fr_X12_disturb_J19 h)
    · exact (fr_X12_disturb_J19 h)
  · exact qP_none
theorem fr_X18_disturb_J40 {N : Nat} {i1 t1 t2 : Int} {M M0 : qm} (h : Fg 17092068137046813686664851426126279323295469586124911498654966581136239263979755996777616225861632 M0 M) : qP (qf_X18_disturb_J40 N i1 t1 t2 M) (fun r => Fg 17092068137046813686664851426126279323295469586124911498654966581136239263979755996777616225861632 M0 r.2) := by
  unfold qf_X18_disturb_J40
  refine qP_bind (fr_X18_goes Fg_refl) (fun r1 k1 => ?_)
  have h1 := Fg_tr h (Fg_mono k1 rfl)
  refine qP_ite ?_ ?_
  · exact qP_some h1
  · refine qP_bind (fr_X12_disturb Fg_refl) (fun r2 k2 => ?_)
    have h2 := Fg_tr h1 (Fg_mono k2 rfl)
    refine qP_ite ?_ ?_
    · exact qP_some h2
    · exact qP_some h2
theorem fr_X18_disturb_J39 {N : Nat} {i1 t1 : Int} {M M0 : qm} (h : Fg 17092068137046813686664851426126279323295469586124911498654966581136239263979755996777616225861632 M0 M) : qP (qf_X18_disturb_J39 N i1 t1 M) (fun r => Fg 17092068137046813686664851426126279323295469586124911498654966581136239263979755996777616225861632 M0 r.2) := by
  unfold qf_X18_disturb_J39
  exact (fr_X18_disturb_J40 h)
theorem fr_X18_disturb_J18 {N : Nat} {i1 t1 : Int} {M M0 : qm} (h : Fg 17092068137046813686664851426126279323295469586124911498654966581136239263979755996777616225861632 M0 M) : qP (qf_X18_disturb_J18 N i1 t1 M) (fun r => Fg 17092068137046813686664851426126279323295469586124911498654966581136239263979755996777616225861632 M0 r.2) := by
  unfold qf_X18_disturb_J18
  refine qP_ite ?_ ?_
  · exact (fr_X18_disturb_J39 h)
  · refine qP_pure (fun r1 => ?_)
    refine qP_ite ?_ ?_
    · exact (fr_X18_disturb_J39 h)
    · exact (fr_X18_disturb_J40 h)
theorem fr_X18_disturb_J17 {N : Nat} {i1 : Int} {M M0 : qm} (h : Fg 17092068137046813686664851426126279323295469586124911498654966581136239263979755996777616225861632 M0 M) : qP (qf_X18_disturb_J17 N i1 M) (fun r => Fg 17092068137046813686664851426126279323295469586124911498654966581136239263979755996777616225861632 M0 r.2) := by
  unfold qf_X18_disturb_J17
  exact (fr_X18_disturb_J18 h)
theorem fr_X18_disturb {N : Nat} {i1 : Int} {M M0 : qm} (h : Fg 17092068137046813686664851426126279323295469586124911498654966581136239263979755996777616225861632 M0 M) : qP (qf_X18_disturb N i1 M) (fun r => Fg 17092068137046813686664851426126279323295469586124911498654966581136239263979755996777616225861632 M0 r.2) := by
  unfold qf_X18_disturb
  refine qP_ite ?_ ?_
  · exact (fr_X18_disturb_J17 h)
  · refine qP_ite ?_ ?_
    · exact (fr_X18_disturb_J17 h)
    · exact (fr_X18_disturb_J18 h)
theorem fr_L_station {N : Nat} {i1 i2 : Int} {M M0 : qm} (h : Fg 165263992197562149737978827008192759957101170741070304821162198818601447809077836456297302609928821211897803006255839576064 M0 M) : qP (qf_L_station N i1 i2 M) (fun r => Fg 165263992197562149737978827008192759957101170741070304821162198818601447809077836456297302609928821211897803006255839576064 M0 r.2) := by
  unfold qf_L_station
  refine qP_pure (fun r1 => ?_)
  rcases r1 with x2 | x2
  · refine qP_bnd (m0 := _) (Fg_wa (k := 406) h rfl rfl) (fun M3 h3 => ?_)
    exact qP_some h3
  · refine qP_ite ?_ ?_
    · exact qP_some h
    · refine qP_ite ?_ ?_
      · exact qP_some h
      · exact qP_none
theorem fr_X18_station_J24 {N : Nat} {i1 i2 t1 : Int} {M M0 : qm} (h : Fg 1461501637330902918203684832716283019655932542976 M0 M) : qP (qf_X18_station_J24 N i1 i2 t1 M) (fun r => Fg 1461501637330902918203684832716283019655932542976 M0 r.2) := by
  unfold qf_X18_station_J24
  refine qP_bind (fr_X18_goes Fg_refl) (fun r1 k1 => ?_)
  have h1 := Fg_tr h (Fg_mono k1 rfl)
  refine qP_ite ?_ ?_
  · exact qP_some h1
  · refine qP_pure (fun r2 => ?_)
    exact qP_some h1
theorem fr_X18_station_J23 {N : Nat} {i1 i2 : Int} {M M0 : qm} (h : Fg 1461501637330902918203684832716283019655932542976 M0 M) : qP (qf_X18_station_J23 N i1 i2 M) (fun r => Fg 1461501637330902918203684832716283019655932542976 M0 r.2) := by
  unfold qf_X18_station_J23
  exact (fr_X18_station_J24 h)
theorem fr_X18_station {N : Nat} {i1 i2 : Int} {M M0 : qm} (h : Fg 1461501637330902918203684832716283019655932542976 M0 M) : qP (qf_X18_station N i1 i2 M) (fun r => Fg 1461501637330902918203684832716283019655932542976 M0 r.2) := by
  unfold qf_X18_station
  refine qP_pure (fun r1 => ?_)
  refine qP_ite ?_ ?_
  · exact (fr_X18_station_J23 h)
  · refine qP_pure (fun r2 => ?_)
    refine qP_ite ?_ ?_
    · exact (fr_X18_station_J23 h)
    · exact (fr_X18_station_J24 h)
theorem fr_L_heard {N : Nat} {i1 : Int} {M M0 : qm} (h : Fg 165263992197562149737978827008192759957101170741070304821162198818601447809077836456297302609928821211897803006255839576064 M0 M) : qP (qf_L_heard N i1 M) (fun r => Fg 165263992197562149737978827008192759957101170741070304821162198818601447809077836456297302609928821211897803006255839576064 M0 r.2) := by
  unfold qf_L_heard
  refine qP_pure (fun r1 => ?_)
  rcases r1 with x2 | x2
  · refine qP_bnd (m0 := _) (Fg_wa (k := 406) h rfl rfl) (fun M3 h3 => ?_)
    exact qP_some h3
  · refine qP_ite ?_ ?_
    · exact qP_some h
    · refine qP_ite ?_ ?_
      · exact qP_some h
      · exact qP_none
theorem fr_X18_heard {N : Nat} {i1 : Int} {M M0 : qm} (h : Fg 1461501637330902918203684832716283019655932542976 M0 M) : qP (qf_X18_heard N i1 M) (fun r => Fg 1461501637330902918203684832716283019655932542976 M0 r.2) := by
  unfold qf_X18_heard
  refine qP_pure (fun r1 => ?_)
  refine qP_bind (fr_X18_goes Fg_refl) (fun r2 k2 => ?_)
  have h2 := Fg_tr h (Fg_mono k2 rfl)
  refine qP_ite ?_ ?_
  · exact qP_some h2
  · refine qP_ite ?_ ?_
    · exact qP_some h2
    · exact qP_none
theorem fr_L_byteAt {N : Nat} {i1 : Int} {M M0 : qm} (h : Fg 165263992197562149737978827008192759957101170741070304821162198818601447809077836456297302609928821211897803006255839576064 M0 M) : qP (qf_L_byteAt N i1 M) (fun r => Fg 165263992197562149737978827008192759957101170741070304821162198818601447809077836456297302609928821211897803006255839576064 M0 r.2) := by
  unfold qf_L_byteAt
  refine qP_pure (fun r1 => ?_)
  rcases r1 with x2 | x2
  · refine qP_bnd (m0 := _) (Fg_wa (k := 406) h rfl rfl) (fun M3 h3 => ?_)
    exact qP_some h3
  · refine qP_ite ?_ ?_
    · exact qP_some h
    · refine qP_ite ?_ ?_
      · exact qP_some h
      · exact qP_none
theorem fr_X18_byteAt_J22 {N : Nat} {i1 t1 : Int} {M M0 : qm} (h : Fg 1461501637330902918203684832716283019655932542976 M0 M) : qP (qf_X18_byteAt_J22 N i1 t1 M) (fun r => Fg 1461501637330902918203684832716283019655932542976 M0 r.2) := by
  unfold qf_X18_byteAt_J22
  refine qP_bind (fr_X18_goes Fg_refl) (fun r1 k1 => ?_)
  have h1 := Fg_tr h (Fg_mono k1 rfl)
  refine qP_ite ?_ ?_
  · exact qP_some h1
  · refine qP_ite ?_ ?_
    · refine qP_ite ?_ ?_
      · exact qP_some h1
      · exact qP_none
    · exact qP_some h1
theorem fr_X18_byteAt_J21 {N : Nat} {i1 : Int} {M M0 : qm} (h : Fg 1461501637330902918203684832716283019655932542976 M0 M) : qP (qf_X18_byteAt_J21 N i1 M) (fun r => Fg 1461501637330902918203684832716283019655932542976 M0 r.2) := by
  unfold qf_X18_byteAt_J21
  exact (fr_X18_byteAt_J22 h)
theorem fr_X18_byteAt {N : Nat} {i1 : Int} {M M0 : qm} (h : Fg 1461501637330902918203684832716283019655932542976 M0 M) : qP (qf_X18_byteAt N i1 M) (fun r => Fg 1461501637330902918203684832716283019655932542976 M0 r.2) := by
  unfold qf_X18_byteAt
  refine qP_ite ?_ ?_
  · exact (fr_X18_byteAt_J21 h)
  · refine qP_ite ?_ ?_
    · exact (fr_X18_byteAt_J21 h)
    · exact (fr_X18_byteAt_J22 h)
theorem fr_X3_addCar {N : Nat} {i1 i2 : Int} {M M0 : qm} (h : Fg 1449548437904490504199821687722143497888727040 M0 M) : qP (qf_X3_addCar N i1 i2 M) (fun r => Fg 1449548437904490504199821687722143497888727040 M0 r.2) := by
  unfold qf_X3_addCar
  refine qP_ite ?_ ?_
  · refine qP_ite ?_ ?_
    · refine qP_bnd (m0 := _) (Fg_wa (k := 150) h rfl rfl) (fun M1 h1 => ?_)
      refine qP_bnd (m0 := _) (Fg_wa (k := 150) h1 rfl rfl) (fun M2 h2 => ?_)
      refine qP_bnd (m0 := _) (Fg_wa (k := 150) h2 rfl rfl) (fun M3 h3 => ?_)
      refine qP_bnd (m0 := _) (Fg_wa (k := 150) h3 rfl rfl) (fun M4 h4 => ?_)
      refine qP_bnd (m0 := _) (Fg_w h4 rfl) (fun M5 h5 => ?_)
      exact qP_some h5
    · exact qP_none
  · exact qP_some h
theorem fr_X11_car_J47 {N : Nat} {i1 i2 t0 : Int} {M M0 : qm} (h : Fg 1449548437904490504199821687722143497888727040 M0 M) : qP (qf_X11_car_J47 N i1 i2 t0 M) (fun r => Fg 1449548437904490504199821687722143497888727040 M0 r.2) := by
  unfold qf_X11_car_J47
  refine qP_pure (fun r1 => ?_)
  rcases r1 with x2 | x2
  · refine qP_bind (fr_X3_addCar Fg_refl) (fun r3 k3 => ?_)
    have h3 := Fg_tr h (Fg_mono k3 rfl)
    exact qP_some h3
  · exact qP_some h
theorem fr_X11_car_J46 {N : Nat} {i1 i2 : Int} {M M0 : qm} (h : Fg 1449548437904490504199821687722143497888727040 M0 M) : qP (qf_X11_car_J46 N i1 i2 M) (fun r => Fg 1449548437904490504199821687722143497888727040 M0 r.2) := by
  unfold qf_X11_car_J46
  exact (fr_X11_car_J47 h)
theorem fr_X11_car_J21 {N : Nat} {i1 i2 t0 : Int} {M M0 : qm} (h : Fg 1449548437904490504199821687722143497888727040 M0 M) : qP (qf_X11_car_J21 N i1 i2 t0 M) (fun r => Fg 1449548437904490504199821687722143497888727040 M0 r.2) := by
  unfold qf_X11_car_J21
  refine qP_pure (fun r1 => ?_)
  rcases r1 with x2 | x2
  · refine qP_ite ?_ ?_
    · exact (fr_X11_car_J46 h)
    · refine qP_ite ?_ ?_
      · exact (fr_X11_car_J46 h)
      · exact (fr_X11_car_J47 h)
  · exact qP_some h
theorem fr_X11_car_J20 {N : Nat} {i1 i2 : Int} {M M0 : qm} (h : Fg 1449548437904490504199821687722143497888727040 M0 M) : qP (qf_X11_car_J20 N i1 i2 M) (fun r => Fg 1449548437904490504199821687722143497888727040 M0 r.2) := by
  unfold qf_X11_car_J20
  exact (fr_X11_car_J21 h)
theorem fr_X11_car {N : Nat} {i1 i2 : Int} {M M0 : qm} (h : Fg 1449548437904490504199821687722143497888727040 M0 M) : qP (qf_X11_car N i1 i2 M) (fun r => Fg 1449548437904490504199821687722143497888727040 M0 r.2) := by
  unfold qf_X11_car
  refine qP_pure (fun r1 => ?_)
  refine qP_ite ?_ ?_
  · exact (fr_X11_car_J20 h)
  · refine qP_pure (fun r2 => ?_)
    refine qP_ite ?_ ?_
    · exact (fr_X11_car_J20 h)
    · exact (fr_X11_car_J21 h)
theorem fr_L_car {N : Nat} {i1 i2 : Int} {M M0 : qm} (h : Fg 165263992197562149737978827008192759957101170741070304821162198818601447809079286004735207100433021033585525149753728303104 M0 M) : qP (qf_L_car N i1 i2 M) (fun r => Fg 165263992197562149737978827008192759957101170741070304821162198818601447809079286004735207100433021033585525149753728303104 M0 r.2) := by
  unfold qf_L_car
  refine qP_bind (fr_X11_car Fg_refl) (fun r1 k1 => ?_)
  have h1 := Fg_tr h (Fg_mono k1 rfl)
  obtain ⟨x1, m1⟩ := r1
  rcases x1 with x1 | x1
  · have h1 : Fg _ _ m1 := h1
    refine qP_bnd (m0 := _) (Fg_wa (k := 406) h1 rfl rfl) (fun M2 h2 => ?_)
    exact qP_some h2
  · have h1 : Fg _ _ m1 := h1
    refine qP_ite ?_ ?_
    · exact qP_some h1
    · refine qP_ite ?_ ?_
      · exact qP_some h1
      · exact qP_none
theorem fr_X13_car {N : Nat} {i1 i2 : Int} {M M0 : qm} (h : Fg 2222946656611470678978261463464180946035733156005389663388239182706563432146309738290520912072070062407680 M0 M) : qP (qf_X13_car N i1 i2 M) (fun r => Fg 2222946656611470678978261463464180946035733156005389663388239182706563432146309738290520912072070062407680 M0 r.2) := by
  unfold qf_X13_car
  refine qP_ite ?_ ?_
  · refine qP_bnd (m0 := _) (Fg_wa (k := 345) h rfl rfl) (fun M1 h1 => ?_)
    refine qP_ite ?_ ?_
    · refine qP_bnd (m0 := _) (Fg_wa (k := 346) h1 rfl rfl) (fun M2 h2 => ?_)
      refine qP_ite ?_ ?_
      · refine qP_bnd (m0 := _) (Fg_wa (k := 347) h2 rfl rfl) (fun M3 h3 => ?_)
        refine qP_ite ?_ ?_
        · refine qP_bnd (m0 := _) (Fg_wa (k := 348) h3 rfl rfl) (fun M4 h4 => ?_)
          refine qP_ite ?_ ?_
          · refine qP_bnd (m0 := _) (Fg_wa (k := 349) h4 rfl rfl) (fun M5 h5 => ?_)
            refine qP_bnd (m0 := _) (Fg_w h5 rfl) (fun M6 h6 => ?_)
            exact qP_some h6
          · exact qP_none
        · exact qP_none
      · exact qP_none
    · exact qP_none
  · exact qP_none
theorem fr_X18_car_J46 {N : Nat} {i1 i2 t1 t2 : Int} {M M0 : qm} (h : Fg 2222946656611470678978261463464180946035733156005389663389700684343894335064513423123237195091725994950656 M0 M) : qP (qf_X18_car_J46 N i1 i2 t1 t2 M) (fun r => Fg 2222946656611470678978261463464180946035733156005389663389700684343894335064513423123237195091725994950656 M0 r.2) := by
  unfold qf_X18_car_J46
  refine qP_bind (fr_X18_goes Fg_refl) (fun r1 k1 => ?_)
  have h1 := Fg_tr h (Fg_mono k1 rfl)
  refine qP_ite ?_ ?_
  · exact qP_some h1
  · refine qP_bind (fr_X13_car Fg_refl) (fun r2 k2 => ?_)
    have h2 := Fg_tr h1 (Fg_mono k2 rfl)
    exact qP_some h2
theorem fr_X18_car_J45 {N : Nat} {i1 i2 t1 : Int} {M M0 : qm} (h : Fg 2222946656611470678978261463464180946035733156005389663389700684343894335064513423123237195091725994950656 M0 M) : qP (qf_X18_car_J45 N i1 i2 t1 M) (fun r => Fg 2222946656611470678978261463464180946035733156005389663389700684343894335064513423123237195091725994950656 M0 r.2) := by
  unfold qf_X18_car_J45
  exact (fr_X18_car_J46 h)
theorem fr_X18_car_J23 {N : Nat} {i1 i2 t1 : Int} {M M0 : qm} (h : Fg 2222946656611470678978261463464180946035733156005389663389700684343894335064513423123237195091725994950656 M0 M) : qP (qf_X18_car_J23 N i1 i2 t1 M) (fun r => Fg 2222946656611470678978261463464180946035733156005389663389700684343894335064513423123237195091725994950656 M0 r.2) := by
  unfold qf_X18_car_J23
  refine qP_ite ?_ ?_
  · exact (fr_X18_car_J45 h)
  · refine qP_ite ?_ ?_
    · exact (fr_X18_car_J45 h)
    · exact (fr_X18_car_J46 h)
theorem fr_X18_car_J22 {N : Nat} {i1 i2 : Int} {M M0 : qm} (h : Fg 2222946656611470678978261463464180946035733156005389663389700684343894335064513423123237195091725994950656 M0 M) : qP (qf_X18_car_J22 N i1 i2 M) (fun r => Fg 2222946656611470678978261463464180946035733156005389663389700684343894335064513423123237195091725994950656 M0 r.2) := by
  unfold qf_X18_car_J22
  exact (fr_X18_car_J23 h)
theorem fr_X18_car {N : Nat} {i1 i2 : Int} {M M0 : qm} (h : Fg 2222946656611470678978261463464180946035733156005389663389700684343894335064513423123237195091725994950656 M0 M) : qP (qf_X18_car N i1 i2 M) (fun r => Fg 2222946656611470678978261463464180946035733156005389663389700684343894335064513423123237195091725994950656 M0 r.2) := by
  unfold qf_X18_car
  refine qP_pure (fun r1 => ?_)
  refine qP_ite ?_ ?_
  · exact (fr_X18_car_J22 h)
  · refine qP_ite ?_ ?_
    · exact (fr_X18_car_J22 h)
    · refine qP_ite ?_ ?_
      · exact (fr_X18_car_J22 h)
      · exact (fr_X18_car_J23 h)
theorem fr_X3_setFree {N : Nat} {i1 i2 i3 : Int} {M M0 : qm} (h : Fg 1427247692705959881058285969449495136382746624 M0 M) : qP (qf_X3_setFree N i1 i2 i3 M) (fun r => Fg 1427247692705959881058285969449495136382746624 M0 r.2) := by
  unfold qf_X3_setFree
  refine qP_ite ?_ ?_
  · refine qP_bnd (m0 := _) (Fg_wa (k := 150) h rfl rfl) (fun M1 h1 => ?_)
    refine qP_ite ?_ ?_
    · refine qP_bnd (m0 := _) (Fg_wa (k := 150) h1 rfl rfl) (fun M2 h2 => ?_)
      exact qP_some h2
    · exact qP_none
  · exact qP_none
theorem fr_X11_free_J31 {N : Nat} {i1 i2 i3 t0 : Int} {M M0 : qm} (h : Fg 1427247692705959881058285969449495136382746624 M0 M) : qP (qf_X11_free_J31 N i1 i2 i3 t0 M) (fun r => Fg 1427247692705959881058285969449495136382746624 M0 r.2) := by
  unfold qf_X11_free_J31
  refine qP_pure (fun r1 => ?_)
  rcases r1 with x2 | x2
  · refine qP_pure (fun r3 => ?_)
    rcases r3 with x4 | x4
    · refine qP_bind (fr_X3_setFree Fg_refl) (fun r5 k5 => ?_)
      have h5 := Fg_tr h (Fg_mono k5 rfl)
      exact qP_some h5
    · exact qP_some h
  · exact qP_some h
theorem fr_X11_free_J30 {N : Nat} {i1 i2 i3 : Int} {M M0 : qm} (h : Fg 1427247692705959881058285969449495136382746624 M0 M) : qP (qf_X11_free_J30 N i1 i2 i3 M) (fun r => Fg 1427247692705959881058285969449495136382746624 M0 r.2) := by
  unfold qf_X11_free_J30
  exact (fr_X11_free_J31 h)
theorem fr_X11_free {N : Nat} {i1 i2 i3 : Int} {M M0 : qm} (h : Fg 1427247692705959881058285969449495136382746624 M0 M) : qP (qf_X11_free N i1 i2 i3 M) (fun r => Fg 1427247692705959881058285969449495136382746624 M0 r.2) := by
  unfold qf_X11_free
  refine qP_pure (fun r1 => ?_)
  refine qP_ite ?_ ?_
  · exact (fr_X11_free_J30 h)
  · refine qP_pure (fun r2 => ?_)
    refine qP_ite ?_ ?_
    · exact (fr_X11_free_J30 h)
    · refine qP_pure (fun r3 => ?_)
      refine qP_ite ?_ ?_
      · exact (fr_X11_free_J30 h)
      · exact (fr_X11_free_J31 h)
theorem fr_L_free {N : Nat} {i1 i2 i3 : Int} {M M0 : qm} (h : Fg 1427247692705959881058285969449495136382746624 M0 M) : qP (qf_L_free N i1 i2 i3 M) (fun r => Fg 1427247692705959881058285969449495136382746624 M0 r.2) := by
  unfold qf_L_free
  refine qP_bind (fr_X11_free Fg_refl) (fun r1 k1 => ?_)
  have h1 := Fg_tr h (Fg_mono k1 rfl)
  obtain ⟨x1, m1⟩ := r1
  rcases x1 with x1 | x1
  · have h1 : Fg _ _ m1 := h1
    exact qP_some h1
  · have h1 : Fg _ _ m1 := h1
    refine qP_ite ?_ ?_
    · exact qP_some h1
    · refine qP_ite ?_ ?_
      · exact qP_some h1
      · exact qP_none
theorem fr_X18_free_J38 {N : Nat} {i1 i2 i3 t1 : Int} {M M0 : qm} (h : Fg 430030990498138408427028917869141301399355935469052710702259409022378942184794586345844761727804498771968 M0 M) : qP (qf_X18_free_J38 N i1 i2 i3 t1 M) (fun r => Fg 430030990498138408427028917869141301399355935469052710702259409022378942184794586345844761727804498771968 M0 r.2) := by
  unfold qf_X18_free_J38
  refine qP_bind (fr_X18_goes Fg_refl) (fun r1 k1 => ?_)
  have h1 := Fg_tr h (Fg_mono k1 rfl)
  refine qP_ite ?_ ?_
  · exact qP_some h1
  · refine qP_ite ?_ ?_
    · refine qP_bnd (m0 := _) (Fg_wa (k := 346) h1 rfl rfl) (fun M2 h2 => ?_)
      refine qP_ite ?_ ?_
      · refine qP_bnd (m0 := _) (Fg_wa (k := 347) h2 rfl rfl) (fun M3 h3 => ?_)
        exact qP_some h3
      · exact qP_none
    · exact qP_none
theorem fr_X18_free_J37 {N : Nat} {i1 i2 i3 : Int} {M M0 : qm} (h : Fg 430030990498138408427028917869141301399355935469052710702259409022378942184794586345844761727804498771968 M0 M) : qP (qf_X18_free_J37 N i1 i2 i3 M) (fun r => Fg 430030990498138408427028917869141301399355935469052710702259409022378942184794586345844761727804498771968 M0 r.2) := by
  unfold qf_X18_free_J37
  exact (fr_X18_free_J38 h)
theorem fr_X18_free {N : Nat} {i1 i2 i3 : Int} {M M0 : qm} (h : Fg 430030990498138408427028917869141301399355935469052710702259409022378942184794586345844761727804498771968 M0 M) : qP (qf_X18_free N i1 i2 i3 M) (fun r => Fg 430030990498138408427028917869141301399355935469052710702259409022378942184794586345844761727804498771968 M0 r.2) := by
  unfold qf_X18_free
  refine qP_pure (fun r1 => ?_)
  refine qP_ite ?_ ?_
  · exact (fr_X18_free_J37 h)
  · refine qP_pure (fun r2 => ?_)
    refine qP_ite ?_ ?_
    · exact (fr_X18_free_J37 h)
    · refine qP_ite ?_ ?_
      · exact (fr_X18_free_J37 h)
      · refine qP_ite ?_ ?_
        · exact (fr_X18_free_J37 h)
        · exact (fr_X18_free_J38 h)
theorem fr_X3_setSpan {N : Nat} {i1 i2 i3 : Int} {M M0 : qm} (h : Fg 1427247692705959881058285969449495136382746624 M0 M) : qP (qf_X3_setSpan N i1 i2 i3 M) (fun r => Fg 1427247692705959881058285969449495136382746624 M0 r.2) := by
  unfold qf_X3_setSpan
  refine qP_ite ?_ ?_
  · refine qP_bnd (m0 := _) (Fg_wa (k := 150) h rfl rfl) (fun M1 h1 => ?_)
    refine qP_ite ?_ ?_
    · refine qP_bnd (m0 := _) (Fg_wa (k := 150) h1 rfl rfl) (fun M2 h2 => ?_)
      exact qP_some h2
    · exact qP_none
  · exact qP_none
theorem fr_X11_span_J32 {N : Nat} {i1 i2 i3 t0 : Int} {M M0 : qm} (h : Fg 1427247692705959881058285969449495136382746624 M0 M) : qP (qf_X11_span_J32 N i1 i2 i3 t0 M) (fun r => Fg 1427247692705959881058285969449495136382746624 M0 r.2) := by
  unfold qf_X11_span_J32
  refine qP_pure (fun r1 => ?_)
  rcases r1 with x2 | x2
  · refine qP_pure (fun r3 => ?_)
    rcases r3 with x4 | x4
    · refine qP_bind (fr_X3_setSpan Fg_refl) (fun r5 k5 => ?_)
      have h5 := Fg_tr h (Fg_mono k5 rfl)
      exact qP_some h5
    · exact qP_some h
  · exact qP_some h
theorem fr_X11_span_J31 {N : Nat} {i1 i2 i3 : Int} {M M0 : qm} (h : Fg 1427247692705959881058285969449495136382746624 M0 M) : qP (qf_X11_span_J31 N i1 i2 i3 M) (fun r => Fg 1427247692705959881058285969449495136382746624 M0 r.2) := by
  unfold qf_X11_span_J31
  exact (fr_X11_span_J32 h)
theorem fr_X11_span {N : Nat} {i1 i2 i3 : Int} {M M0 : qm} (h : Fg 1427247692705959881058285969449495136382746624 M0 M) : qP (qf_X11_span N i1 i2 i3 M) (fun r => Fg 1427247692705959881058285969449495136382746624 M0 r.2) := by
  unfold qf_X11_span
  refine qP_pure (fun r1 => ?_)
  refine qP_ite ?_ ?_
  · exact (fr_X11_span_J31 h)
  · refine qP_pure (fun r2 => ?_)
    refine qP_ite ?_ ?_
    · exact (fr_X11_span_J31 h)
    · refine qP_pure (fun r3 => ?_)
      refine qP_ite ?_ ?_
      · exact (fr_X11_span_J31 h)
      · refine qP_ite ?_ ?_
        · exact (fr_X11_span_J31 h)
        · exact (fr_X11_span_J32 h)
theorem fr_L_span {N : Nat} {i1 i2 i3 : Int} {M M0 : qm} (h : Fg 1427247692705959881058285969449495136382746624 M0 M) : qP (qf_L_span N i1 i2 i3 M) (fun r => Fg 1427247692705959881058285969449495136382746624 M0 r.2) := by
  unfold qf_L_span
  refine qP_bind (fr_X11_span Fg_refl) (fun r1 k1 => ?_)
  have h1 := Fg_tr h (Fg_mono k1 rfl)
  obtain ⟨x1, m1⟩ := r1
  rcases x1 with x1 | x1
  · have h1 : Fg _ _ m1 := h1
    exact qP_some h1
  · have h1 : Fg _ _ m1 := h1
    refine qP_ite ?_ ?_
    · exact qP_some h1
    · refine qP_ite ?_ ?_
      · exact qP_some h1
      · exact qP_none
theorem fr_X18_span_J39 {N : Nat} {i1 i2 i3 t1 : Int} {M M0 : qm} (h : Fg 1720123961992553633708115671476565205597423741876210842804653131177523059984567290885230197852250197458944 M0 M) : qP (qf_X18_span_J39 N i1 i2 i3 t1 M) (fun r => Fg 1720123961992553633708115671476565205597423741876210842804653131177523059984567290885230197852250197458944 M0 r.2) := by
  unfold qf_X18_span_J39
  refine qP_bind (fr_X18_goes Fg_refl) (fun r1 k1 => ?_)
  have h1 := Fg_tr h (Fg_mono k1 rfl)
  refine qP_ite ?_ ?_
  · exact qP_some h1
  · refine qP_ite ?_ ?_
    · refine qP_bnd (m0 := _) (Fg_wa (k := 348) h1 rfl rfl) (fun M2 h2 => ?_)
      refine qP_ite ?_ ?_
      · refine qP_bnd (m0 := _) (Fg_wa (k := 349) h2 rfl rfl) (fun M3 h3 => ?_)
        exact qP_some h3
      · exact qP_none
    · exact qP_none
theorem fr_X18_span_J38 {N : Nat} {i1 i2 i3 : Int} {M M0 : qm} (h : Fg 1720123961992553633708115671476565205597423741876210842804653131177523059984567290885230197852250197458944 M0 M) : qP (qf_X18_span_J38 N i1 i2 i3 M) (fun r => Fg 1720123961992553633708115671476565205597423741876210842804653131177523059984567290885230197852250197458944 M0 r.2) := by
  unfold qf_X18_span_J38
  exact (fr_X18_span_J39 h)
theorem fr_X18_span {N : Nat} {i1 i2 i3 : Int} {M M0 : qm} (h : Fg 1720123961992553633708115671476565205597423741876210842804653131177523059984567290885230197852250197458944 M0 M) : qP (qf_X18_span N i1 i2 i3 M) (fun r => Fg 1720123961992553633708115671476565205597423741876210842804653131177523059984567290885230197852250197458944 M0 r.2) := by
  unfold qf_X18_span
  refine qP_pure (fun r1 => ?_)
  refine qP_ite ?_ ?_
  · exact (fr_X18_span_J38 h)
  · refine qP_pure (fun r2 => ?_)
    refine qP_ite ?_ ?_
    · exact (fr_X18_span_J38 h)
    · refine qP_pure (fun r3 => ?_)
      refine qP_ite ?_ ?_
      · exact (fr_X18_span_J38 h)
      · refine qP_ite ?_ ?_
        · exact (fr_X18_span_J38 h)
        · exact (fr_X18_span_J39 h)
theorem fr_X3_addCall {N : Nat} {i1 i2 i3 : Int} {M M0 : qm} (h : Fg 20115272169074622073665217881928822078394335232 M0 M) : qP (qf_X3_addCall N i1 i2 i3 M) (fun r => Fg 20115272169074622073665217881928822078394335232 M0 r.2) := by
  unfold qf_X3_addCall
  refine qP_ite ?_ ?_
  · exact qP_some h
  · refine qP_ite ?_ ?_
    · refine qP_ite ?_ ?_
      · refine qP_bnd (m0 := _) (Fg_wa (k := 151) h rfl rfl) (fun M1 h1 => ?_)
        refine qP_ite ?_ ?_
        · refine qP_bnd (m0 := _) (Fg_wa (k := 151) h1 rfl rfl) (fun M2 h2 => ?_)
          refine qP_ite ?_ ?_
          · refine qP_bnd (m0 := _) (Fg_wa (k := 151) h2 rfl rfl) (fun M3 h3 => ?_)
            refine qP_ite ?_ ?_
            · refine qP_bnd (m0 := _) (Fg_f2 (k := 153) h3 (fun _ => rfl) rfl) (fun M4 h4 => ?_)
              refine qP_ite ?_ ?_
              · refine qP_bnd (m0 := _) (Fg_wa (k := 152) h4 rfl rfl) (fun M5 h5 => ?_)
                refine qP_bnd (m0 := _) (Fg_w h5 rfl) (fun M6 h6 => ?_)
                refine qP_bnd (m0 := _) (Fg_w h6 rfl) (fun M7 h7 => ?_)
                exact qP_some h7
              · exact qP_none
            · exact qP_none
          · exact qP_none
        · exact qP_none
      · exact qP_none
    · exact qP_some h
theorem fr_X11_call_J64 {N : Nat} {i1 i2 t0 : Int} {M M0 : qm} (h : Fg 20115272169074622073665217881928822078394335232 M0 M) : qP (qf_X11_call_J64 N i1 i2 t0 M) (fun r => Fg 20115272169074622073665217881928822078394335232 M0 r.2) := by
  unfold qf_X11_call_J64
  refine qP_pure (fun r1 => ?_)
  rcases r1 with x2 | x2
  · refine qP_bind (fr_X3_addCall Fg_refl) (fun r3 k3 => ?_)
    have h3 := Fg_tr h (Fg_mono k3 rfl)
    exact qP_some h3
  · exact qP_some h
theorem fr_X11_call_J63 {N : Nat} {i1 i2 : Int} {M M0 : qm} (h : Fg 20115272169074622073665217881928822078394335232 M0 M) : qP (qf_X11_call_J63 N i1 i2 M) (fun r => Fg 20115272169074622073665217881928822078394335232 M0 r.2) := by
  unfold qf_X11_call_J63
  exact (fr_X11_call_J64 h)
theorem fr_X11_call_J24 {N : Nat} {i1 i2 t0 : Int} {M M0 : qm} (h : Fg 20115272169074622073665217881928822078394335232 M0 M) : qP (qf_X11_call_J24 N i1 i2 t0 M) (fun r => Fg 20115272169074622073665217881928822078394335232 M0 r.2) := by
  unfold qf_X11_call_J24
  refine qP_pure (fun r1 => ?_)
  rcases r1 with x2 | x2
  · refine qP_ite ?_ ?_
    · exact (fr_X11_call_J63 h)
    · refine qP_ite ?_ ?_
      · exact (fr_X11_call_J63 h)
      · refine qP_ite ?_ ?_
        · exact (fr_X11_call_J63 h)
        · exact (fr_X11_call_J64 h)
  · exact qP_some h
theorem fr_X11_call_J23 {N : Nat} {i1 i2 : Int} {M M0 : qm} (h : Fg 20115272169074622073665217881928822078394335232 M0 M) : qP (qf_X11_call_J23 N i1 i2 M) (fun r => Fg 20115272169074622073665217881928822078394335232 M0 r.2) := by
  unfold qf_X11_call_J23
  exact (fr_X11_call_J24 h)
theorem fr_X11_call {N : Nat} {i1 i2 : Int} {M M0 : qm} (h : Fg 20115272169074622073665217881928822078394335232 M0 M) : qP (qf_X11_call N i1 i2 M) (fun r => Fg 20115272169074622073665217881928822078394335232 M0 r.2) := by
  unfold qf_X11_call
  refine qP_pure (fun r1 => ?_)
  refine qP_ite ?_ ?_
  · exact (fr_X11_call_J23 h)
  · refine qP_pure (fun r2 => ?_)
    refine qP_ite ?_ ?_
    · exact (fr_X11_call_J23 h)
    · refine qP_ite ?_ ?_
      · exact (fr_X11_call_J23 h)
      · exact (fr_X11_call_J24 h)
theorem fr_L_call {N : Nat} {i1 i2 : Int} {M M0 : qm} (h : Fg 165263992197562149737978827008192759957101170741070304821162198818601447809097951728466377232002486429779731828334233911296 M0 M) : qP (qf_L_call N i1 i2 M) (fun r => Fg 165263992197562149737978827008192759957101170741070304821162198818601447809097951728466377232002486429779731828334233911296 M0 r.2) := by
  unfold qf_L_call
  refine qP_bind (fr_X11_call Fg_refl) (fun r1 k1 => ?_)
  have h1 := Fg_tr h (Fg_mono k1 rfl)
  obtain ⟨x1, m1⟩ := r1
  rcases x1 with x1 | x1
  · have h1 : Fg _ _ m1 := h1
    refine qP_bnd (m0 := _) (Fg_wa (k := 406) h1 rfl rfl) (fun M2 h2 => ?_)
    exact qP_some h2
  · have h1 : Fg _ _ m1 := h1
    refine qP_ite ?_ ?_
    · exact qP_some h1
    · refine qP_ite ?_ ?_
      · exact qP_some h1
      · exact qP_none
theorem fr_X13_call {N : Nat} {i1 i2 : Int} {M M0 : qm} (h : Fg 71100696840434394664146005196645263608971636309713949485400154010095572950614209211115956023907167890309120 M0 M) : qP (qf_X13_call N i1 i2 M) (fun r => Fg 71100696840434394664146005196645263608971636309713949485400154010095572950614209211115956023907167890309120 M0 r.2) := by
  unfold qf_X13_call
  refine qP_ite ?_ ?_
  · refine qP_bnd (m0 := _) (Fg_wa (k := 350) h rfl rfl) (fun M1 h1 => ?_)
    refine qP_ite ?_ ?_
    · refine qP_bnd (m0 := _) (Fg_wa (k := 351) h1 rfl rfl) (fun M2 h2 => ?_)
      refine qP_ite ?_ ?_
      · refine qP_bnd (m0 := _) (Fg_wa (k := 352) h2 rfl rfl) (fun M3 h3 => ?_)
        refine qP_ite ?_ ?_
        · refine qP_bnd (m0 := _) (Fg_wa (k := 353) h3 rfl rfl) (fun M4 h4 => ?_)
          refine qP_ite ?_ ?_
          · refine qP_bnd (m0 := _) (Fg_wa (k := 354) h4 rfl rfl) (fun M5 h5 => ?_)
            refine qP_bnd (m0 := _) (Fg_w h5 rfl) (fun M6 h6 => ?_)
            exact qP_some h6
          · exact qP_none
        · exact qP_none
      · exact qP_none
    · exact qP_none
  · exact qP_none
theorem fr_X18_call_J62 {N : Nat} {i1 i2 t1 t2 : Int} {M M0 : qm} (h : Fg 71100696840434394664146005196645263608971636309713949485401615511732903853532412895948672306926823822852096 M0 M) : qP (qf_X18_call_J62 N i1 i2 t1 t2 M) (fun r => Fg 71100696840434394664146005196645263608971636309713949485401615511732903853532412895948672306926823822852096 M0 r.2) := by
  unfold qf_X18_call_J62
  refine qP_bind (fr_X18_goes Fg_refl) (fun r1 k1 => ?_)
  have h1 := Fg_tr h (Fg_mono k1 rfl)
  refine qP_ite ?_ ?_
  · exact qP_some h1
  · refine qP_bind (fr_X13_call Fg_refl) (fun r2 k2 => ?_)
    have h2 := Fg_tr h1 (Fg_mono k2 rfl)
    exact qP_some h2
theorem fr_X18_call_J61 {N : Nat} {i1 i2 t1 : Int} {M M0 : qm} (h : Fg 71100696840434394664146005196645263608971636309713949485401615511732903853532412895948672306926823822852096 M0 M) : qP (qf_X18_call_J61 N i1 i2 t1 M) (fun r => Fg 71100696840434394664146005196645263608971636309713949485401615511732903853532412895948672306926823822852096 M0 r.2) := by
  unfold qf_X18_call_J61
  exact (fr_X18_call_J62 h)
theorem fr_X18_call_J25 {N : Nat} {i1 i2 t1 : Int} {M M0 : qm} (h : Fg 71100696840434394664146005196645263608971636309713949485401615511732903853532412895948672306926823822852096 M0 M) : qP (qf_X18_call_J25 N i1 i2 t1 M) (fun r => Fg 71100696840434394664146005196645263608971636309713949485401615511732903853532412895948672306926823822852096 M0 r.2) := by
  unfold qf_X18_call_J25
  refine qP_ite ?_ ?_
  · exact (fr_X18_call_J61 h)
  · refine qP_pure (fun r1 => ?_)
    refine qP_ite ?_ ?_
    · exact (fr_X18_call_J61 h)
    · refine qP_ite ?_ ?_
      · exact (fr_X18_call_J61 h)
      · exact (fr_X18_call_J62 h)
theorem fr_X18_call_J24 {N : Nat} {i1 i2 : Int} {M M0 : qm} (h : Fg 71100696840434394664146005196645263608971636309713949485401615511732903853532412895948672306926823822852096 M0 M) : qP (qf_X18_call_J24 N i1 i2 M) (fun r => Fg 71100696840434394664146005196645263608971636309713949485401615511732903853532412895948672306926823822852096 M0 r.2) := by
  unfold qf_X18_call_J24
  exact (fr_X18_call_J25 h)
theorem fr_X18_call {N : Nat} {i1 i2 : Int} {M M0 : qm} (h : Fg 71100696840434394664146005196645263608971636309713949485401615511732903853532412895948672306926823822852096 M0 M) : qP (qf_X18_call N i1 i2 M) (fun r => Fg 71100696840434394664146005196645263608971636309713949485401615511732903853532412895948672306926823822852096 M0 r.2) := by
  unfold qf_X18_call
  refine qP_pure (fun r1 => ?_)
  refine qP_ite ?_ ?_
  · exact (fr_X18_call_J24 h)
  · refine qP_pure (fun r2 => ?_)
    refine qP_ite ?_ ?_
    · exact (fr_X18_call_J24 h)
    · refine qP_ite ?_ ?_
      · exact (fr_X18_call_J24 h)
      · exact (fr_X18_call_J25 h)
theorem fr_X3_endBeginning_L2_b {N : Nat} {i1 i2 : Int} {M M0 : qm} (h : Fg 1427247692705959881058285969449495136382746624 M0 M) : qP (qf_X3_endBeginning_L2_b N i1 i2 M) (pU (pU (fun r => Fg 1427247692705959881058285969449495136382746624 M0 r.2) (fun r => Fg 1427247692705959881058285969449495136382746624 M0 r.2)) (fun r => Fg 1427247692705959881058285969449495136382746624 M0 r.2.2)) := by
  unfold qf_X3_endBeginning_L2_b
  refine qP_ite ?_ ?_
  · exact qP_some h
  · refine qP_ite ?_ ?_
    · refine qP_ite ?_ ?_
      · refine qP_ite ?_ ?_
        · refine qP_bnd (m0 := _) (Fg_wa (k := 150) h rfl rfl) (fun M1 h1 => ?_)
          exact qP_some h1
        · exact qP_none
      · exact qP_some h
    · exact qP_none
theorem fr_X3_endBeginning_L2 (n : Nat) {N : Nat} {i1 i2 : Int} {M M0 : qm} (h : Fg 1427247692705959881058285969449495136382746624 M0 M) : qP (qf_X3_endBeginning_L2 N n i1 i2 M) (pU (fun r => Fg 1427247692705959881058285969449495136382746624 M0 r.2) (fun r => Fg 1427247692705959881058285969449495136382746624 M0 r.2)) := by
  unfold qf_X3_endBeginning_L2
  exact qP_loop (I := fun s => Fg 1427247692705959881058285969449495136382746624 M0 s.2.2) (fun s hs => fr_X3_endBeginning_L2_b hs) n _ h
theorem fr_X3_endBeginning {N : Nat} {i1 : Int} {M M0 : qm} (h : Fg 1427247692705959881058285969449495136382746624 M0 M) : qP (qf_X3_endBeginning N i1 M) (fun r => Fg 1427247692705959881058285969449495136382746624 M0 r.2) := by
  unfold qf_X3_endBeginning
  refine qP_bind (fr_X3_endBeginning_L2 _ h) (fun r1 k1 => ?_)
  rcases r1 with x1 | x1
  · exact qP_some k1
  · obtain ⟨y1_0, y1_1⟩ := x1
    have h1 : Fg _ _ y1_1 := k1
    exact qP_some h1
theorem fr_X3_setBegun_J35 {N : Nat} {i1 i2 : Int} {M M0 : qm} (h : Fg 1427247692705959881058285969449495136382746624 M0 M) : qP (qf_X3_setBegun_J35 N i1 i2 M) (fun r => Fg 1427247692705959881058285969449495136382746624 M0 r.2) := by
  unfold qf_X3_setBegun_J35
  refine qP_bind (fr_X3_endBeginning Fg_refl) (fun r1 k1 => ?_)
  have h1 := Fg_tr h (Fg_mono k1 rfl)
  refine qP_ite ?_ ?_
  · exact qP_some h1
  · refine qP_ite ?_ ?_
    · refine qP_bnd (m0 := _) (Fg_wa (k := 150) h1 rfl rfl) (fun M2 h2 => ?_)
      exact qP_some h2
    · exact qP_none
theorem fr_X3_setBegun {N : Nat} {i1 i2 : Int} {M M0 : qm} (h : Fg 1427247692705959881058285969449495136382746624 M0 M) : qP (qf_X3_setBegun N i1 i2 M) (fun r => Fg 1427247692705959881058285969449495136382746624 M0 r.2) := by
  unfold qf_X3_setBegun
  refine qP_ite ?_ ?_
  · exact (fr_X3_setBegun_J35 h)
  · refine qP_ite ?_ ?_
    · refine qP_pure (fun r1 => ?_)
      refine qP_ite ?_ ?_
      · exact qP_some h
      · refine qP_ite ?_ ?_
        · exact (fr_X3_setBegun_J35 h)
        · refine qP_ite ?_ ?_
          · exact (fr_X3_setBegun_J35 h)
          · exact qP_some h
    · exact qP_none
theorem fr_X11_begin_J29 {N : Nat} {i1 i2 t0 : Int} {M M0 : qm} (h : Fg 1427247692705959881058285969449495136382746624 M0 M) : qP (qf_X11_begin_J29 N i1 i2 t0 M) (fun r => Fg 1427247692705959881058285969449495136382746624 M0 r.2) := by
  unfold qf_X11_begin_J29
  refine qP_pure (fun r1 => ?_)
  rcases r1 with x2 | x2
  · refine qP_pure (fun r3 => ?_)
    rcases r3 with x4 | x4
    · refine qP_bind (fr_X3_setBegun Fg_refl) (fun r5 k5 => ?_)
      have h5 := Fg_tr h (Fg_mono k5 rfl)
      refine qP_ite ?_ ?_
      · exact qP_some h5
      · exact qP_none
    · exact qP_some h
  · exact qP_some h
theorem fr_X11_begin_J28 {N : Nat} {i1 i2 : Int} {M M0 : qm} (h : Fg 1427247692705959881058285969449495136382746624 M0 M) : qP (qf_X11_begin_J28 N i1 i2 M) (fun r => Fg 1427247692705959881058285969449495136382746624 M0 r.2) := by
  unfold qf_X11_begin_J28
  exact (fr_X11_begin_J29 h)
theorem fr_X11_begin_J24 {N : Nat} {i1 i2 : Int} {M M0 : qm} (h : Fg 1427247692705959881058285969449495136382746624 M0 M) : qP (qf_X11_begin_J24 N i1 i2 M) (fun r => Fg 1427247692705959881058285969449495136382746624 M0 r.2) := by
  unfold qf_X11_begin_J24
  exact (fr_X11_begin_J29 h)
theorem fr_X11_begin {N : Nat} {i1 i2 : Int} {M M0 : qm} (h : Fg 1427247692705959881058285969449495136382746624 M0 M) : qP (qf_X11_begin N i1 i2 M) (fun r => Fg 1427247692705959881058285969449495136382746624 M0 r.2) := by
  unfold qf_X11_begin
  refine qP_pure (fun r1 => ?_)
  refine qP_ite ?_ ?_
  · exact (fr_X11_begin_J28 h)
  · refine qP_ite ?_ ?_
    · exact (fr_X11_begin_J24 h)
    · refine qP_pure (fun r2 => ?_)
      refine qP_ite ?_ ?_
      · exact (fr_X11_begin_J28 h)
      · exact (fr_X11_begin_J24 h)
theorem fr_L_begin_J16 {N : Nat} {t1 t2 : Int} {M M0 : qm} (h : Fg 165263992197562149737978827008192759957101170741070304821162198818601447809079263703990008569809879497867252501392222322688 M0 M) : qP (qf_L_begin_J16 N t1 t2 M) (fun r => Fg 165263992197562149737978827008192759957101170741070304821162198818601447809079263703990008569809879497867252501392222322688 M0 r.2) := by
  unfold qf_L_begin_J16
  refine qP_ite ?_ ?_
  · refine qP_bnd (m0 := _) (Fg_wa (k := 406) h rfl rfl) (fun M1 h1 => ?_)
    exact qP_some h1
  · exact qP_none
theorem fr_L_begin {N : Nat} {i1 i2 : Int} {M M0 : qm} (h : Fg 165263992197562149737978827008192759957101170741070304821162198818601447809079263703990008569809879497867252501392222322688 M0 M) : qP (qf_L_begin N i1 i2 M) (fun r => Fg 165263992197562149737978827008192759957101170741070304821162198818601447809079263703990008569809879497867252501392222322688 M0 r.2) := by
  unfold qf_L_begin
  refine qP_bind (fr_X11_begin Fg_refl) (fun r1 k1 => ?_)
  have h1 := Fg_tr h (Fg_mono k1 rfl)
  obtain ⟨x1, m1⟩ := r1
  rcases x1 with x1 | x1
  · have h1 : Fg _ _ m1 := h1
    refine qP_ite ?_ ?_
    · exact (fr_L_begin_J16 h1)
    · exact (fr_L_begin_J16 h1)
  · have h1 : Fg _ _ m1 := h1
    refine qP_ite ?_ ?_
    · exact qP_some h1
    · refine qP_ite ?_ ?_
      · exact qP_some h1
      · exact qP_none
theorem fr_X13_begin_J18 {N : Nat} {i1 i2 t0 : Int} {M M0 : qm} (h : Fg 36695977855841144185773134324833391052745039826692497979801421430190766017415756929120296849762010984873984 M0 M) : qP (qf_X13_begin_J18 N i1 i2 t0 M) (fun r => Fg 36695977855841144185773134324833391052745039826692497979801421430190766017415756929120296849762010984873984 M0 r.2) := by
  unfold qf_X13_begin_J18
  refine qP_pure (fun r1 => ?_)
  rcases r1 with x2 | x2
  · exact qP_some h
  · refine qP_ite ?_ ?_
    · refine qP_ite ?_ ?_
      · refine qP_ite ?_ ?_
        · refine qP_bnd (m0 := _) (Fg_wa (k := 354) h rfl rfl) (fun M3 h3 => ?_)
          refine qP_ite ?_ ?_
          · exact qP_some h3
          · exact qP_none
        · exact qP_none
      · exact qP_none
    · refine qP_ite ?_ ?_
      · refine qP_bnd (m0 := _) (Fg_wa (k := 354) h rfl rfl) (fun M4 h4 => ?_)
        refine qP_ite ?_ ?_
        · exact qP_some h4
        · exact qP_none
      · exact qP_none
theorem fr_X13_begin_J13 {N : Nat} {i1 i2 : Int} {M M0 : qm} (h : Fg 36695977855841144185773134324833391052745039826692497979801421430190766017415756929120296849762010984873984 M0 M) : qP (qf_X13_begin_J13 N i1 i2 M) (fun r => Fg 36695977855841144185773134324833391052745039826692497979801421430190766017415756929120296849762010984873984 M0 r.2) := by
  unfold qf_X13_begin_J13
  exact (fr_X13_begin_J18 h)
theorem fr_X13_begin {N : Nat} {i1 i2 : Int} {M M0 : qm} (h : Fg 36695977855841144185773134324833391052745039826692497979801421430190766017415756929120296849762010984873984 M0 M) : qP (qf_X13_begin N i1 i2 M) (fun r => Fg 36695977855841144185773134324833391052745039826692497979801421430190766017415756929120296849762010984873984 M0 r.2) := by
  unfold qf_X13_begin
  refine qP_ite ?_ ?_
  · exact (fr_X13_begin_J13 h)
  · refine qP_pure (fun r1 => ?_)
    refine qP_ite ?_ ?_
    · exact (fr_X13_begin_J18 h)
    · exact (fr_X13_begin_J13 h)
theorem fr_X18_begin_J36 {N : Nat} {i1 i2 t1 : Int} {M M0 : qm} (h : Fg 36695977855841144185773134324833391052745039826692497979802882931828096920333960613953013132781666917416960 M0 M) : qP (qf_X18_begin_J36 N i1 i2 t1 M) (fun r => Fg 36695977855841144185773134324833391052745039826692497979802882931828096920333960613953013132781666917416960 M0 r.2) := by
  unfold qf_X18_begin_J36
  refine qP_bind (fr_X18_goes Fg_refl) (fun r1 k1 => ?_)
  have h1 := Fg_tr h (Fg_mono k1 rfl)
  refine qP_ite ?_ ?_
  · exact qP_some h1
  · refine qP_bind (fr_X13_begin Fg_refl) (fun r2 k2 => ?_)
    have h2 := Fg_tr h1 (Fg_mono k2 rfl)
    refine qP_ite ?_ ?_
    · exact qP_some h2
    · exact qP_some h2
theorem fr_X18_begin_J35 {N : Nat} {i1 i2 : Int} {M M0 : qm} (h : Fg 36695977855841144185773134324833391052745039826692497979802882931828096920333960613953013132781666917416960 M0 M) : qP (qf_X18_begin_J35 N i1 i2 M) (fun r => Fg 36695977855841144185773134324833391052745039826692497979802882931828096920333960613953013132781666917416960 M0 r.2) := by
  unfold qf_X18_begin_J35
  exact (fr_X18_begin_J36 h)
theorem fr_X18_begin_J31 {N : Nat} {i1 i2 : Int} {M M0 : qm} (h : Fg 36695977855841144185773134324833391052745039826692497979802882931828096920333960613953013132781666917416960 M0 M) : qP (qf_X18_begin_J31 N i1 i2 M) (fun r => Fg 36695977855841144185773134324833391052745039826692497979802882931828096920333960613953013132781666917416960 M0 r.2) := by
  unfold qf_X18_begin_J31
  exact (fr_X18_begin_J36 h)
theorem fr_X18_begin {N : Nat} {i1 i2 : Int} {M M0 : qm} (h : Fg 36695977855841144185773134324833391052745039826692497979802882931828096920333960613953013132781666917416960 M0 M) : qP (qf_X18_begin N i1 i2 M) (fun r => Fg 36695977855841144185773134324833391052745039826692497979802882931828096920333960613953013132781666917416960 M0 r.2) := by
  unfold qf_X18_begin
  refine qP_pure (fun r1 => ?_)
  refine qP_ite ?_ ?_
  · exact (fr_X18_begin_J35 h)
  · refine qP_ite ?_ ?_
    · exact (fr_X18_begin_J31 h)
    · refine qP_pure (fun r2 => ?_)
      refine qP_ite ?_ ?_
      · exact (fr_X18_begin_J35 h)
      · exact (fr_X18_begin_J31 h)
theorem fr_X3_closeCall {N : Nat} {i1 : Int} {M M0 : qm} (h : Fg 7225441444323921897857572720338069127937654784 M0 M) : qP (qf_X3_closeCall N i1 M) (fun r => Fg 7225441444323921897857572720338069127937654784 M0 r.2) := by
  unfold qf_X3_closeCall
  refine qP_bind (fr_X3_endBeginning Fg_refl) (fun r1 k1 => ?_)
  have h1 := Fg_tr h (Fg_mono k1 rfl)
  refine qP_pure (fun r2 => ?_)
  refine qP_ite ?_ ?_
  · exact qP_some h1
  · refine qP_ite ?_ ?_
    · refine qP_bnd (m0 := _) (Fg_c1 (k := 152) h1 (fun _ => rfl) rfl) (fun M3 h3 => ?_)
      refine qP_bnd (m0 := _) (Fg_w h3 rfl) (fun M4 h4 => ?_)
      exact qP_some h4
    · exact qP_none
