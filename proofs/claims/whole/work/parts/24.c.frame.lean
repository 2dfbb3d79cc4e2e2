/-! ===== frames, by program (wip/tools/q/genfr.py) ===== -/
theorem fr_X11_done {N : Nat} {i1 : Int} {M M0 : qm} (h : Fg 7225441444323921897857572720338069127937654784 M0 M) : qP (qf_X11_done N i1 M) (fun r => Fg 7225441444323921897857572720338069127937654784 M0 r.2) := by
  unfold qf_X11_done
  refine qP_pure (fun r1 => ?_)
  refine qP_pure (fun r2 => ?_)
  rcases r2 with x3 | x3
  · refine qP_pure (fun r4 => ?_)
    rcases r4 with x5 | x5
    · refine qP_bind (fr_X3_closeCall Fg_refl) (fun r6 k6 => ?_)
      have h6 := Fg_tr h (Fg_mono k6 rfl)
      exact qP_some h6
    · exact qP_some h
  · exact qP_some h
theorem fr_L_done {N : Nat} {i1 : Int} {M M0 : qm} (h : Fg 7225441444323921897857572720338069127937654784 M0 M) : qP (qf_L_done N i1 M) (fun r => Fg 7225441444323921897857572720338069127937654784 M0 r.2) := by
  unfold qf_L_done
  refine qP_bind (fr_X11_done Fg_refl) (fun r1 k1 => ?_)
  have h1 := Fg_tr h (Fg_mono k1 rfl)
  obtain ⟨x1, m1⟩ := r1
  rcases x1 with x1 | x1
  · have h1 : Fg _ _ m1 := h1
    exact qP_some h1
  · have h1 : Fg _ _ m1 := h1
    refine qP_ite ?_ ?_
    · exact qP_some h1
    · refine qP_ite ?_ ?_
      · exact qP_some h1
      · exact qP_none
theorem fr_X18_done {N : Nat} {i1 : Int} {M M0 : qm} (h : Fg 18347988927920572092886567162416695526372519913346248989902172216732713911626082149392864707900661424979968 M0 M) : qP (qf_X18_done N i1 M) (fun r => Fg 18347988927920572092886567162416695526372519913346248989902172216732713911626082149392864707900661424979968 M0 r.2) := by
  unfold qf_X18_done
  refine qP_pure (fun r1 => ?_)
  refine qP_bind (fr_X18_goes Fg_refl) (fun r2 k2 => ?_)
  have h2 := Fg_tr h (Fg_mono k2 rfl)
  refine qP_ite ?_ ?_
  · exact qP_some h2
  · refine qP_ite ?_ ?_
    · refine qP_bnd (m0 := _) (Fg_wa (k := 353) h2 rfl rfl) (fun M3 h3 => ?_)
      exact qP_some h3
    · exact qP_none
theorem fr_X3_makeGiving_L7_b {N : Nat} {i2 i3 : Int} {M M0 : qm} (h : Fg 1451332497520372954051144545183955366809205473280 M0 M) : qP (qf_X3_makeGiving_L7_b N i2 i3 M) (pU (pU (fun r => Fg 1451332497520372954051144545183955366809205473280 M0 r.2) (fun r => Fg 1451332497520372954051144545183955366809205473280 M0 r.2)) (fun r => Fg 1451332497520372954051144545183955366809205473280 M0 r.2.2)) := by
  unfold qf_X3_makeGiving_L7_b
  refine qP_ite ?_ ?_
  · exact qP_some h
  · refine qP_ite ?_ ?_
    · refine qP_bnd (m0 := _) (Fg_f2 (k := 153) h (fun _ => rfl) rfl) (fun M1 h1 => ?_)
      exact qP_some h1
    · exact qP_none
theorem fr_X3_makeGiving_L7 (n : Nat) {N : Nat} {i2 i3 : Int} {M M0 : qm} (h : Fg 1451332497520372954051144545183955366809205473280 M0 M) : qP (qf_X3_makeGiving_L7 N n i2 i3 M) (pU (fun r => Fg 1451332497520372954051144545183955366809205473280 M0 r.2) (fun r => Fg 1451332497520372954051144545183955366809205473280 M0 r.2)) := by
  unfold qf_X3_makeGiving_L7
  exact qP_loop (I := fun s => Fg 1451332497520372954051144545183955366809205473280 M0 s.2.2) (fun s hs => fr_X3_makeGiving_L7_b hs) n _ h
theorem fr_X3_makeGiving_L33_b {N : Nat} {i2 i3 : Int} {M M0 : qm} (h : Fg 1451332497520372954051144545183955366809205473280 M0 M) : qP (qf_X3_makeGiving_L33_b N i2 i3 M) (pU (pU (fun r => Fg 1451332497520372954051144545183955366809205473280 M0 r.2) (fun r => Fg 1451332497520372954051144545183955366809205473280 M0 r.2)) (fun r => Fg 1451332497520372954051144545183955366809205473280 M0 r.2.2)) := by
  unfold qf_X3_makeGiving_L33_b
  refine qP_ite ?_ ?_
  · exact qP_some h
  · refine qP_ite ?_ ?_
    · refine qP_ite ?_ ?_
      · refine qP_pure (fun r1 => ?_)
        refine qP_ite ?_ ?_
        · refine qP_bnd (m0 := _) (Fg_wa (k := 154) h rfl rfl) (fun M2 h2 => ?_)
          exact qP_some h2
        · exact qP_none
      · exact qP_none
    · refine qP_ite ?_ ?_
      · refine qP_bnd (m0 := _) (Fg_wa (k := 154) h rfl rfl) (fun M3 h3 => ?_)
        exact qP_some h3
      · exact qP_none
theorem fr_X3_makeGiving_L33 (n : Nat) {N : Nat} {i2 i3 : Int} {M M0 : qm} (h : Fg 1451332497520372954051144545183955366809205473280 M0 M) : qP (qf_X3_makeGiving_L33 N n i2 i3 M) (pU (fun r => Fg 1451332497520372954051144545183955366809205473280 M0 r.2) (fun r => Fg 1451332497520372954051144545183955366809205473280 M0 r.2)) := by
  unfold qf_X3_makeGiving_L33
  exact qP_loop (I := fun s => Fg 1451332497520372954051144545183955366809205473280 M0 s.2.2) (fun s hs => fr_X3_makeGiving_L33_b hs) n _ h
theorem fr_X3_tryRows_B_L49_b {N : Nat} {i1 i2 i3 i4 i5 j6 i8 i9 : Int} {K : Int → Int → Int → Int → Int → Int → qm → Option (Unit × qm)} (hK : ∀ {y0 y1 y2 y3 y4 y5 : Int} {M M0 : qm}, Fg 274388368922720787133455477626665439969583038464 M0 M → qP (K y0 y1 y2 y3 y4 y5 M) (fun r => Fg 274388368922720787133455477626665439969583038464 M0 r.2)) {M M0 : qm} (h : Fg 274388368922720787133455477626665439969583038464 M0 M) : qP (qf_X3_tryRows_B_L49_b N K i1 i2 i3 i4 i5 j6 i8 i9 M) (pU (pU (fun r => Fg 274388368922720787133455477626665439969583038464 M0 r.2) (fun r => Fg 274388368922720787133455477626665439969583038464 M0 r.2)) (fun r => Fg 274388368922720787133455477626665439969583038464 M0 r.2.2.2.2.2.2.2.2)) := by
  unfold qf_X3_tryRows_B_L49_b
  refine qP_ite ?_ ?_
  · exact qP_some h
  · refine qP_ite ?_ ?_
    · exact qP_some h
    · refine qP_ite ?_ ?_
      · exact qP_some h
      · refine qP_pure (fun r1 => ?_)
        refine qP_ite ?_ ?_
        · exact qP_some h
        · refine qP_ite ?_ ?_
          · refine qP_ite ?_ ?_
            · refine qP_ite ?_ ?_
              · refine qP_bnd (m0 := _) (Fg_wa (k := 156) h rfl rfl) (fun M2 h2 => ?_)
                refine qP_pure (fun r3 => ?_)
                refine qP_bind (hK h2) (fun r4 k4 => ?_)
                have h4 := k4
                exact qP_some h4
              · exact qP_none
            · exact qP_none
          · exact qP_none
theorem fr_X3_tryRows_B_L49 (n : Nat) {N : Nat} {i1 i2 i3 i4 i5 j6 i8 i9 : Int} {K : Int → Int → Int → Int → Int → Int → qm → Option (Unit × qm)} (hK : ∀ {y0 y1 y2 y3 y4 y5 : Int} {M M0 : qm}, Fg 274388368922720787133455477626665439969583038464 M0 M → qP (K y0 y1 y2 y3 y4 y5 M) (fun r => Fg 274388368922720787133455477626665439969583038464 M0 r.2)) {M M0 : qm} (h : Fg 274388368922720787133455477626665439969583038464 M0 M) : qP (qf_X3_tryRows_B_L49 N K n i1 i2 i3 i4 i5 j6 i8 i9 M) (pU (fun r => Fg 274388368922720787133455477626665439969583038464 M0 r.2) (fun r => Fg 274388368922720787133455477626665439969583038464 M0 r.2)) := by
  unfold qf_X3_tryRows_B_L49
  exact qP_loop (I := fun s => Fg 274388368922720787133455477626665439969583038464 M0 s.2.2.2.2.2.2.2.2) (fun s hs => fr_X3_tryRows_B_L49_b hK hs) n _ h
theorem fr_X3_tryRows_B {N : Nat} {i1 i2 i3 i4 i5 j6 : Int} {K : Int → Int → Int → Int → Int → Int → qm → Option (Unit × qm)} (hK : ∀ {y0 y1 y2 y3 y4 y5 : Int} {M M0 : qm}, Fg 274388368922720787133455477626665439969583038464 M0 M → qP (K y0 y1 y2 y3 y4 y5 M) (fun r => Fg 274388368922720787133455477626665439969583038464 M0 r.2)) {M M0 : qm} (h : Fg 274388368922720787133455477626665439969583038464 M0 M) : qP (qf_X3_tryRows_B N K i1 i2 i3 i4 i5 j6 M) (fun r => Fg 274388368922720787133455477626665439969583038464 M0 r.2) := by
  unfold qf_X3_tryRows_B
  refine qP_ite ?_ ?_
  · refine qP_ite ?_ ?_
    · refine qP_bnd (m0 := _) (Fg_w h rfl) (fun M1 h1 => ?_)
      refine qP_ite ?_ ?_
      · refine qP_bnd (m0 := _) (Fg_c1 (k := 157) h1 (fun _ => rfl) rfl) (fun M2 h2 => ?_)
        exact qP_some h2
      · exact qP_none
    · refine qP_ite ?_ ?_
      · refine qP_bind (fr_X3_tryRows_B_L49 _ hK h) (fun r3 k3 => ?_)
        rcases r3 with x3 | x3
        · exact qP_some k3
        · obtain ⟨y3_0, y3_1⟩ := x3
          have h3 : Fg _ _ y3_1 := k3
          exact qP_some h3
      · exact qP_none
  · exact qP_some h
theorem fr_X3_tryRows_r (n : Nat) : ∀ {N : Nat} {i1 i2 i3 i4 i5 j6 : Int} {M M0 : qm}, Fg 274388368922720787133455477626665439969583038464 M0 M → qP (qr_X3_tryRows N n i1 i2 i3 i4 i5 j6 M) (fun r => Fg 274388368922720787133455477626665439969583038464 M0 r.2) := by
  induction n with
  | zero =>
    intros
    exact qP_none
  | succ n ih =>
    intro N i1 i2 i3 i4 i5 j6 M M0 h
    exact fr_X3_tryRows_B (fun h => ih h) h
theorem fr_X3_tryRows {N : Nat} {i1 i2 i3 i4 i5 j6 : Int} {M M0 : qm} (h : Fg 274388368922720787133455477626665439969583038464 M0 M) : qP (qf_X3_tryRows N i1 i2 i3 i4 i5 j6 M) (fun r => Fg 274388368922720787133455477626665439969583038464 M0 r.2) := by
  unfold qf_X3_tryRows
  exact (fr_X3_tryRows_r _ h)
theorem fr_X3_leastRowCost {N : Nat} {i1 i2 : Int} {M M0 : qm} (h : Fg 274388368922720787133455477626665439969583038464 M0 M) : qP (qf_X3_leastRowCost N i1 i2 M) (fun r => Fg 274388368922720787133455477626665439969583038464 M0 r.2) := by
  unfold qf_X3_leastRowCost
  refine qP_bnd (m0 := _) (Fg_w h rfl) (fun M1 h1 => ?_)
  refine qP_ite ?_ ?_
  · refine qP_ite ?_ ?_
    · refine qP_bind (fr_X3_tryRows Fg_refl) (fun r2 k2 => ?_)
      have h2 := Fg_tr h1 (Fg_mono k2 rfl)
      exact qP_some h2
    · exact qP_none
  · exact qP_none
theorem fr_X3_costRows_L2_b {N : Nat} {i1 i2 : Int} {M M0 : qm} (h : Fg 320060295089311503327320628649049284333830930432 M0 M) : qP (qf_X3_costRows_L2_b N i1 i2 M) (pU (pU (fun r => Fg 320060295089311503327320628649049284333830930432 M0 r.2) (fun r => Fg 320060295089311503327320628649049284333830930432 M0 r.2)) (fun r => Fg 320060295089311503327320628649049284333830930432 M0 r.2.2)) := by
  unfold qf_X3_costRows_L2_b
  refine qP_ite ?_ ?_
  · exact qP_some h
  · refine qP_ite ?_ ?_
    · refine qP_pure (fun r1 => ?_)
      refine qP_ite ?_ ?_
      · refine qP_ite ?_ ?_
        · refine qP_bnd (m0 := _) (Fg_wa (k := 155) h rfl rfl) (fun M2 h2 => ?_)
          exact qP_some h2
        · exact qP_none
      · refine qP_bind (fr_X3_leastRowCost Fg_refl) (fun r3 k3 => ?_)
        have h3 := Fg_tr h (Fg_mono k3 rfl)
        refine qP_ite ?_ ?_
        · refine qP_bnd (m0 := _) (Fg_wa (k := 155) h3 rfl rfl) (fun M4 h4 => ?_)
          exact qP_some h4
        · exact qP_none
    · exact qP_none
theorem fr_X3_costRows_L2 (n : Nat) {N : Nat} {i1 i2 : Int} {M M0 : qm} (h : Fg 320060295089311503327320628649049284333830930432 M0 M) : qP (qf_X3_costRows_L2 N n i1 i2 M) (pU (fun r => Fg 320060295089311503327320628649049284333830930432 M0 r.2) (fun r => Fg 320060295089311503327320628649049284333830930432 M0 r.2)) := by
  unfold qf_X3_costRows_L2
  exact qP_loop (I := fun s => Fg 320060295089311503327320628649049284333830930432 M0 s.2.2) (fun s hs => fr_X3_costRows_L2_b hs) n _ h
theorem fr_X3_costRows {N : Nat} {i1 : Int} {M M0 : qm} (h : Fg 320060295089311503327320628649049284333830930432 M0 M) : qP (qf_X3_costRows N i1 M) (fun r => Fg 320060295089311503327320628649049284333830930432 M0 r.2) := by
  unfold qf_X3_costRows
  refine qP_bind (fr_X3_costRows_L2 _ h) (fun r1 k1 => ?_)
  rcases r1 with x1 | x1
  · exact qP_some k1
  · obtain ⟨y1_0, y1_1⟩ := x1
    have h1 : Fg _ _ y1_1 := k1
    exact qP_some h1
theorem fr_X3_makeGiving_L73_b {N : Nat} {i3 : Int} {M M0 : qm} (h : Fg 1451332497520372954051144545183955366809205473280 M0 M) : qP (qf_X3_makeGiving_L73_b N i3 M) (pU (pU (fun r => Fg 1451332497520372954051144545183955366809205473280 M0 r.2) (fun r => Fg 1451332497520372954051144545183955366809205473280 M0 r.2)) (fun r => Fg 1451332497520372954051144545183955366809205473280 M0 r.2)) := by
  unfold qf_X3_makeGiving_L73_b
  refine qP_ite ?_ ?_
  · exact qP_some h
  · refine qP_bind (fr_X3_costRows Fg_refl) (fun r1 k1 => ?_)
    have h1 := Fg_tr h (Fg_mono k1 rfl)
    exact qP_some h1
theorem fr_X3_makeGiving_L73 (n : Nat) {N : Nat} {i3 : Int} {M M0 : qm} (h : Fg 1451332497520372954051144545183955366809205473280 M0 M) : qP (qf_X3_makeGiving_L73 N n i3 M) (pU (fun r => Fg 1451332497520372954051144545183955366809205473280 M0 r.2) (fun r => Fg 1451332497520372954051144545183955366809205473280 M0 r.2)) := by
  unfold qf_X3_makeGiving_L73
  exact qP_loop (I := fun s => Fg 1451332497520372954051144545183955366809205473280 M0 s.2) (fun s hs => fr_X3_makeGiving_L73_b hs) n _ h
theorem fr_X3_share_B_L32_b {N : Nat} {i1 i2 : Int} {K : Int → qm → Option (Unit × qm)} (hK : ∀ {y0 : Int} {M M0 : qm}, Fg 1096839851844530168593292767521937012310140780544 M0 M → qP (K y0 M) (fun r => Fg 1096839851844530168593292767521937012310140780544 M0 r.2)) {M M0 : qm} (h : Fg 1096839851844530168593292767521937012310140780544 M0 M) : qP (qf_X3_share_B_L32_b N K i1 i2 M) (pU (pU (fun r => Fg 1096839851844530168593292767521937012310140780544 M0 r.2) (fun r => Fg 1096839851844530168593292767521937012310140780544 M0 r.2)) (fun r => Fg 1096839851844530168593292767521937012310140780544 M0 r.2.2)) := by
  unfold qf_X3_share_B_L32_b
  refine qP_ite ?_ ?_
  · exact qP_some h
  · refine qP_ite ?_ ?_
    · refine qP_ite ?_ ?_
      · exact qP_some h
      · refine qP_ite ?_ ?_
        · refine qP_ite ?_ ?_
          · refine qP_bnd (m0 := _) (Fg_wa (k := 158) h rfl rfl) (fun M1 h1 => ?_)
            refine qP_bind (hK h1) (fun r2 k2 => ?_)
            have h2 := k2
            refine qP_ite ?_ ?_
            · refine qP_ite ?_ ?_
              · refine qP_bnd (m0 := _) (Fg_wa (k := 158) h2 rfl rfl) (fun M3 h3 => ?_)
                exact qP_some h3
              · exact qP_none
            · exact qP_none
          · exact qP_none
        · exact qP_none
    · exact qP_none
theorem fr_X3_share_B_L32 (n : Nat) {N : Nat} {i1 i2 : Int} {K : Int → qm → Option (Unit × qm)} (hK : ∀ {y0 : Int} {M M0 : qm}, Fg 1096839851844530168593292767521937012310140780544 M0 M → qP (K y0 M) (fun r => Fg 1096839851844530168593292767521937012310140780544 M0 r.2)) {M M0 : qm} (h : Fg 1096839851844530168593292767521937012310140780544 M0 M) : qP (qf_X3_share_B_L32 N K n i1 i2 M) (pU (fun r => Fg 1096839851844530168593292767521937012310140780544 M0 r.2) (fun r => Fg 1096839851844530168593292767521937012310140780544 M0 r.2)) := by
  unfold qf_X3_share_B_L32
  exact qP_loop (I := fun s => Fg 1096839851844530168593292767521937012310140780544 M0 s.2.2) (fun s hs => fr_X3_share_B_L32_b hK hs) n _ h
theorem fr_X3_keepShares {N : Nat} {M M0 : qm} (h : Fg 731464442511804439042371559342866257396157644800 M0 M) : qP (qf_X3_keepShares N M) (fun r => Fg 731464442511804439042371559342866257396157644800 M0 r.2) := by
  unfold qf_X3_keepShares
  refine qP_pure (fun r1 => ?_)
  rcases r1 with x2 | x2
  · exact qP_some h
  · refine qP_ite ?_ ?_
    · exact qP_some h
    · refine qP_bnd (m0 := _) (Fg_w h rfl) (fun M3 h3 => ?_)
      refine qP_ite ?_ ?_
      · refine qP_bnd (m0 := _) (Fg_c1 (k := 159) h3 (fun _ => rfl) rfl) (fun M4 h4 => ?_)
        exact qP_some h4
      · exact qP_none
theorem fr_X3_share_B {N : Nat} {i1 : Int} {K : Int → qm → Option (Unit × qm)} (hK : ∀ {y0 : Int} {M M0 : qm}, Fg 1096839851844530168593292767521937012310140780544 M0 M → qP (K y0 M) (fun r => Fg 1096839851844530168593292767521937012310140780544 M0 r.2)) {M M0 : qm} (h : Fg 1096839851844530168593292767521937012310140780544 M0 M) : qP (qf_X3_share_B N K i1 M) (fun r => Fg 1096839851844530168593292767521937012310140780544 M0 r.2) := by
  unfold qf_X3_share_B
  refine qP_ite ?_ ?_
  · refine qP_ite ?_ ?_
    · refine qP_ite ?_ ?_
      · refine qP_bind (hK h) (fun r1 k1 => ?_)
        have h1 := k1
        exact qP_some h1
      · refine qP_bind (fr_X3_share_B_L32 _ hK h) (fun r2 k2 => ?_)
        rcases r2 with x2 | x2
        · exact qP_some k2
        · obtain ⟨y2_0, y2_1⟩ := x2
          have h2 : Fg _ _ y2_1 := k2
          exact qP_some h2
    · exact qP_none
  · refine qP_bind (fr_X3_keepShares Fg_refl) (fun r3 k3 => ?_)
    have h3 := Fg_tr h (Fg_mono k3 rfl)
    exact qP_some h3
theorem fr_X3_share_r (n : Nat) : ∀ {N : Nat} {i1 : Int} {M M0 : qm}, Fg 1096839851844530168593292767521937012310140780544 M0 M → qP (qr_X3_share N n i1 M) (fun r => Fg 1096839851844530168593292767521937012310140780544 M0 r.2) := by
  induction n with
  | zero =>
    intros
    exact qP_none
  | succ n ih =>
    intro N i1 M M0 h
    exact fr_X3_share_B (fun h => ih h) h
theorem fr_X3_share {N : Nat} {i1 : Int} {M M0 : qm} (h : Fg 1096839851844530168593292767521937012310140780544 M0 M) : qP (qf_X3_share N i1 M) (fun r => Fg 1096839851844530168593292767521937012310140780544 M0 r.2) := by
  unfold qf_X3_share
  exact (fr_X3_share_r _ h)
theorem fr_X3_keepRow_L54_b {N : Nat} {i1 i3 i4 i5 i6 i7 : Int} {M M0 : qm} (h : Fg 285806350464368466181921765382261401060645011456 M0 M) : qP (qf_X3_keepRow_L54_b N i1 i3 i4 i5 i6 i7 M) (pU (pU (fun r => Fg 285806350464368466181921765382261401060645011456 M0 r.2) (fun r => Fg 285806350464368466181921765382261401060645011456 M0 r.2)) (fun r => Fg 285806350464368466181921765382261401060645011456 M0 r.2.2.2.2.2.2)) := by
  unfold qf_X3_keepRow_L54_b
  refine qP_ite ?_ ?_
  · exact qP_some h
  · refine qP_ite ?_ ?_
    · exact qP_some h
    · refine qP_ite ?_ ?_
      · refine qP_ite ?_ ?_
        · refine qP_ite ?_ ?_
          · refine qP_ite ?_ ?_
            · refine qP_bnd (m0 := _) (Fg_wa (k := 153) h rfl rfl) (fun M1 h1 => ?_)
              refine qP_bnd (m0 := _) (Fg_wa (k := 153) h1 rfl rfl) (fun M2 h2 => ?_)
              refine qP_bnd (m0 := _) (Fg_wa (k := 153) h2 rfl rfl) (fun M3 h3 => ?_)
              refine qP_bnd (m0 := _) (Fg_wa (k := 153) h3 rfl rfl) (fun M4 h4 => ?_)
              exact qP_some h4
            · exact qP_none
          · exact qP_none
        · exact qP_none
      · exact qP_none
theorem fr_X3_keepRow_L54 (n : Nat) {N : Nat} {i1 i3 i4 i5 i6 i7 : Int} {M M0 : qm} (h : Fg 285806350464368466181921765382261401060645011456 M0 M) : qP (qf_X3_keepRow_L54 N n i1 i3 i4 i5 i6 i7 M) (pU (fun r => Fg 285806350464368466181921765382261401060645011456 M0 r.2) (fun r => Fg 285806350464368466181921765382261401060645011456 M0 r.2)) := by
  unfold qf_X3_keepRow_L54
  exact qP_loop (I := fun s => Fg 285806350464368466181921765382261401060645011456 M0 s.2.2.2.2.2.2) (fun s hs => fr_X3_keepRow_L54_b hs) n _ h
theorem fr_X3_keepRow {N : Nat} {i1 i2 : Int} {M M0 : qm} (h : Fg 285806350464368466181921765382261401060645011456 M0 M) : qP (qf_X3_keepRow N i1 i2 M) (fun r => Fg 285806350464368466181921765382261401060645011456 M0 r.2) := by
  unfold qf_X3_keepRow
  refine qP_bind (fr_X3_leastRowCost Fg_refl) (fun r1 k1 => ?_)
  have h1 := Fg_tr h (Fg_mono k1 rfl)
  refine qP_ite ?_ ?_
  · refine qP_ite ?_ ?_
    · refine qP_ite ?_ ?_
      · refine qP_pure (fun r2 => ?_)
        refine qP_bind (fr_X3_keepRow_L54 _ h1) (fun r3 k3 => ?_)
        rcases r3 with x3 | x3
        · exact qP_some k3
        · obtain ⟨y3_0, y3_1⟩ := x3
          have h3 : Fg _ _ y3_1 := k3
          exact qP_some h3
      · exact qP_none
    · exact qP_none
  · exact qP_none
theorem fr_X3_makeGiving_L114_b {N : Nat} {i3 : Int} {M M0 : qm} (h : Fg 1451332497520372954051144545183955366809205473280 M0 M) : qP (qf_X3_makeGiving_L114_b N i3 M) (pU (pU (fun r => Fg 1451332497520372954051144545183955366809205473280 M0 r.2) (fun r => Fg 1451332497520372954051144545183955366809205473280 M0 r.2)) (fun r => Fg 1451332497520372954051144545183955366809205473280 M0 r.2)) := by
  unfold qf_X3_makeGiving_L114_b
  refine qP_ite ?_ ?_
  · exact qP_some h
  · refine qP_ite ?_ ?_
    · refine qP_bind (fr_X3_keepRow Fg_refl) (fun r1 k1 => ?_)
      have h1 := Fg_tr h (Fg_mono k1 rfl)
      exact qP_some h1
    · exact qP_none
theorem fr_X3_makeGiving_L114 (n : Nat) {N : Nat} {i3 : Int} {M M0 : qm} (h : Fg 1451332497520372954051144545183955366809205473280 M0 M) : qP (qf_X3_makeGiving_L114 N n i3 M) (pU (fun r => Fg 1451332497520372954051144545183955366809205473280 M0 r.2) (fun r => Fg 1451332497520372954051144545183955366809205473280 M0 r.2)) := by
  unfold qf_X3_makeGiving_L114
  exact qP_loop (I := fun s => Fg 1451332497520372954051144545183955366809205473280 M0 s.2) (fun s hs => fr_X3_makeGiving_L114_b hs) n _ h
theorem fr_X3_makeGiving {N : Nat} {i1 i2 : Int} {M M0 : qm} (h : Fg 1451332497520372954051144545183955366809205473280 M0 M) : qP (qf_X3_makeGiving N i1 i2 M) (fun r => Fg 1451332497520372954051144545183955366809205473280 M0 r.2) := by
  unfold qf_X3_makeGiving
  refine qP_bnd (m0 := _) (Fg_w h rfl) (fun M1 h1 => ?_)
  refine qP_bind (fr_X3_makeGiving_L7 _ h1) (fun r2 k2 => ?_)
  rcases r2 with x2 | x2
  · exact qP_some k2
  · obtain ⟨y2_0, y2_1⟩ := x2
    have h2 : Fg _ _ y2_1 := k2
    refine qP_bind (fr_X3_makeGiving_L33 _ h2) (fun r3 k3 => ?_)
    rcases r3 with x3 | x3
    · exact qP_some k3
    · obtain ⟨y3_0, y3_1⟩ := x3
      have h3 : Fg _ _ y3_1 := k3
      refine qP_bind (fr_X3_makeGiving_L73 _ h3) (fun r4 k4 => ?_)
      rcases r4 with x4 | x4
      · exact qP_some k4
      · obtain ⟨y4_0, y4_1⟩ := x4
        have h4 : Fg _ _ y4_1 := k4
        refine qP_bnd (m0 := _) (Fg_f1 (k := 158) h4 (fun _ => rfl) rfl) (fun M5 h5 => ?_)
        refine qP_bnd (m0 := _) (Fg_w h5 rfl) (fun M6 h6 => ?_)
        refine qP_bind (fr_X3_share Fg_refl) (fun r7 k7 => ?_)
        have h7 := Fg_tr h6 (Fg_mono k7 rfl)
        refine qP_bind (fr_X3_makeGiving_L114 _ h7) (fun r8 k8 => ?_)
        rcases r8 with x8 | x8
        · exact qP_some k8
        · obtain ⟨y8_0, y8_1⟩ := x8
          have h8 : Fg _ _ y8_1 := k8
          exact qP_some h8
theorem fr_X11_give {N : Nat} {M M0 : qm} (h : Fg 1451332497520372954051144545183955366809205473280 M0 M) : qP (qf_X11_give N M) (fun r => Fg 1451332497520372954051144545183955366809205473280 M0 r.2) := by
  unfold qf_X11_give
  refine qP_pure (fun r1 => ?_)
  rcases r1 with x2 | x2
  · refine qP_pure (fun r3 => ?_)
    refine qP_bind (fr_X3_makeGiving Fg_refl) (fun r4 k4 => ?_)
    have h4 := Fg_tr h (Fg_mono k4 rfl)
    exact qP_some h4
  · exact qP_some h
theorem fr_L_give {N : Nat} {M M0 : qm} (h : Fg 165263992197562149737978827008192759957101170741070304821162198818601447810529168953817675563979965757081758373065045049344 M0 M) : qP (qf_L_give N M) (fun r => Fg 165263992197562149737978827008192759957101170741070304821162198818601447810529168953817675563979965757081758373065045049344 M0 r.2) := by
  unfold qf_L_give
  refine qP_bind (fr_X11_give Fg_refl) (fun r1 k1 => ?_)
  have h1 := Fg_tr h (Fg_mono k1 rfl)
  obtain ⟨x1, m1⟩ := r1
  rcases x1 with x1 | x1
  · have h1 : Fg _ _ m1 := h1
    refine qP_bnd (m0 := _) (Fg_wa (k := 406) h1 rfl rfl) (fun M2 h2 => ?_)
    exact qP_some h2
  · have h1 : Fg _ _ m1 := h1
    refine qP_ite ?_ ?_
    · exact qP_some h1
    · exact qP_none
theorem fr_X13_choose_L7_b {N : Nat} {i1 : Int} {M M0 : qm} (h : Fg 73409873669619710805230728187911329659715052817362873155882042773189242369800955145803640719470194826674176 M0 M) : qP (qf_X13_choose_L7_b N i1 M) (pU (pU (fun r => Fg 73409873669619710805230728187911329659715052817362873155882042773189242369800955145803640719470194826674176 M0 r.2) (fun r => Fg 73409873669619710805230728187911329659715052817362873155882042773189242369800955145803640719470194826674176 M0 r.2)) (fun r => Fg 73409873669619710805230728187911329659715052817362873155882042773189242369800955145803640719470194826674176 M0 r.2)) := by
  unfold qf_X13_choose_L7_b
  refine qP_ite ?_ ?_
  · exact qP_some h
  · refine qP_ite ?_ ?_
    · refine qP_ite ?_ ?_
      · exact qP_some h
      · refine qP_pure (fun r1 => ?_)
        refine qP_ite ?_ ?_
        · exact qP_some h
        · refine qP_ite ?_ ?_
          · refine qP_bnd (m0 := _) (Fg_wa (k := 355) h rfl rfl) (fun M2 h2 => ?_)
            refine qP_bnd (m0 := _) (Fg_w h2 rfl) (fun M3 h3 => ?_)
            exact qP_some h3
          · exact qP_none
    · exact qP_none
theorem fr_X13_choose_L7 (n : Nat) {N : Nat} {i1 : Int} {M M0 : qm} (h : Fg 73409873669619710805230728187911329659715052817362873155882042773189242369800955145803640719470194826674176 M0 M) : qP (qf_X13_choose_L7 N n i1 M) (pU (fun r => Fg 73409873669619710805230728187911329659715052817362873155882042773189242369800955145803640719470194826674176 M0 r.2) (fun r => Fg 73409873669619710805230728187911329659715052817362873155882042773189242369800955145803640719470194826674176 M0 r.2)) := by
  unfold qf_X13_choose_L7
  exact qP_loop (I := fun s => Fg 73409873669619710805230728187911329659715052817362873155882042773189242369800955145803640719470194826674176 M0 s.2) (fun s hs => fr_X13_choose_L7_b hs) n _ h
theorem fr_X13_choose {N : Nat} {M M0 : qm} (h : Fg 73409873669619710805230728187911329659715052817362873155882042773189242369800955145803640719470194826674176 M0 M) : qP (qf_X13_choose N M) (fun r => Fg 73409873669619710805230728187911329659715052817362873155882042773189242369800955145803640719470194826674176 M0 r.2) := by
  unfold qf_X13_choose
  refine qP_bnd (m0 := _) (Fg_w h rfl) (fun M1 h1 => ?_)
  refine qP_bind (fr_X13_choose_L7 _ h1) (fun r2 k2 => ?_)
  rcases r2 with x2 | x2
  · exact qP_some k2
  · obtain ⟨y2_0, y2_1⟩ := x2
    have h2 : Fg _ _ y2_1 := k2
    exact qP_some h2
theorem fr_X13_findRow_L24_b {N : Nat} {i1 i2 i3 i4 : Int} {M M0 : qm} (h : Fg 1027523215879426882069016680171824044585311061475345697826998199870956869157580076590494405833228653290323968 M0 M) : qP (qf_X13_findRow_L24_b N i1 i2 i3 i4 M) (pU (pU (fun r => Fg 1027523215879426882069016680171824044585311061475345697826998199870956869157580076590494405833228653290323968 M0 r.2) (fun r => Fg 1027523215879426882069016680171824044585311061475345697826998199870956869157580076590494405833228653290323968 M0 r.2)) (fun r => Fg 1027523215879426882069016680171824044585311061475345697826998199870956869157580076590494405833228653290323968 M0 r.2.2.2.2)) := by
  unfold qf_X13_findRow_L24_b
  refine qP_ite ?_ ?_
  · exact qP_some h
  · refine qP_ite ?_ ?_
    · refine qP_ite ?_ ?_
      · refine qP_ite ?_ ?_
        · refine qP_bnd (m0 := _) (Fg_wa (k := 356) h rfl rfl) (fun M1 h1 => ?_)
          refine qP_bnd (m0 := _) (Fg_w h1 rfl) (fun M2 h2 => ?_)
          refine qP_ite ?_ ?_
          · refine qP_pure (fun r3 => ?_)
            refine qP_ite ?_ ?_
            · exact qP_some h2
            · exact qP_some h2
          · exact qP_none
        · exact qP_none
      · exact qP_none
    · exact qP_some h
theorem fr_X13_findRow_L24 (n : Nat) {N : Nat} {i1 i2 i3 i4 : Int} {M M0 : qm} (h : Fg 1027523215879426882069016680171824044585311061475345697826998199870956869157580076590494405833228653290323968 M0 M) : qP (qf_X13_findRow_L24 N n i1 i2 i3 i4 M) (pU (fun r => Fg 1027523215879426882069016680171824044585311061475345697826998199870956869157580076590494405833228653290323968 M0 r.2) (fun r => Fg 1027523215879426882069016680171824044585311061475345697826998199870956869157580076590494405833228653290323968 M0 r.2)) := by
  unfold qf_X13_findRow_L24
  exact qP_loop (I := fun s => Fg 1027523215879426882069016680171824044585311061475345697826998199870956869157580076590494405833228653290323968 M0 s.2.2.2.2) (fun s hs => fr_X13_findRow_L24_b hs) n _ h
theorem fr_X13_nextRow_L107_b {N : Nat} {i4 i5 : Int} {M M0 : qm} (h : Fg 146783911423364576743092537299333564210980159306769991919205685720763064069663027716481187399048043939495936 M0 M) : qP (qf_X13_nextRow_L107_b N i4 i5 M) (pU (pU (fun r => Fg 146783911423364576743092537299333564210980159306769991919205685720763064069663027716481187399048043939495936 M0 r.2) (fun r => Fg 146783911423364576743092537299333564210980159306769991919205685720763064069663027716481187399048043939495936 M0 r.2)) (fun r => Fg 146783911423364576743092537299333564210980159306769991919205685720763064069663027716481187399048043939495936 M0 r.2.2)) := by
  unfold qf_X13_nextRow_L107_b
  refine qP_ite ?_ ?_
  · exact qP_some h
  · refine qP_ite ?_ ?_
    · refine qP_ite ?_ ?_
      · refine qP_ite ?_ ?_
        · refine qP_bnd (m0 := _) (Fg_wa (k := 356) h rfl rfl) (fun M1 h1 => ?_)
          refine qP_ite ?_ ?_
          · refine qP_bnd (m0 := _) (Fg_wa (k := 356) h1 rfl rfl) (fun M2 h2 => ?_)
            exact qP_some h2
          · exact qP_none
        · exact qP_none
      · exact qP_none
    · exact qP_none
theorem fr_X13_nextRow_L107 (n : Nat) {N : Nat} {i4 i5 : Int} {M M0 : qm} (h : Fg 146783911423364576743092537299333564210980159306769991919205685720763064069663027716481187399048043939495936 M0 M) : qP (qf_X13_nextRow_L107 N n i4 i5 M) (pU (fun r => Fg 146783911423364576743092537299333564210980159306769991919205685720763064069663027716481187399048043939495936 M0 r.2) (fun r => Fg 146783911423364576743092537299333564210980159306769991919205685720763064069663027716481187399048043939495936 M0 r.2)) := by
  unfold qf_X13_nextRow_L107
  exact qP_loop (I := fun s => Fg 146783911423364576743092537299333564210980159306769991919205685720763064069663027716481187399048043939495936 M0 s.2.2) (fun s hs => fr_X13_nextRow_L107_b hs) n _ h
theorem fr_X13_nextRow_J34 {N : Nat} {i1 : Int} {M M0 : qm} (h : Fg 146783911423364576743092537299333564210980159306769991919205685720763064069663027716481187399048043939495936 M0 M) : qP (qf_X13_nextRow_J34 N i1 M) (fun r => Fg 146783911423364576743092537299333564210980159306769991919205685720763064069663027716481187399048043939495936 M0 r.2) := by
  unfold qf_X13_nextRow_J34
  refine qP_ite ?_ ?_
  · refine qP_pure (fun r1 => ?_)
    rcases r1 with x2 | x2
    · exact qP_some h
    · refine qP_ite ?_ ?_
      · refine qP_ite ?_ ?_
        · refine qP_ite ?_ ?_
          · refine qP_bnd (m0 := _) (Fg_wa (k := 356) h rfl rfl) (fun M3 h3 => ?_)
            refine qP_ite ?_ ?_
            · refine qP_bnd (m0 := _) (Fg_wa (k := 356) h3 rfl rfl) (fun M4 h4 => ?_)
              refine qP_bind (fr_X13_nextRow_L107 _ h4) (fun r5 k5 => ?_)
              rcases r5 with x5 | x5
              · exact qP_some k5
              · obtain ⟨y5_0, y5_1⟩ := x5
                have h5 : Fg _ _ y5_1 := k5
                exact qP_some h5
            · exact qP_none
          · exact qP_none
        · exact qP_none
      · exact qP_none
  · exact qP_some h
theorem fr_X13_nextRow {N : Nat} {M M0 : qm} (h : Fg 146783911423364576743092537299333564210980159306769991919205685720763064069663027716481187399048043939495936 M0 M) : qP (qf_X13_nextRow N M) (fun r => Fg 146783911423364576743092537299333564210980159306769991919205685720763064069663027716481187399048043939495936 M0 r.2) := by
  unfold qf_X13_nextRow
  refine qP_pure (fun r1 => ?_)
  rcases r1 with x2 | x2
  · exact qP_some h
  · exact (fr_X13_nextRow_J34 h)
theorem fr_X13_findRow_J174 {N : Nat} {i1 i3 : Int} {M M0 : qm} (h : Fg 1027523215879426882069016680171824044585311061475345697826998199870956869157580076590494405833228653290323968 M0 M) : qP (qf_X13_findRow_J174 N i1 i3 M) (pU (pU (fun r => Fg 1027523215879426882069016680171824044585311061475345697826998199870956869157580076590494405833228653290323968 M0 r.2) (fun r => Fg 1027523215879426882069016680171824044585311061475345697826998199870956869157580076590494405833228653290323968 M0 r.2)) (fun r => Fg 1027523215879426882069016680171824044585311061475345697826998199870956869157580076590494405833228653290323968 M0 r.2.2.2)) := by
  unfold qf_X13_findRow_J174
  refine qP_bind (fr_X13_nextRow Fg_refl) (fun r1 k1 => ?_)
  have h1 := Fg_tr h (Fg_mono k1 rfl)
  exact qP_some h1
theorem fr_X13_findRow_L140_b {N : Nat} {i1 i3 i7 : Int} {M M0 : qm} (h : Fg 1027523215879426882069016680171824044585311061475345697826998199870956869157580076590494405833228653290323968 M0 M) : qP (qf_X13_findRow_L140_b N i1 i3 i7 M) (pU (pU (fun r => Fg 1027523215879426882069016680171824044585311061475345697826998199870956869157580076590494405833228653290323968 M0 r.2) (fun r => Fg 1027523215879426882069016680171824044585311061475345697826998199870956869157580076590494405833228653290323968 M0 r.2)) (fun r => Fg 1027523215879426882069016680171824044585311061475345697826998199870956869157580076590494405833228653290323968 M0 r.2.2.2)) := by
  unfold qf_X13_findRow_L140_b
  refine qP_ite ?_ ?_
  · exact qP_some h
  · refine qP_ite ?_ ?_
    · refine qP_ite ?_ ?_
      · refine qP_bnd (m0 := _) (Fg_wa (k := 358) h rfl rfl) (fun M1 h1 => ?_)
        exact qP_some h1
      · exact qP_none
    · exact qP_none
theorem fr_X13_findRow_L140 (n : Nat) {N : Nat} {i1 i3 i7 : Int} {M M0 : qm} (h : Fg 1027523215879426882069016680171824044585311061475345697826998199870956869157580076590494405833228653290323968 M0 M) : qP (qf_X13_findRow_L140 N n i1 i3 i7 M) (pU (fun r => Fg 1027523215879426882069016680171824044585311061475345697826998199870956869157580076590494405833228653290323968 M0 r.2) (fun r => Fg 1027523215879426882069016680171824044585311061475345697826998199870956869157580076590494405833228653290323968 M0 r.2)) := by
  unfold qf_X13_findRow_L140
  exact qP_loop (I := fun s => Fg 1027523215879426882069016680171824044585311061475345697826998199870956869157580076590494405833228653290323968 M0 s.2.2.2) (fun s hs => fr_X13_findRow_L140_b hs) n _ h
theorem fr_X13_findRow_L97_b {N : Nat} {i1 i3 i4 : Int} {M M0 : qm} (h : Fg 1027523215879426882069016680171824044585311061475345697826998199870956869157580076590494405833228653290323968 M0 M) : qP (qf_X13_findRow_L97_b N i1 i3 i4 M) (pU (pU (fun r => Fg 1027523215879426882069016680171824044585311061475345697826998199870956869157580076590494405833228653290323968 M0 r.2) (fun r => Fg 1027523215879426882069016680171824044585311061475345697826998199870956869157580076590494405833228653290323968 M0 r.2)) (fun r => Fg 1027523215879426882069016680171824044585311061475345697826998199870956869157580076590494405833228653290323968 M0 r.2.2.2)) := by
  unfold qf_X13_findRow_L97_b
  refine qP_ite ?_ ?_
  · exact qP_some h
  · refine qP_pure (fun r1 => ?_)
    refine qP_pure (fun r2 => ?_)
    refine qP_ite ?_ ?_
    · exact (fr_X13_findRow_J174 h)
    · refine qP_ite ?_ ?_
      · refine qP_ite ?_ ?_
        · exact (fr_X13_findRow_J174 h)
        · refine qP_ite ?_ ?_
          · refine qP_bnd (m0 := _) (Fg_wa (k := 357) h rfl rfl) (fun M3 h3 => ?_)
            refine qP_bind (fr_X13_findRow_L140 _ h3) (fun r4 k4 => ?_)
            rcases r4 with x4 | x4
            · exact qP_some k4
            · obtain ⟨y4_0, y4_1⟩ := x4
              have h4 : Fg _ _ y4_1 := k4
              exact (fr_X13_findRow_J174 h4)
          · exact qP_none
      · exact qP_none
theorem fr_X13_findRow_L97 (n : Nat) {N : Nat} {i1 i3 i4 : Int} {M M0 : qm} (h : Fg 1027523215879426882069016680171824044585311061475345697826998199870956869157580076590494405833228653290323968 M0 M) : qP (qf_X13_findRow_L97 N n i1 i3 i4 M) (pU (fun r => Fg 1027523215879426882069016680171824044585311061475345697826998199870956869157580076590494405833228653290323968 M0 r.2) (fun r => Fg 1027523215879426882069016680171824044585311061475345697826998199870956869157580076590494405833228653290323968 M0 r.2)) := by
  unfold qf_X13_findRow_L97
  exact qP_loop (I := fun s => Fg 1027523215879426882069016680171824044585311061475345697826998199870956869157580076590494405833228653290323968 M0 s.2.2.2) (fun s hs => fr_X13_findRow_L97_b hs) n _ h
theorem fr_X13_findRow {N : Nat} {i1 i2 : Int} {M M0 : qm} (h : Fg 1027523215879426882069016680171824044585311061475345697826998199870956869157580076590494405833228653290323968 M0 M) : qP (qf_X13_findRow N i1 i2 M) (fun r => Fg 1027523215879426882069016680171824044585311061475345697826998199870956869157580076590494405833228653290323968 M0 r.2) := by
  unfold qf_X13_findRow
  refine qP_ite ?_ ?_
  · refine qP_bnd (m0 := _) (Fg_wa (k := 357) h rfl rfl) (fun M1 h1 => ?_)
    refine qP_bnd (m0 := _) (Fg_w h1 rfl) (fun M2 h2 => ?_)
    refine qP_bind (fr_X13_findRow_L24 _ h2) (fun r3 k3 => ?_)
    rcases r3 with x3 | x3
    · exact qP_some k3
    · obtain ⟨y3_0, y3_1⟩ := x3
      have h3 : Fg _ _ y3_1 := k3
      refine qP_bind (fr_X13_findRow_L97 _ h3) (fun r4 k4 => ?_)
      rcases r4 with x4 | x4
      · exact qP_some k4
      · obtain ⟨y4_0, y4_1⟩ := x4
        have h4 : Fg _ _ y4_1 := k4
        exact qP_some h4
  · exact qP_none
theorem fr_X13_give_L41_b {N : Nat} {i1 i2 i3 : Int} {M M0 : qm} (h : Fg 18715002460352795802045351884279763079562645231105107601287562529135713799886944357714040534438464120856510464 M0 M) : qP (qf_X13_give_L41_b N i1 i2 i3 M) (pU (pU (fun r => Fg 18715002460352795802045351884279763079562645231105107601287562529135713799886944357714040534438464120856510464 M0 r.2) (fun r => Fg 18715002460352795802045351884279763079562645231105107601287562529135713799886944357714040534438464120856510464 M0 r.2)) (fun r => Fg 18715002460352795802045351884279763079562645231105107601287562529135713799886944357714040534438464120856510464 M0 r.2.2.2)) := by
  unfold qf_X13_give_L41_b
  refine qP_ite ?_ ?_
  · exact qP_some h
  · refine qP_bind (fr_X13_findRow Fg_refl) (fun r1 k1 => ?_)
    have h1 := Fg_tr h (Fg_mono k1 rfl)
    exact qP_some h1
theorem fr_X13_give_L41 (n : Nat) {N : Nat} {i1 i2 i3 : Int} {M M0 : qm} (h : Fg 18715002460352795802045351884279763079562645231105107601287562529135713799886944357714040534438464120856510464 M0 M) : qP (qf_X13_give_L41 N n i1 i2 i3 M) (pU (fun r => Fg 18715002460352795802045351884279763079562645231105107601287562529135713799886944357714040534438464120856510464 M0 r.2) (fun r => Fg 18715002460352795802045351884279763079562645231105107601287562529135713799886944357714040534438464120856510464 M0 r.2)) := by
  unfold qf_X13_give_L41
  exact qP_loop (I := fun s => Fg 18715002460352795802045351884279763079562645231105107601287562529135713799886944357714040534438464120856510464 M0 s.2.2.2) (fun s hs => fr_X13_give_L41_b hs) n _ h
theorem fr_X13_give_L31_b {N : Nat} {i1 i2 : Int} {M M0 : qm} (h : Fg 18715002460352795802045351884279763079562645231105107601287562529135713799886944357714040534438464120856510464 M0 M) : qP (qf_X13_give_L31_b N i1 i2 M) (pU (pU (fun r => Fg 18715002460352795802045351884279763079562645231105107601287562529135713799886944357714040534438464120856510464 M0 r.2) (fun r => Fg 18715002460352795802045351884279763079562645231105107601287562529135713799886944357714040534438464120856510464 M0 r.2)) (fun r => Fg 18715002460352795802045351884279763079562645231105107601287562529135713799886944357714040534438464120856510464 M0 r.2.2)) := by
  unfold qf_X13_give_L31_b
  refine qP_ite ?_ ?_
  · exact qP_some h
  · refine qP_bind (fr_X13_give_L41 _ h) (fun r1 k1 => ?_)
    rcases r1 with x1 | x1
    · exact qP_some k1
    · obtain ⟨y1_0, y1_1⟩ := x1
      have h1 : Fg _ _ y1_1 := k1
      exact qP_some h1
theorem fr_X13_give_L31 (n : Nat) {N : Nat} {i1 i2 : Int} {M M0 : qm} (h : Fg 18715002460352795802045351884279763079562645231105107601287562529135713799886944357714040534438464120856510464 M0 M) : qP (qf_X13_give_L31 N n i1 i2 M) (pU (fun r => Fg 18715002460352795802045351884279763079562645231105107601287562529135713799886944357714040534438464120856510464 M0 r.2) (fun r => Fg 18715002460352795802045351884279763079562645231105107601287562529135713799886944357714040534438464120856510464 M0 r.2)) := by
  unfold qf_X13_give_L31
  exact qP_loop (I := fun s => Fg 18715002460352795802045351884279763079562645231105107601287562529135713799886944357714040534438464120856510464 M0 s.2.2) (fun s hs => fr_X13_give_L31_b hs) n _ h
theorem fr_X13_give_L132_b {N : Nat} {j2 i4 i5 : Int} {M M0 : qm} (h : Fg 18715002460352795802045351884279763079562645231105107601287562529135713799886944357714040534438464120856510464 M0 M) : qP (qf_X13_give_L132_b N j2 i4 i5 M) (pU (pU (fun r => Fg 18715002460352795802045351884279763079562645231105107601287562529135713799886944357714040534438464120856510464 M0 r.2) (fun r => Fg 18715002460352795802045351884279763079562645231105107601287562529135713799886944357714040534438464120856510464 M0 r.2)) (fun r => Fg 18715002460352795802045351884279763079562645231105107601287562529135713799886944357714040534438464120856510464 M0 r.2.2.2)) := by
  unfold qf_X13_give_L132_b
  refine qP_ite ?_ ?_
  · exact qP_some h
  · refine qP_ite ?_ ?_
    · refine qP_bnd (m0 := _) (Fg_wa (k := 359) h rfl rfl) (fun M1 h1 => ?_)
      exact qP_some h1
    · exact qP_none
theorem fr_X13_give_L132 (n : Nat) {N : Nat} {j2 i4 i5 : Int} {M M0 : qm} (h : Fg 18715002460352795802045351884279763079562645231105107601287562529135713799886944357714040534438464120856510464 M0 M) : qP (qf_X13_give_L132 N n j2 i4 i5 M) (pU (fun r => Fg 18715002460352795802045351884279763079562645231105107601287562529135713799886944357714040534438464120856510464 M0 r.2) (fun r => Fg 18715002460352795802045351884279763079562645231105107601287562529135713799886944357714040534438464120856510464 M0 r.2)) := by
  unfold qf_X13_give_L132
  exact qP_loop (I := fun s => Fg 18715002460352795802045351884279763079562645231105107601287562529135713799886944357714040534438464120856510464 M0 s.2.2.2) (fun s hs => fr_X13_give_L132_b hs) n _ h
theorem fr_X13_tell_L47_b {N : Nat} {i1 i2 i3 i4 i5 i6 : Int} {M M0 : qm} (h : Fg 17614069370803749209171104475920027705317619116812399030304682286491567688359563325977742487885765272739512320 M0 M) : qP (qf_X13_tell_L47_b N i1 i2 i3 i4 i5 i6 M) (pU (pU (fun r => Fg 17614069370803749209171104475920027705317619116812399030304682286491567688359563325977742487885765272739512320 M0 r.2) (fun r => Fg 17614069370803749209171104475920027705317619116812399030304682286491567688359563325977742487885765272739512320 M0 r.2)) (fun r => Fg 17614069370803749209171104475920027705317619116812399030304682286491567688359563325977742487885765272739512320 M0 r.2.2.2.2.2.2)) := by
  unfold qf_X13_tell_L47_b
  refine qP_ite ?_ ?_
  · exact qP_some h
  · refine qP_ite ?_ ?_
    · refine qP_ite ?_ ?_
      · refine qP_bnd (m0 := _) (Fg_wa (k := 359) h rfl rfl) (fun M1 h1 => ?_)
        refine qP_ite ?_ ?_
        · refine qP_bnd (m0 := _) (Fg_wa (k := 362) h1 rfl rfl) (fun M2 h2 => ?_)
          refine qP_ite ?_ ?_
          · refine qP_pure (fun r3 => ?_)
            refine qP_ite ?_ ?_
            · refine qP_bnd (m0 := _) (Fg_wa (k := 360) h2 rfl rfl) (fun M4 h4 => ?_)
              refine qP_ite ?_ ?_
              · refine qP_ite ?_ ?_
                · refine qP_ite ?_ ?_
                  · refine qP_pure (fun r5 => ?_)
                    refine qP_ite ?_ ?_
                    · refine qP_bnd (m0 := _) (Fg_wa (k := 361) h4 rfl rfl) (fun M6 h6 => ?_)
                      refine qP_ite ?_ ?_
                      · refine qP_ite ?_ ?_
                        · exact qP_some h6
                        · exact qP_none
                      · exact qP_none
                    · exact qP_none
                  · exact qP_none
                · exact qP_none
              · exact qP_none
            · exact qP_none
          · exact qP_none
        · exact qP_none
      · exact qP_none
    · exact qP_none
theorem fr_X13_tell_L47 (n : Nat) {N : Nat} {i1 i2 i3 i4 i5 i6 : Int} {M M0 : qm} (h : Fg 17614069370803749209171104475920027705317619116812399030304682286491567688359563325977742487885765272739512320 M0 M) : qP (qf_X13_tell_L47 N n i1 i2 i3 i4 i5 i6 M) (pU (fun r => Fg 17614069370803749209171104475920027705317619116812399030304682286491567688359563325977742487885765272739512320 M0 r.2) (fun r => Fg 17614069370803749209171104475920027705317619116812399030304682286491567688359563325977742487885765272739512320 M0 r.2)) := by
  unfold qf_X13_tell_L47
  exact qP_loop (I := fun s => Fg 17614069370803749209171104475920027705317619116812399030304682286491567688359563325977742487885765272739512320 M0 s.2.2.2.2.2.2) (fun s hs => fr_X13_tell_L47_b hs) n _ h
theorem fr_X13_tell {N : Nat} {i1 i2 : Int} {M M0 : qm} (h : Fg 17614069370803749209171104475920027705317619116812399030304682286491567688359563325977742487885765272739512320 M0 M) : qP (qf_X13_tell N i1 i2 M) (fun r => Fg 17614069370803749209171104475920027705317619116812399030304682286491567688359563325977742487885765272739512320 M0 r.2) := by
  unfold qf_X13_tell
  refine qP_pure (fun r1 => ?_)
  refine qP_ite ?_ ?_
  · refine qP_pure (fun r2 => ?_)
    rcases r2 with x3 | x3
    · exact qP_some h
    · refine qP_bind (fr_X13_tell_L47 _ h) (fun r4 k4 => ?_)
      rcases r4 with x4 | x4
      · exact qP_some k4
      · obtain ⟨y4_0, y4_1⟩ := x4
        have h4 : Fg _ _ y4_1 := k4
        exact qP_some h4
  · exact qP_none
theorem fr_X13_give_L158_b {N : Nat} {j2 i4 i5 : Int} {M M0 : qm} (h : Fg 18715002460352795802045351884279763079562645231105107601287562529135713799886944357714040534438464120856510464 M0 M) : qP (qf_X13_give_L158_b N j2 i4 i5 M) (pU (pU (fun r => Fg 18715002460352795802045351884279763079562645231105107601287562529135713799886944357714040534438464120856510464 M0 r.2) (fun r => Fg 18715002460352795802045351884279763079562645231105107601287562529135713799886944357714040534438464120856510464 M0 r.2)) (fun r => Fg 18715002460352795802045351884279763079562645231105107601287562529135713799886944357714040534438464120856510464 M0 r.2.2.2)) := by
  unfold qf_X13_give_L158_b
  refine qP_ite ?_ ?_
  · exact qP_some h
  · refine qP_pure (fun r1 => ?_)
    refine qP_bind (fr_X13_tell Fg_refl) (fun r2 k2 => ?_)
    have h2 := Fg_tr h (Fg_mono k2 rfl)
    exact qP_some h2
theorem fr_X13_give_L158 (n : Nat) {N : Nat} {j2 i4 i5 : Int} {M M0 : qm} (h : Fg 18715002460352795802045351884279763079562645231105107601287562529135713799886944357714040534438464120856510464 M0 M) : qP (qf_X13_give_L158 N n j2 i4 i5 M) (pU (fun r => Fg 18715002460352795802045351884279763079562645231105107601287562529135713799886944357714040534438464120856510464 M0 r.2) (fun r => Fg 18715002460352795802045351884279763079562645231105107601287562529135713799886944357714040534438464120856510464 M0 r.2)) := by
  unfold qf_X13_give_L158
  exact qP_loop (I := fun s => Fg 18715002460352795802045351884279763079562645231105107601287562529135713799886944357714040534438464120856510464 M0 s.2.2.2) (fun s hs => fr_X13_give_L158_b hs) n _ h
theorem fr_X13_give {N : Nat} {M M0 : qm} (h : Fg 18715002460352795802045351884279763079562645231105107601287562529135713799886944357714040534438464120856510464 M0 M) : qP (qf_X13_give N M) (fun r => Fg 18715002460352795802045351884279763079562645231105107601287562529135713799886944357714040534438464120856510464 M0 r.2) := by
  unfold qf_X13_give
  refine qP_bind (fr_X13_choose Fg_refl) (fun r1 k1 => ?_)
  have h1 := Fg_tr h (Fg_mono k1 rfl)
  refine qP_pure (fun r2 => ?_)
  rcases r2 with x3 | x3
  · exact qP_some h1
  · refine qP_bind (fr_X13_give_L31 _ h1) (fun r4 k4 => ?_)
    rcases r4 with x4 | x4
    · exact qP_some k4
    · obtain ⟨y4_0, y4_1⟩ := x4
      have h4 : Fg _ _ y4_1 := k4
      refine qP_pure (fun r5 => ?_)
      rcases r5 with x6 | x6
      · exact qP_some h4
      · refine qP_bind (fr_X13_give_L132 _ h4) (fun r7 k7 => ?_)
        rcases r7 with x7 | x7
        · exact qP_some k7
        · obtain ⟨y7_0, y7_1⟩ := x7
          have h7 : Fg _ _ y7_1 := k7
          refine qP_bind (fr_X13_give_L158 _ h7) (fun r8 k8 => ?_)
          rcases r8 with x8 | x8
          · exact qP_some k8
          · obtain ⟨y8_0, y8_1⟩ := x8
            have h8 : Fg _ _ y8_1 := k8
            exact qP_some h8
theorem fr_X18_give_J33 {N : Nat} {t1 : Int} {M M0 : qm} (h : Fg 18715011419331764513262194114048885353339757717687096539885703590593754985957347282042654774231456863217516544 M0 M) : qP (qf_X18_give_J33 N t1 M) (fun r => Fg 18715011419331764513262194114048885353339757717687096539885703590593754985957347282042654774231456863217516544 M0 r.2) := by
  unfold qf_X18_give_J33
  refine qP_ite ?_ ?_
  · refine qP_bnd (m0 := _) (Fg_w h rfl) (fun M1 h1 => ?_)
    refine qP_bind (fr_X13_give Fg_refl) (fun r2 k2 => ?_)
    have h2 := Fg_tr h1 (Fg_mono k2 rfl)
    exact qP_some h2
  · exact qP_none
theorem fr_X18_give {N : Nat} {M M0 : qm} (h : Fg 18715011419331764513262194114048885353339757717687096539885703590593754985957347282042654774231456863217516544 M0 M) : qP (qf_X18_give N M) (fun r => Fg 18715011419331764513262194114048885353339757717687096539885703590593754985957347282042654774231456863217516544 M0 r.2) := by
  unfold qf_X18_give
  refine qP_bind (fr_X18_stays Fg_refl) (fun r1 k1 => ?_)
  have h1 := Fg_tr h (Fg_mono k1 rfl)
  refine qP_ite ?_ ?_
  · exact qP_some h1
  · refine qP_pure (fun r2 => ?_)
    refine qP_ite ?_ ?_
    · exact (fr_X18_give_J33 h1)
    · exact (fr_X18_give_J33 h1)
theorem fr_L_given {N : Nat} {i1 i2 : Int} {M M0 : qm} (h : Fg 165263992197562149737978827008192759957101170741070304821162198818601447809077836456297302609928821211897803006255839576064 M0 M) : qP (qf_L_given N i1 i2 M) (fun r => Fg 165263992197562149737978827008192759957101170741070304821162198818601447809077836456297302609928821211897803006255839576064 M0 r.2) := by
  unfold qf_L_given
  refine qP_pure (fun r1 => ?_)
  rcases r1 with x2 | x2
  · refine qP_bnd (m0 := _) (Fg_wa (k := 406) h rfl rfl) (fun M3 h3 => ?_)
    exact qP_some h3
  · refine qP_ite ?_ ?_
    · exact qP_some h
    · refine qP_ite ?_ ?_
      · exact qP_some h
      · exact qP_none
theorem fr_X18_given_J28 {N : Nat} {i1 i2 t1 : Int} {M M0 : qm} (h : Fg 1461501637330902918203684832716283019655932542976 M0 M) : qP (qf_X18_given_J28 N i1 i2 t1 M) (fun r => Fg 1461501637330902918203684832716283019655932542976 M0 r.2) := by
  unfold qf_X18_given_J28
  refine qP_bind (fr_X18_goes Fg_refl) (fun r1 k1 => ?_)
  have h1 := Fg_tr h (Fg_mono k1 rfl)
  refine qP_ite ?_ ?_
  · exact qP_some h1
  · refine qP_pure (fun r2 => ?_)
    exact qP_some h1
theorem fr_X18_given_J27 {N : Nat} {i1 i2 : Int} {M M0 : qm} (h : Fg 1461501637330902918203684832716283019655932542976 M0 M) : qP (qf_X18_given_J27 N i1 i2 M) (fun r => Fg 1461501637330902918203684832716283019655932542976 M0 r.2) := by
  unfold qf_X18_given_J27
  exact (fr_X18_given_J28 h)
theorem fr_X18_given {N : Nat} {i1 i2 : Int} {M M0 : qm} (h : Fg 1461501637330902918203684832716283019655932542976 M0 M) : qP (qf_X18_given N i1 i2 M) (fun r => Fg 1461501637330902918203684832716283019655932542976 M0 r.2) := by
  unfold qf_X18_given
  refine qP_pure (fun r1 => ?_)
  refine qP_ite ?_ ?_
  · exact (fr_X18_given_J27 h)
  · refine qP_pure (fun r2 => ?_)
    refine qP_ite ?_ ?_
    · exact (fr_X18_given_J27 h)
    · exact (fr_X18_given_J28 h)
theorem fr_X10_addSmoke {N : Nat} {i1 : Int} {M M0 : qm} (h : Fg 14636698788954112 M0 M) : qP (qf_X10_addSmoke N i1 M) (fun r => Fg 14636698788954112 M0 r.2) := by
  unfold qf_X10_addSmoke
  refine qP_ite ?_ ?_
  · refine qP_ite ?_ ?_
    · refine qP_ite ?_ ?_
      · refine qP_bnd (m0 := _) (Fg_wa (k := 52) h rfl rfl) (fun M1 h1 => ?_)
        refine qP_bnd (m0 := _) (Fg_w h1 rfl) (fun M2 h2 => ?_)
        refine qP_ite ?_ ?_
        · refine qP_ite ?_ ?_
          · exact qP_some h2
          · refine qP_ite ?_ ?_
            · exact qP_some h2
            · refine qP_ite ?_ ?_
              · refine qP_ite ?_ ?_
                · refine qP_bnd (m0 := _) (Fg_wa (k := 53) h2 rfl rfl) (fun M3 h3 => ?_)
                  exact qP_some h3
                · exact qP_none
              · exact qP_none
        · exact qP_none
      · exact qP_none
    · exact qP_some h
  · exact qP_none
theorem fr_X11_fire {N : Nat} {i1 i2 : Int} {M M0 : qm} (h : Fg 14636698788954112 M0 M) : qP (qf_X11_fire N i1 i2 M) (fun r => Fg 14636698788954112 M0 r.2) := by
  unfold qf_X11_fire
  refine qP_pure (fun r1 => ?_)
  refine qP_pure (fun r2 => ?_)
  rcases r2 with x3 | x3
  · refine qP_pure (fun r4 => ?_)
    rcases r4 with x5 | x5
    · refine qP_pure (fun r6 => ?_)
      refine qP_bind (fr_X10_addSmoke Fg_refl) (fun r7 k7 => ?_)
      have h7 := Fg_tr h (Fg_mono k7 rfl)
      refine qP_ite ?_ ?_
      · exact qP_some h7
      · exact qP_none
    · exact qP_some h
  · exact qP_some h
theorem fr_L_fire_J16 {N : Nat} {t1 t2 : Int} {M M0 : qm} (h : Fg 165263992197562149737978827008192759957101170741070304821162198818601447809077836456297302609928821211897817642954628530176 M0 M) : qP (qf_L_fire_J16 N t1 t2 M) (fun r => Fg 165263992197562149737978827008192759957101170741070304821162198818601447809077836456297302609928821211897817642954628530176 M0 r.2) := by
  unfold qf_L_fire_J16
  refine qP_ite ?_ ?_
  · refine qP_bnd (m0 := _) (Fg_wa (k := 406) h rfl rfl) (fun M1 h1 => ?_)
    exact qP_some h1
  · exact qP_none
theorem fr_L_fire {N : Nat} {i1 i2 : Int} {M M0 : qm} (h : Fg 165263992197562149737978827008192759957101170741070304821162198818601447809077836456297302609928821211897817642954628530176 M0 M) : qP (qf_L_fire N i1 i2 M) (fun r => Fg 165263992197562149737978827008192759957101170741070304821162198818601447809077836456297302609928821211897817642954628530176 M0 r.2) := by
  unfold qf_L_fire
  refine qP_bind (fr_X11_fire Fg_refl) (fun r1 k1 => ?_)
  have h1 := Fg_tr h (Fg_mono k1 rfl)
  obtain ⟨x1, m1⟩ := r1
  rcases x1 with x1 | x1
  · have h1 : Fg _ _ m1 := h1
    refine qP_ite ?_ ?_
    · exact (fr_L_fire_J16 h1)
    · exact (fr_L_fire_J16 h1)
  · have h1 : Fg _ _ m1 := h1
    refine qP_ite ?_ ?_
    · exact qP_some h1
    · refine qP_ite ?_ ?_
      · exact qP_some h1
      · exact qP_none
theorem fr_X18_fire_J37 {N : Nat} {i1 i2 t0 : Int} {M M0 : qm} (h : Fg 2582249878086908589655919172003011874329705792829223512830659356540647623478342831960548271483822664152186191628680036352 M0 M) : qP (qf_X18_fire_J37 N i1 i2 t0 M) (fun r => Fg 2582249878086908589655919172003011874329705792829223512830659356540647623478342831960548271483822664152186191628680036352 M0 r.2) := by
  unfold qf_X18_fire_J37
  refine qP_ite ?_ ?_
  · refine qP_bnd (m0 := _) (Fg_wa (k := 400) h rfl rfl) (fun M1 h1 => ?_)
    refine qP_ite ?_ ?_
    · exact qP_some h1
    · exact qP_none
  · exact qP_none
theorem fr_X18_fire {N : Nat} {i1 i2 : Int} {M M0 : qm} (h : Fg 2582249878086908589655919172003011874329705792829223512830659356540647623478342831960548271483822664152186191628680036352 M0 M) : qP (qf_X18_fire N i1 i2 M) (fun r => Fg 2582249878086908589655919172003011874329705792829223512830659356540647623478342831960548271483822664152186191628680036352 M0 r.2) := by
  unfold qf_X18_fire
  refine qP_pure (fun r1 => ?_)
  refine qP_bind (fr_X18_goes Fg_refl) (fun r2 k2 => ?_)
  have h2 := Fg_tr h (Fg_mono k2 rfl)
  refine qP_ite ?_ ?_
  · exact qP_some h2
  · refine qP_ite ?_ ?_
    · refine qP_ite ?_ ?_
      · exact (fr_X18_fire_J37 h2)
      · exact (fr_X18_fire_J37 h2)
    · exact qP_none
theorem fr_L_cell {N : Nat} {i1 i2 i3 : Int} {M M0 : qm} (h : Fg 165263992197562149737978827008192759957101170741070304821162198818601447809077836456297302609928821211897803006255839576064 M0 M) : qP (qf_L_cell N i1 i2 i3 M) (fun r => Fg 165263992197562149737978827008192759957101170741070304821162198818601447809077836456297302609928821211897803006255839576064 M0 r.2) := by
  unfold qf_L_cell
  refine qP_pure (fun r1 => ?_)
  rcases r1 with x2 | x2
  · refine qP_bnd (m0 := _) (Fg_wa (k := 406) h rfl rfl) (fun M3 h3 => ?_)
    exact qP_some h3
  · refine qP_ite ?_ ?_
    · exact qP_some h
    · refine qP_ite ?_ ?_
      · exact qP_some h
      · exact qP_none
theorem fr_X18_cell_J22 {N : Nat} {i1 i2 i3 t1 : Int} {M M0 : qm} (h : Fg 1461501637330902918203684832716283019655932542976 M0 M) : qP (qf_X18_cell_J22 N i1 i2 i3 t1 M) (fun r => Fg 1461501637330902918203684832716283019655932542976 M0 r.2) := by
  unfold qf_X18_cell_J22
  refine qP_bind (fr_X18_goes Fg_refl) (fun r1 k1 => ?_)
  have h1 := Fg_tr h (Fg_mono k1 rfl)
  refine qP_ite ?_ ?_
  · exact qP_some h1
  · refine qP_ite ?_ ?_
    · refine qP_pure (fun r2 => ?_)
      rcases r2 with x3 | x3
      · exact qP_some h1
      · exact qP_some h1
    · refine qP_ite ?_ ?_
      · refine qP_ite ?_ ?_
        · refine qP_ite ?_ ?_
          · exact qP_some h1
          · exact qP_some h1
        · exact qP_none
      · refine qP_ite ?_ ?_
        · refine qP_ite ?_ ?_
          · exact qP_some h1
          · refine qP_ite ?_ ?_
            · exact qP_some h1
            · exact qP_none
        · exact qP_none
theorem fr_X18_cell_J21 {N : Nat} {i1 i2 i3 : Int} {M M0 : qm} (h : Fg 1461501637330902918203684832716283019655932542976 M0 M) : qP (qf_X18_cell_J21 N i1 i2 i3 M) (fun r => Fg 1461501637330902918203684832716283019655932542976 M0 r.2) := by
  unfold qf_X18_cell_J21
  exact (fr_X18_cell_J22 h)
theorem fr_X18_cell {N : Nat} {i1 i2 i3 : Int} {M M0 : qm} (h : Fg 1461501637330902918203684832716283019655932542976 M0 M) : qP (qf_X18_cell N i1 i2 i3 M) (fun r => Fg 1461501637330902918203684832716283019655932542976 M0 r.2) := by
  unfold qf_X18_cell
  refine qP_pure (fun r1 => ?_)
  refine qP_ite ?_ ?_
  · exact (fr_X18_cell_J21 h)
  · refine qP_pure (fun r2 => ?_)
    refine qP_ite ?_ ?_
    · exact (fr_X18_cell_J21 h)
    · exact (fr_X18_cell_J22 h)
theorem fr_X10_spreadSmoke_L12_b {N : Nat} {i2 i3 : Int} {M M0 : qm} (h : Fg 50665495807918080 M0 M) : qP (qf_X10_spreadSmoke_L12_b N i2 i3 M) (pU (pU (fun r => Fg 50665495807918080 M0 r.2) (fun r => Fg 50665495807918080 M0 r.2)) (fun r => Fg 50665495807918080 M0 r.2.2)) := by
  unfold qf_X10_spreadSmoke_L12_b
  refine qP_ite ?_ ?_
  · exact qP_some h
  · refine qP_ite ?_ ?_
    · refine qP_ite ?_ ?_
      · exact qP_some h
      · refine qP_ite ?_ ?_
        · refine qP_bnd (m0 := _) (Fg_wa (k := 55) h rfl rfl) (fun M1 h1 => ?_)
          exact qP_some h1
        · exact qP_none
    · exact qP_none
theorem fr_X10_spreadSmoke_L12 (n : Nat) {N : Nat} {i2 i3 : Int} {M M0 : qm} (h : Fg 50665495807918080 M0 M) : qP (qf_X10_spreadSmoke_L12 N n i2 i3 M) (pU (fun r => Fg 50665495807918080 M0 r.2) (fun r => Fg 50665495807918080 M0 r.2)) := by
  unfold qf_X10_spreadSmoke_L12
  exact qP_loop (I := fun s => Fg 50665495807918080 M0 s.2.2) (fun s hs => fr_X10_spreadSmoke_L12_b hs) n _ h
theorem fr_X10_spreadSmoke_L54_b {N : Nat} {i2 i3 i4 : Int} {M M0 : qm} (h : Fg 50665495807918080 M0 M) : qP (qf_X10_spreadSmoke_L54_b N i2 i3 i4 M) (pU (pU (fun r => Fg 50665495807918080 M0 r.2) (fun r => Fg 50665495807918080 M0 r.2)) (fun r => Fg 50665495807918080 M0 r.2.2.2)) := by
  unfold qf_X10_spreadSmoke_L54_b
  refine qP_ite ?_ ?_
  · exact qP_some h
  · refine qP_ite ?_ ?_
    · refine qP_pure (fun r1 => ?_)
      refine qP_ite ?_ ?_
      · exact qP_some h
      · refine qP_ite ?_ ?_
        · refine qP_ite ?_ ?_
          · refine qP_ite ?_ ?_
            · refine qP_pure (fun r2 => ?_)
              refine qP_ite ?_ ?_
              · exact qP_some h
              · refine qP_bind (fr_X10_addSmoke Fg_refl) (fun r3 k3 => ?_)
                have h3 := Fg_tr h (Fg_mono k3 rfl)
                exact qP_some h3
            · exact qP_none
          · exact qP_some h
        · exact qP_none
    · exact qP_none
theorem fr_X10_spreadSmoke_L54 (n : Nat) {N : Nat} {i2 i3 i4 : Int} {M M0 : qm} (h : Fg 50665495807918080 M0 M) : qP (qf_X10_spreadSmoke_L54 N n i2 i3 i4 M) (pU (fun r => Fg 50665495807918080 M0 r.2) (fun r => Fg 50665495807918080 M0 r.2)) := by
  unfold qf_X10_spreadSmoke_L54
  exact qP_loop (I := fun s => Fg 50665495807918080 M0 s.2.2.2) (fun s hs => fr_X10_spreadSmoke_L54_b hs) n _ h
theorem fr_X10_spreadSmoke_L46_b {N : Nat} {i2 i3 : Int} {M M0 : qm} (h : Fg 50665495807918080 M0 M) : qP (qf_X10_spreadSmoke_L46_b N i2 i3 M) (pU (pU (fun r => Fg 50665495807918080 M0 r.2) (fun r => Fg 50665495807918080 M0 r.2)) (fun r => Fg 50665495807918080 M0 r.2.2)) := by
  unfold qf_X10_spreadSmoke_L46_b
  refine qP_ite ?_ ?_
  · exact qP_some h
  · refine qP_bind (fr_X10_spreadSmoke_L54 _ h) (fun r1 k1 => ?_)
    rcases r1 with x1 | x1
    · exact qP_some k1
    · obtain ⟨y1_0, y1_1⟩ := x1
      have h1 : Fg _ _ y1_1 := k1
      exact qP_some h1
theorem fr_X10_spreadSmoke_L46 (n : Nat) {N : Nat} {i2 i3 : Int} {M M0 : qm} (h : Fg 50665495807918080 M0 M) : qP (qf_X10_spreadSmoke_L46 N n i2 i3 M) (pU (fun r => Fg 50665495807918080 M0 r.2) (fun r => Fg 50665495807918080 M0 r.2)) := by
  unfold qf_X10_spreadSmoke_L46
  exact qP_loop (I := fun s => Fg 50665495807918080 M0 s.2.2) (fun s hs => fr_X10_spreadSmoke_L46_b hs) n _ h
theorem fr_X10_spreadSmoke {N : Nat} {i1 : Int} {M M0 : qm} (h : Fg 50665495807918080 M0 M) : qP (qf_X10_spreadSmoke N i1 M) (fun r => Fg 50665495807918080 M0 r.2) := by
  unfold qf_X10_spreadSmoke
  refine qP_ite ?_ ?_
  · refine qP_bind (fr_X10_spreadSmoke_L12 _ h) (fun r1 k1 => ?_)
    rcases r1 with x1 | x1
    · exact qP_some k1
    · obtain ⟨y1_0, y1_1⟩ := x1
      have h1 : Fg _ _ y1_1 := k1
      refine qP_bind (fr_X10_spreadSmoke_L46 _ h1) (fun r2 k2 => ?_)
      rcases r2 with x2 | x2
      · exact qP_some k2
      · obtain ⟨y2_0, y2_1⟩ := x2
        have h2 : Fg _ _ y2_1 := k2
        exact qP_some h2
  · exact qP_some h
theorem fr_X11_passSecond_L23_b {N : Nat} {i1 : Int} {M M0 : qm} (h : Fg 22128727145120783221488305490411252646674434 M0 M) : qP (qf_X11_passSecond_L23_b N i1 M) (pU (pU (fun r => Fg 22128727145120783221488305490411252646674434 M0 r.2) (fun r => Fg 22128727145120783221488305490411252646674434 M0 r.2)) (fun r => Fg 22128727145120783221488305490411252646674434 M0 r.2)) := by
  unfold qf_X11_passSecond_L23_b
  refine qP_ite ?_ ?_
  · exact qP_some h
  · refine qP_ite ?_ ?_
    · exact qP_some h
    · refine qP_ite ?_ ?_
      · refine qP_ite ?_ ?_
        · refine qP_bnd (m0 := _) (Fg_wa (k := 130) h rfl rfl) (fun M1 h1 => ?_)
          exact qP_some h1
        · exact qP_none
      · exact qP_none
theorem fr_X11_passSecond_L23 (n : Nat) {N : Nat} {i1 : Int} {M M0 : qm} (h : Fg 22128727145120783221488305490411252646674434 M0 M) : qP (qf_X11_passSecond_L23 N n i1 M) (pU (fun r => Fg 22128727145120783221488305490411252646674434 M0 r.2) (fun r => Fg 22128727145120783221488305490411252646674434 M0 r.2)) := by
  unfold qf_X11_passSecond_L23
  exact qP_loop (I := fun s => Fg 22128727145120783221488305490411252646674434 M0 s.2) (fun s hs => fr_X11_passSecond_L23_b hs) n _ h
theorem fr_X4_setSwitch {N : Nat} {i1 i2 : Int} {M M0 : qm} (h : Fg 1361129467683753853853498429727072845824 M0 M) : qP (qf_X4_setSwitch N i1 i2 M) (fun r => Fg 1361129467683753853853498429727072845824 M0 r.2) := by
  unfold qf_X4_setSwitch
  refine qP_ite ?_ ?_
  · exact qP_some h
  · refine qP_ite ?_ ?_
    · exact qP_some h
    · refine qP_ite ?_ ?_
      · exact qP_some h
      · refine qP_ite ?_ ?_
        · refine qP_bnd (m0 := _) (Fg_wa (k := 130) h rfl rfl) (fun M1 h1 => ?_)
          exact qP_some h1
        · exact qP_none
theorem fr_X11_passSecond_L74_b {N : Nat} {i1 : Int} {M M0 : qm} (h : Fg 22128727145120783221488305490411252646674434 M0 M) : qP (qf_X11_passSecond_L74_b N i1 M) (pU (pU (fun r => Fg 22128727145120783221488305490411252646674434 M0 r.2) (fun r => Fg 22128727145120783221488305490411252646674434 M0 r.2)) (fun r => Fg 22128727145120783221488305490411252646674434 M0 r.2)) := by
  unfold qf_X11_passSecond_L74_b
  refine qP_ite ?_ ?_
  · exact qP_some h
  · refine qP_ite ?_ ?_
    · refine qP_ite ?_ ?_
      · refine qP_bind (fr_X4_setSwitch Fg_refl) (fun r1 k1 => ?_)
        have h1 := Fg_tr h (Fg_mono k1 rfl)
        exact qP_some h1
      · exact qP_none
    · exact qP_none
theorem fr_X11_passSecond_L74 (n : Nat) {N : Nat} {i1 : Int} {M M0 : qm} (h : Fg 22128727145120783221488305490411252646674434 M0 M) : qP (qf_X11_passSecond_L74 N n i1 M) (pU (fun r => Fg 22128727145120783221488305490411252646674434 M0 r.2) (fun r => Fg 22128727145120783221488305490411252646674434 M0 r.2)) := by
  unfold qf_X11_passSecond_L74
  exact qP_loop (I := fun s => Fg 22128727145120783221488305490411252646674434 M0 s.2) (fun s hs => fr_X11_passSecond_L74_b hs) n _ h
theorem fr_X4_runAct_J106 {N : Nat} {i1 i2 : Int} {M M0 : qm} (h : Fg 13764423735814236934070963896749561825198080 M0 M) : qP (qf_X4_runAct_J106 N i1 i2 M) (fun r => Fg 13764423735814236934070963896749561825198080 M0 r.2) := by
  unfold qf_X4_runAct_J106
  refine qP_ite ?_ ?_
  · refine qP_ite ?_ ?_
    · refine qP_pure (fun r1 => ?_)
      refine qP_ite ?_ ?_
      · exact qP_some h
      · refine qP_bind (fr_X4_setDone Fg_refl) (fun r2 k2 => ?_)
        have h2 := Fg_tr h (Fg_mono k2 rfl)
        exact qP_some h2
    · exact qP_some h
  · exact qP_none
theorem fr_X4_runAct_J74 {N : Nat} {i1 i2 i3 : Int} {M M0 : qm} (h : Fg 13764423735814236934070963896749561825198080 M0 M) : qP (qf_X4_runAct_J74 N i1 i2 i3 M) (fun r => Fg 13764423735814236934070963896749561825198080 M0 r.2) := by
  unfold qf_X4_runAct_J74
  refine qP_ite ?_ ?_
  · refine qP_ite ?_ ?_
    · refine qP_ite ?_ ?_
      · refine qP_ite ?_ ?_
        · refine qP_ite ?_ ?_
          · refine qP_bind (fr_X4_setDone Fg_refl) (fun r1 k1 => ?_)
            have h1 := Fg_tr h (Fg_mono k1 rfl)
            exact (fr_X4_runAct_J106 h1)
          · exact (fr_X4_runAct_J106 h)
        · exact qP_none
      · exact (fr_X4_runAct_J106 h)
    · exact (fr_X4_runAct_J106 h)
  · exact qP_none
theorem fr_X4_runAct_J50 {N : Nat} {i1 i2 i3 : Int} {M M0 : qm} (h : Fg 13764423735814236934070963896749561825198080 M0 M) : qP (qf_X4_runAct_J50 N i1 i2 i3 M) (fun r => Fg 13764423735814236934070963896749561825198080 M0 r.2) := by
  unfold qf_X4_runAct_J50
  refine qP_ite ?_ ?_
  · refine qP_ite ?_ ?_
    · refine qP_ite ?_ ?_
      · refine qP_ite ?_ ?_
        · refine qP_bnd (m0 := _) (Fg_wa (k := 137) h rfl rfl) (fun M1 h1 => ?_)
          exact (fr_X4_runAct_J106 h1)
        · exact qP_none
      · exact (fr_X4_runAct_J74 h)
    · exact (fr_X4_runAct_J74 h)
  · exact qP_none
theorem fr_X4_runAct {N : Nat} {i1 i2 : Int} {M M0 : qm} (h : Fg 13764423735814236934070963896749561825198080 M0 M) : qP (qf_X4_runAct N i1 i2 M) (fun r => Fg 13764423735814236934070963896749561825198080 M0 r.2) := by
  unfold qf_X4_runAct
  refine qP_pure (fun r1 => ?_)
  refine qP_ite ?_ ?_
  · refine qP_ite ?_ ?_
    · refine qP_ite ?_ ?_
      · exact (fr_X4_runAct_J50 h)
      · refine qP_ite ?_ ?_
        · refine qP_bnd (m0 := _) (Fg_wa (k := 137) h rfl rfl) (fun M2 h2 => ?_)
          refine qP_ite ?_ ?_
          · refine qP_bnd (m0 := _) (Fg_wa (k := 138) h2 rfl rfl) (fun M3 h3 => ?_)
            refine qP_ite ?_ ?_
            · refine qP_bnd (m0 := _) (Fg_wa (k := 139) h3 rfl rfl) (fun M4 h4 => ?_)
              refine qP_ite ?_ ?_
              · refine qP_bnd (m0 := _) (Fg_wa (k := 140) h4 rfl rfl) (fun M5 h5 => ?_)
                exact (fr_X4_runAct_J106 h5)
              · exact qP_none
            · exact qP_none
          · exact qP_none
        · exact qP_none
    · exact (fr_X4_runAct_J50 h)
  · exact qP_none
theorem fr_X4_runActs_L7_b {N : Nat} {i1 i2 : Int} {M M0 : qm} (h : Fg 22127203185263220612146858248992697389940736 M0 M) : qP (qf_X4_runActs_L7_b N i1 i2 M) (pU (pU (fun r => Fg 22127203185263220612146858248992697389940736 M0 r.2) (fun r => Fg 22127203185263220612146858248992697389940736 M0 r.2)) (fun r => Fg 22127203185263220612146858248992697389940736 M0 r.2.2)) := by
  unfold qf_X4_runActs_L7_b
  refine qP_ite ?_ ?_
  · exact qP_some h
  · refine qP_ite ?_ ?_
    · refine qP_pure (fun r1 => ?_)
      refine qP_ite ?_ ?_
      · exact qP_some h
      · refine qP_ite ?_ ?_
        · refine qP_bind (fr_X4_runAct Fg_refl) (fun r2 k2 => ?_)
          have h2 := Fg_tr h (Fg_mono k2 rfl)
          exact qP_some h2
        · exact qP_none
    · exact qP_none
theorem fr_X4_runActs_L7 (n : Nat) {N : Nat} {i1 i2 : Int} {M M0 : qm} (h : Fg 22127203185263220612146858248992697389940736 M0 M) : qP (qf_X4_runActs_L7 N n i1 i2 M) (pU (fun r => Fg 22127203185263220612146858248992697389940736 M0 r.2) (fun r => Fg 22127203185263220612146858248992697389940736 M0 r.2)) := by
  unfold qf_X4_runActs_L7
  exact qP_loop (I := fun s => Fg 22127203185263220612146858248992697389940736 M0 s.2.2) (fun s hs => fr_X4_runActs_L7_b hs) n _ h
theorem fr_X4_runActs {N : Nat} {i1 : Int} {M M0 : qm} (h : Fg 22127203185263220612146858248992697389940736 M0 M) : qP (qf_X4_runActs N i1 M) (fun r => Fg 22127203185263220612146858248992697389940736 M0 r.2) := by
  unfold qf_X4_runActs
  refine qP_bind (fr_X4_lookAtZones Fg_refl) (fun r1 k1 => ?_)
  have h1 := Fg_tr h (Fg_mono k1 rfl)
  refine qP_bind (fr_X4_runActs_L7 _ h1) (fun r2 k2 => ?_)
  rcases r2 with x2 | x2
  · exact qP_some k2
  · obtain ⟨y2_0, y2_1⟩ := x2
    have h2 : Fg _ _ y2_1 := k2
    exact qP_some h2
theorem fr_X9_fail {N : Nat} {i1 : Int} {M M0 : qm} (h : Fg 4951760157141521099596496896 M0 M) : qP (qf_X9_fail N i1 M) (fun r => Fg 4951760157141521099596496896 M0 r.2) := by
  unfold qf_X9_fail
  refine qP_bnd (m0 := _) (Fg_w h rfl) (fun M1 h1 => ?_)
  exact qP_some h1
theorem fr_X9_reckon_J113 {N : Nat} {M M0 : qm} (h : Fg 638777060271256221847948099584 M0 M) : qP (qf_X9_reckon_J113 N M) (fun r => Fg 638777060271256221847948099584 M0 r.2) := by
  unfold qf_X9_reckon_J113
  refine qP_bind (fr_X9_fail Fg_refl) (fun r1 k1 => ?_)
  have h1 := Fg_tr h (Fg_mono k1 rfl)
  exact qP_some h1
theorem fr_X9_reckon_J149 {N : Nat} {M M0 : qm} (h : Fg 638777060271256221847948099584 M0 M) : qP (qf_X9_reckon_J149 N M) (fun r => Fg 638777060271256221847948099584 M0 r.2) := by
  unfold qf_X9_reckon_J149
  refine qP_bind (fr_X9_fail Fg_refl) (fun r1 k1 => ?_)
  have h1 := Fg_tr h (Fg_mono k1 rfl)
  exact qP_some h1
theorem fr_X9_reckonKept_J116 {N : Nat} {i1 : Int} {M M0 : qm} (h : Fg 633825300114114700748351602688 M0 M) : qP (qf_X9_reckonKept_J116 N i1 M) (fun r => Fg 633825300114114700748351602688 M0 r.2) := by
  unfold qf_X9_reckonKept_J116
  refine qP_ite ?_ ?_
  · exact qP_some h
  · exact qP_none
theorem fr_X9_since_J13 {N : Nat} {a0 i2 t0 : Int} {M M0 : qm} (h : Fg 633825300114114700748351602688 M0 M) : qP (qf_X9_since_J13 N a0 i2 t0 M) (fun r => Fg 633825300114114700748351602688 M0 r.2) := by
  unfold qf_X9_since_J13
  refine qP_bnd (m0 := _) (Fg_wa (k := 99) h rfl rfl) (fun M1 h1 => ?_)
  exact qP_some h1
theorem fr_X9_since {N : Nat} {a0 i1 i2 : Int} {M M0 : qm} (h : Fg 633825300114114700748351602688 M0 M) : qP (qf_X9_since N a0 i1 i2 M) (fun r => Fg 633825300114114700748351602688 M0 r.2) := by
  unfold qf_X9_since
  refine qP_ite ?_ ?_
  · exact (fr_X9_since_J13 h)
  · exact (fr_X9_since_J13 h)
theorem fr_X9_reckonKept_J274 {N : Nat} {i1 i2 : Int} {M M0 : qm} (h : Fg 633825300114114700748351602688 M0 M) : qP (qf_X9_reckonKept_J274 N i1 i2 M) (fun r => Fg 633825300114114700748351602688 M0 r.2) := by
  unfold qf_X9_reckonKept_J274
  refine qP_ite ?_ ?_
  · refine qP_ite ?_ ?_
    · refine qP_bind (fr_X9_since Fg_refl) (fun r1 k1 => ?_)
      have h1 := Fg_tr h (Fg_mono k1 rfl)
      exact qP_some h1
    · exact qP_none
  · exact qP_none
theorem fr_X9_reckonKept_J123 {N : Nat} {i1 i2 : Int} {M M0 : qm} (h : Fg 633825300114114700748351602688 M0 M) : qP (qf_X9_reckonKept_J123 N i1 i2 M) (fun r => Fg 633825300114114700748351602688 M0 r.2) := by
  unfold qf_X9_reckonKept_J123
  refine qP_ite ?_ ?_
  · refine qP_ite ?_ ?_
    · refine qP_pure (fun r1 => ?_)
      exact qP_some h
    · exact qP_none
  · exact qP_none
theorem fr_X9_countUp_J28 {N : Nat} {a0 i1 : Int} {M M0 : qm} (h : Fg 633825300114114700748351602688 M0 M) : qP (qf_X9_countUp_J28 N a0 i1 M) (fun r => Fg 633825300114114700748351602688 M0 r.2) := by
  unfold qf_X9_countUp_J28
  refine qP_bnd (m0 := _) (Fg_wa (k := 99) h rfl rfl) (fun M1 h1 => ?_)
  exact qP_some h1
theorem fr_X9_countUp {N : Nat} {a0 i1 i2 : Int} {M M0 : qm} (h : Fg 633825300114114700748351602688 M0 M) : qP (qf_X9_countUp N a0 i1 i2 M) (fun r => Fg 633825300114114700748351602688 M0 r.2) := by
  unfold qf_X9_countUp
  refine qP_ite ?_ ?_
  · refine qP_ite ?_ ?_
    · exact (fr_X9_countUp_J28 h)
    · refine qP_ite ?_ ?_
      · refine qP_bnd (m0 := _) (Fg_wa (k := 99) h rfl rfl) (fun M1 h1 => ?_)
        exact (fr_X9_countUp_J28 h1)
      · exact (fr_X9_countUp_J28 h)
  · refine qP_bnd (m0 := _) (Fg_wa (k := 99) h rfl rfl) (fun M2 h2 => ?_)
    exact (fr_X9_countUp_J28 h2)
theorem fr_X9_reckonKept_J140 {N : Nat} {i1 i2 i3 : Int} {M M0 : qm} (h : Fg 633825300114114700748351602688 M0 M) : qP (qf_X9_reckonKept_J140 N i1 i2 i3 M) (fun r => Fg 633825300114114700748351602688 M0 r.2) := by
  unfold qf_X9_reckonKept_J140
  refine qP_ite ?_ ?_
  · refine qP_bind (fr_X9_countUp Fg_refl) (fun r1 k1 => ?_)
    have h1 := Fg_tr h (Fg_mono k1 rfl)
    exact qP_some h1
  · exact qP_none
theorem fr_X9_latch_J19 {N : Nat} {a0 : Int} {M M0 : qm} (h : Fg 633825300114114700748351602688 M0 M) : qP (qf_X9_latch_J19 N a0 M) (fun r => Fg 633825300114114700748351602688 M0 r.2) := by
  unfold qf_X9_latch_J19
  exact qP_some h
theorem fr_X9_latch {N : Nat} {a0 i1 i2 : Int} {M M0 : qm} (h : Fg 633825300114114700748351602688 M0 M) : qP (qf_X9_latch N a0 i1 i2 M) (fun r => Fg 633825300114114700748351602688 M0 r.2) := by
  unfold qf_X9_latch
  refine qP_ite ?_ ?_
  · refine qP_ite ?_ ?_
    · exact (fr_X9_latch_J19 h)
    · refine qP_bnd (m0 := _) (Fg_wa (k := 99) h rfl rfl) (fun M1 h1 => ?_)
      exact (fr_X9_latch_J19 h1)
  · refine qP_bnd (m0 := _) (Fg_wa (k := 99) h rfl rfl) (fun M2 h2 => ?_)
    exact (fr_X9_latch_J19 h2)
theorem fr_X9_reckonKept_J152 {N : Nat} {i1 i2 i3 : Int} {M M0 : qm} (h : Fg 633825300114114700748351602688 M0 M) : qP (qf_X9_reckonKept_J152 N i1 i2 i3 M) (fun r => Fg 633825300114114700748351602688 M0 r.2) := by
  unfold qf_X9_reckonKept_J152
  refine qP_ite ?_ ?_
  · refine qP_bind (fr_X9_latch Fg_refl) (fun r1 k1 => ?_)
    have h1 := Fg_tr h (Fg_mono k1 rfl)
    exact qP_some h1
  · exact qP_none
theorem fr_X9_reckonKept_J164 {N : Nat} {i1 i4 : Int} {M M0 : qm} (h : Fg 633825300114114700748351602688 M0 M) : qP (qf_X9_reckonKept_J164 N i1 i4 M) (fun r => Fg 633825300114114700748351602688 M0 r.2) := by
  unfold qf_X9_reckonKept_J164
  refine qP_ite ?_ ?_
  · refine qP_ite ?_ ?_
    · refine qP_pure (fun r1 => ?_)
      refine qP_ite ?_ ?_
      · exact qP_some h
      · exact qP_some h
    · exact qP_none
  · exact qP_none
theorem fr_X9_pulse_J14 {N : Nat} {a0 i1 : Int} {M M0 : qm} (h : Fg 633825300114114700748351602688 M0 M) : qP (qf_X9_pulse_J14 N a0 i1 M) (fun r => Fg 633825300114114700748351602688 M0 r.2) := by
  unfold qf_X9_pulse_J14
  refine qP_bnd (m0 := _) (Fg_wa (k := 99) h rfl rfl) (fun M1 h1 => ?_)
  refine qP_ite ?_ ?_
  · exact qP_some h1
  · refine qP_bnd (m0 := _) (Fg_wa (k := 99) h1 rfl rfl) (fun M2 h2 => ?_)
    exact qP_some h2
theorem fr_X9_pulse {N : Nat} {a0 i1 i2 : Int} {M M0 : qm} (h : Fg 633825300114114700748351602688 M0 M) : qP (qf_X9_pulse N a0 i1 i2 M) (fun r => Fg 633825300114114700748351602688 M0 r.2) := by
  unfold qf_X9_pulse
  refine qP_ite ?_ ?_
  · exact (fr_X9_pulse_J14 h)
  · refine qP_ite ?_ ?_
    · refine qP_bnd (m0 := _) (Fg_wa (k := 99) h rfl rfl) (fun M1 h1 => ?_)
      exact (fr_X9_pulse_J14 h1)
    · exact (fr_X9_pulse_J14 h)
theorem fr_X9_reckonKept_J190 {N : Nat} {i1 i2 : Int} {M M0 : qm} (h : Fg 633825300114114700748351602688 M0 M) : qP (qf_X9_reckonKept_J190 N i1 i2 M) (fun r => Fg 633825300114114700748351602688 M0 r.2) := by
  unfold qf_X9_reckonKept_J190
  refine qP_ite ?_ ?_
  · refine qP_ite ?_ ?_
    · refine qP_bind (fr_X9_pulse Fg_refl) (fun r1 k1 => ?_)
      have h1 := Fg_tr h (Fg_mono k1 rfl)
      exact qP_some h1
    · exact qP_none
  · exact qP_none
theorem fr_X9_reckonKept_J207 {N : Nat} {i1 i2 : Int} {M M0 : qm} (h : Fg 633825300114114700748351602688 M0 M) : qP (qf_X9_reckonKept_J207 N i1 i2 M) (fun r => Fg 633825300114114700748351602688 M0 r.2) := by
  unfold qf_X9_reckonKept_J207
  refine qP_ite ?_ ?_
  · refine qP_ite ?_ ?_
    · refine qP_pure (fun r1 => ?_)
      exact qP_some h
    · exact qP_none
  · exact qP_none
theorem fr_X9_reckonKept_J224 {N : Nat} {i1 i2 i3 : Int} {M M0 : qm} (h : Fg 633825300114114700748351602688 M0 M) : qP (qf_X9_reckonKept_J224 N i1 i2 i3 M) (fun r => Fg 633825300114114700748351602688 M0 r.2) := by
  unfold qf_X9_reckonKept_J224
  refine qP_ite ?_ ?_
  · exact qP_some h
  · refine qP_ite ?_ ?_
    · exact qP_some h
    · exact qP_none
theorem fr_X9_reckonKept_J264 {N : Nat} {i1 t0 t1 t2 : Int} {M M0 : qm} (h : Fg 633825300114114700748351602688 M0 M) : qP (qf_X9_reckonKept_J264 N i1 t0 t1 t2 M) (fun r => Fg 633825300114114700748351602688 M0 r.2) := by
  unfold qf_X9_reckonKept_J264
  refine qP_ite ?_ ?_
  · refine qP_bnd (m0 := _) (Fg_wa (k := 99) h rfl rfl) (fun M1 h1 => ?_)
    refine qP_ite ?_ ?_
    · exact qP_some h1
    · exact qP_none
  · exact qP_none
theorem fr_X9_reckonKept_J239 {N : Nat} {i1 i2 i3 : Int} {M M0 : qm} (h : Fg 633825300114114700748351602688 M0 M) : qP (qf_X9_reckonKept_J239 N i1 i2 i3 M) (fun r => Fg 633825300114114700748351602688 M0 r.2) := by
  unfold qf_X9_reckonKept_J239
  refine qP_ite ?_ ?_
  · refine qP_ite ?_ ?_
    · refine qP_ite ?_ ?_
      · exact (fr_X9_reckonKept_J264 h)
      · exact qP_none
    · exact (fr_X9_reckonKept_J264 h)
  · exact qP_none
theorem fr_X9_reckonKept {N : Nat} {i1 i2 i3 i4 : Int} {M M0 : qm} (h : Fg 633825300114114700748351602688 M0 M) : qP (qf_X9_reckonKept N i1 i2 i3 i4 M) (fun r => Fg 633825300114114700748351602688 M0 r.2) := by
  unfold qf_X9_reckonKept
  refine qP_ite ?_ ?_
  · refine qP_ite ?_ ?_
    · exact (fr_X9_reckonKept_J116 h)
    · refine qP_ite ?_ ?_
      · exact (fr_X9_reckonKept_J274 h)
      · refine qP_ite ?_ ?_
        · exact (fr_X9_reckonKept_J274 h)
        · refine qP_ite ?_ ?_
          · exact (fr_X9_reckonKept_J274 h)
          · refine qP_ite ?_ ?_
            · exact (fr_X9_reckonKept_J274 h)
            · refine qP_ite ?_ ?_
              · exact (fr_X9_reckonKept_J274 h)
              · refine qP_ite ?_ ?_
                · exact (fr_X9_reckonKept_J274 h)
                · refine qP_ite ?_ ?_
                  · exact (fr_X9_reckonKept_J274 h)
                  · refine qP_ite ?_ ?_
                    · exact (fr_X9_reckonKept_J274 h)
                    · refine qP_ite ?_ ?_
                      · exact (fr_X9_reckonKept_J274 h)
                      · refine qP_ite ?_ ?_
                        · exact (fr_X9_reckonKept_J274 h)
                        · refine qP_ite ?_ ?_
                          · exact (fr_X9_reckonKept_J274 h)
                          · refine qP_ite ?_ ?_
                            · exact (fr_X9_reckonKept_J274 h)
                            · refine qP_ite ?_ ?_
                              · exact (fr_X9_reckonKept_J274 h)
                              · refine qP_ite ?_ ?_
                                · exact (fr_X9_reckonKept_J274 h)
                                · refine qP_ite ?_ ?_
                                  · exact (fr_X9_reckonKept_J274 h)
                                  · refine qP_ite ?_ ?_
                                    · exact (fr_X9_reckonKept_J123 h)
                                    · refine qP_ite ?_ ?_
                                      · exact (fr_X9_reckonKept_J140 h)
                                      · refine qP_ite ?_ ?_
                                        · exact (fr_X9_reckonKept_J152 h)
                                        · refine qP_ite ?_ ?_
                                          · exact (fr_X9_reckonKept_J164 h)
                                          · refine qP_ite ?_ ?_
                                            · exact (fr_X9_reckonKept_J190 h)
                                            · refine qP_ite ?_ ?_
                                              · exact (fr_X9_reckonKept_J207 h)
                                              · refine qP_ite ?_ ?_
                                                · exact (fr_X9_reckonKept_J224 h)
                                                · refine qP_ite ?_ ?_
                                                  · exact (fr_X9_reckonKept_J239 h)
                                                  · exact (fr_X9_reckonKept_J274 h)
  · exact qP_none
theorem fr_X9_reckon_J79 {N : Nat} {i1 i2 i3 i4 i5 : Int} {M M0 : qm} (h : Fg 638777060271256221847948099584 M0 M) : qP (qf_X9_reckon_J79 N i1 i2 i3 i4 i5 M) (fun r => Fg 638777060271256221847948099584 M0 r.2) := by
  unfold qf_X9_reckon_J79
  refine qP_ite ?_ ?_
  · refine qP_ite ?_ ?_
    · refine qP_ite ?_ ?_
      · exact (fr_X9_reckon_J113 h)
      · refine qP_ite ?_ ?_
        · exact (fr_X9_reckon_J113 h)
        · refine qP_ite ?_ ?_
          · exact qP_some h
          · exact qP_none
    · exact qP_none
  · refine qP_ite ?_ ?_
    · refine qP_ite ?_ ?_
      · exact (fr_X9_reckon_J149 h)
      · refine qP_ite ?_ ?_
        · exact (fr_X9_reckon_J149 h)
        · refine qP_ite ?_ ?_
          · refine qP_ite ?_ ?_
            · exact qP_some h
            · exact qP_none
          · exact qP_none
    · refine qP_bind (fr_X9_reckonKept Fg_refl) (fun r1 k1 => ?_)
      have h1 := Fg_tr h (Fg_mono k1 rfl)
      exact qP_some h1
theorem fr_X9_reckonPlain_J64 {N : Nat} {i2 i3 : Int} {M M0 : qm} (h : Fg 4951760157141521099596496896 M0 M) : qP (qf_X9_reckonPlain_J64 N i2 i3 M) (fun r => Fg 4951760157141521099596496896 M0 r.2) := by
  unfold qf_X9_reckonPlain_J64
  exact qP_some h
theorem fr_X9_reckonPlain_J68 {N : Nat} {i2 i3 : Int} {M M0 : qm} (h : Fg 4951760157141521099596496896 M0 M) : qP (qf_X9_reckonPlain_J68 N i2 i3 M) (fun r => Fg 4951760157141521099596496896 M0 r.2) := by
  unfold qf_X9_reckonPlain_J68
  exact qP_some h
theorem fr_X9_reckonPlain_J72 {N : Nat} {i2 i3 : Int} {M M0 : qm} (h : Fg 4951760157141521099596496896 M0 M) : qP (qf_X9_reckonPlain_J72 N i2 i3 M) (fun r => Fg 4951760157141521099596496896 M0 r.2) := by
  unfold qf_X9_reckonPlain_J72
  exact qP_some h
theorem fr_X9_reckonPlain_J76 {N : Nat} {i2 i3 : Int} {M M0 : qm} (h : Fg 4951760157141521099596496896 M0 M) : qP (qf_X9_reckonPlain_J76 N i2 i3 M) (fun r => Fg 4951760157141521099596496896 M0 r.2) := by
  unfold qf_X9_reckonPlain_J76
  refine qP_ite ?_ ?_
  · refine qP_bind (fr_X9_fail Fg_refl) (fun r1 k1 => ?_)
    have h1 := Fg_tr h (Fg_mono k1 rfl)
    exact qP_some h1
  · refine qP_ite ?_ ?_
    · exact qP_none
    · exact qP_some h
theorem fr_X9_reckonPlain_J92 {N : Nat} {i2 i3 : Int} {M M0 : qm} (h : Fg 4951760157141521099596496896 M0 M) : qP (qf_X9_reckonPlain_J92 N i2 i3 M) (fun r => Fg 4951760157141521099596496896 M0 r.2) := by
  unfold qf_X9_reckonPlain_J92
  refine qP_ite ?_ ?_
  · refine qP_bind (fr_X9_fail Fg_refl) (fun r1 k1 => ?_)
    have h1 := Fg_tr h (Fg_mono k1 rfl)
    exact qP_some h1
  · refine qP_ite ?_ ?_
    · exact qP_none
    · exact qP_some h
theorem fr_X9_reckonPlain_J112 {N : Nat} {i2 i3 : Int} {M M0 : qm} (h : Fg 4951760157141521099596496896 M0 M) : qP (qf_X9_reckonPlain_J112 N i2 i3 M) (fun r => Fg 4951760157141521099596496896 M0 r.2) := by
  unfold qf_X9_reckonPlain_J112
  exact qP_some h
theorem fr_X9_reckonPlain_J118 {N : Nat} {i2 i3 : Int} {M M0 : qm} (h : Fg 4951760157141521099596496896 M0 M) : qP (qf_X9_reckonPlain_J118 N i2 i3 M) (fun r => Fg 4951760157141521099596496896 M0 r.2) := by
  unfold qf_X9_reckonPlain_J118
  exact qP_some h
theorem fr_X9_reckonPlain_J124 {N : Nat} {i2 i3 : Int} {M M0 : qm} (h : Fg 4951760157141521099596496896 M0 M) : qP (qf_X9_reckonPlain_J124 N i2 i3 M) (fun r => Fg 4951760157141521099596496896 M0 r.2) := by
  unfold qf_X9_reckonPlain_J124
  refine qP_ite ?_ ?_
  · exact qP_some h
  · exact qP_some h
theorem fr_X9_reckonPlain_J135 {N : Nat} {i2 i3 : Int} {M M0 : qm} (h : Fg 4951760157141521099596496896 M0 M) : qP (qf_X9_reckonPlain_J135 N i2 i3 M) (fun r => Fg 4951760157141521099596496896 M0 r.2) := by
  unfold qf_X9_reckonPlain_J135
  refine qP_ite ?_ ?_
  · exact qP_some h
  · exact qP_some h
theorem fr_X9_reckonPlain_J146 {N : Nat} {i2 i3 : Int} {M M0 : qm} (h : Fg 4951760157141521099596496896 M0 M) : qP (qf_X9_reckonPlain_J146 N i2 i3 M) (fun r => Fg 4951760157141521099596496896 M0 r.2) := by
  unfold qf_X9_reckonPlain_J146
  refine qP_ite ?_ ?_
  · exact qP_some h
  · refine qP_ite ?_ ?_
    · exact qP_some h
    · exact qP_some h
theorem fr_X9_reckonPlain_J160 {N : Nat} {i2 i3 : Int} {M M0 : qm} (h : Fg 4951760157141521099596496896 M0 M) : qP (qf_X9_reckonPlain_J160 N i2 i3 M) (fun r => Fg 4951760157141521099596496896 M0 r.2) := by
  unfold qf_X9_reckonPlain_J160
  refine qP_ite ?_ ?_
  · refine qP_ite ?_ ?_
    · exact qP_some h
    · exact qP_some h
  · exact qP_some h
theorem fr_X9_reckonPlain_J174 {N : Nat} {i2 : Int} {M M0 : qm} (h : Fg 4951760157141521099596496896 M0 M) : qP (qf_X9_reckonPlain_J174 N i2 M) (fun r => Fg 4951760157141521099596496896 M0 r.2) := by
  unfold qf_X9_reckonPlain_J174
  refine qP_ite ?_ ?_
  · exact qP_some h
  · exact qP_some h
theorem fr_X9_reckonPlain_J184 {N : Nat} {i2 i3 i4 : Int} {M M0 : qm} (h : Fg 4951760157141521099596496896 M0 M) : qP (qf_X9_reckonPlain_J184 N i2 i3 i4 M) (fun r => Fg 4951760157141521099596496896 M0 r.2) := by
  unfold qf_X9_reckonPlain_J184
  refine qP_ite ?_ ?_
  · exact qP_some h
  · exact qP_some h
theorem fr_X9_reckonPlain {N : Nat} {i1 i2 i3 i4 : Int} {M M0 : qm} (h : Fg 4951760157141521099596496896 M0 M) : qP (qf_X9_reckonPlain N i1 i2 i3 i4 M) (fun r => Fg 4951760157141521099596496896 M0 r.2) := by
  unfold qf_X9_reckonPlain
  refine qP_ite ?_ ?_
  · exact (fr_X9_reckonPlain_J64 h)
  · refine qP_ite ?_ ?_
    · exact (fr_X9_reckonPlain_J68 h)
    · refine qP_ite ?_ ?_
      · exact (fr_X9_reckonPlain_J72 h)
      · refine qP_ite ?_ ?_
        · exact (fr_X9_reckonPlain_J76 h)
        · refine qP_ite ?_ ?_
          · exact (fr_X9_reckonPlain_J92 h)
          · refine qP_ite ?_ ?_
            · exact (fr_X9_reckonPlain_J112 h)
            · refine qP_ite ?_ ?_
              · exact (fr_X9_reckonPlain_J118 h)
              · refine qP_ite ?_ ?_
                · exact (fr_X9_reckonPlain_J124 h)
                · refine qP_ite ?_ ?_
                  · exact (fr_X9_reckonPlain_J135 h)
                  · refine qP_ite ?_ ?_
                    · exact (fr_X9_reckonPlain_J146 h)
                    · refine qP_ite ?_ ?_
                      · exact (fr_X9_reckonPlain_J160 h)
                      · refine qP_ite ?_ ?_
                        · exact (fr_X9_reckonPlain_J174 h)
                        · exact (fr_X9_reckonPlain_J184 h)
theorem fr_X9_reckon {N : Nat} {i1 i2 : Int} {M M0 : qm} (h : Fg 638777060271256221847948099584 M0 M) : qP (qf_X9_reckon N i1 i2 M) (fun r => Fg 638777060271256221847948099584 M0 r.2) := by
  unfold qf_X9_reckon
  refine qP_ite ?_ ?_
  · refine qP_ite ?_ ?_
    · refine qP_ite ?_ ?_
      · exact qP_some h
      · exact qP_none
    · refine qP_pure (fun r1 => ?_)
      refine qP_ite ?_ ?_
      · refine qP_pure (fun r2 => ?_)
        refine qP_pure (fun r3 => ?_)
        refine qP_ite ?_ ?_
        · exact (fr_X9_reckon_J79 h)
        · refine qP_ite ?_ ?_
          · exact (fr_X9_reckon_J79 h)
          · refine qP_pure (fun r4 => ?_)
            refine qP_bind (fr_X9_reckonPlain Fg_refl) (fun r5 k5 => ?_)
            have h5 := Fg_tr h (Fg_mono k5 rfl)
            exact qP_some h5
      · refine qP_bind (fr_X9_fail Fg_refl) (fun r6 k6 => ?_)
        have h6 := Fg_tr h (Fg_mono k6 rfl)
        exact qP_some h6
  · exact qP_none
theorem fr_X9_reckonBlock_J34 {N : Nat} {i1 i3 : Int} {M M0 : qm} (h : Fg 163214966539541676963800134189056 M0 M) : qP (qf_X9_reckonBlock_J34 N i1 i3 M) (fun r => Fg 163214966539541676963800134189056 M0 r.2) := by
  unfold qf_X9_reckonBlock_J34
  refine qP_ite ?_ ?_
  · refine qP_ite ?_ ?_
    · refine qP_ite ?_ ?_
      · refine qP_bnd (m0 := _) (Fg_wa (k := 98) h rfl rfl) (fun M1 h1 => ?_)
        exact qP_some h1
      · exact qP_none
    · refine qP_ite ?_ ?_
      · refine qP_ite ?_ ?_
        · refine qP_bnd (m0 := _) (Fg_wa (k := 98) h rfl rfl) (fun M2 h2 => ?_)
          exact qP_some h2
        · exact qP_none
      · exact qP_none
  · exact qP_none
theorem fr_X9_countFailure {N : Nat} {i1 : Int} {M M0 : qm} (h : Fg 162259276829213363391578010288128 M0 M) : qP (qf_X9_countFailure N i1 M) (fun r => Fg 162259276829213363391578010288128 M0 r.2) := by
  unfold qf_X9_countFailure
  refine qP_ite ?_ ?_
  · refine qP_ite ?_ ?_
    · refine qP_bnd (m0 := _) (Fg_wa (k := 107) h rfl rfl) (fun M1 h1 => ?_)
      refine qP_bnd (m0 := _) (Fg_wa (k := 107) h1 rfl rfl) (fun M2 h2 => ?_)
      exact qP_some h2
    · exact qP_none
  · exact qP_none
theorem fr_X9_reckonBlock {N : Nat} {i1 i2 : Int} {M M0 : qm} (h : Fg 163214966539541676963800134189056 M0 M) : qP (qf_X9_reckonBlock N i1 i2 M) (fun r => Fg 163214966539541676963800134189056 M0 r.2) := by
  unfold qf_X9_reckonBlock
  refine qP_bnd (m0 := _) (Fg_w h rfl) (fun M1 h1 => ?_)
  refine qP_bind (fr_X9_reckon Fg_refl) (fun r2 k2 => ?_)
  have h2 := Fg_tr h1 (Fg_mono k2 rfl)
  refine qP_ite ?_ ?_
  · exact (fr_X9_reckonBlock_J34 h2)
  · refine qP_bind (fr_X9_countFailure Fg_refl) (fun r3 k3 => ?_)
    have h3 := Fg_tr h2 (Fg_mono k3 rfl)
    refine qP_ite ?_ ?_
    · exact (fr_X9_reckonBlock_J34 h3)
    · exact qP_none
theorem fr_X9_reckonBlocks_L25_b {N : Nat} {i1 i2 : Int} {M M0 : qm} (h : Fg 284913756951589198338445788839936 M0 M) : qP (qf_X9_reckonBlocks_L25_b N i1 i2 M) (pU (pU (fun r => Fg 284913756951589198338445788839936 M0 r.2) (fun r => Fg 284913756951589198338445788839936 M0 r.2)) (fun r => Fg 284913756951589198338445788839936 M0 r.2.2)) := by
  unfold qf_X9_reckonBlocks_L25_b
  refine qP_ite ?_ ?_
  · exact qP_some h
  · refine qP_ite ?_ ?_
    · refine qP_bind (fr_X9_reckonBlock Fg_refl) (fun r1 k1 => ?_)
      have h1 := Fg_tr h (Fg_mono k1 rfl)
      exact qP_some h1
    · exact qP_none
theorem fr_X9_reckonBlocks_L25 (n : Nat) {N : Nat} {i1 i2 : Int} {M M0 : qm} (h : Fg 284913756951589198338445788839936 M0 M) : qP (qf_X9_reckonBlocks_L25 N n i1 i2 M) (pU (fun r => Fg 284913756951589198338445788839936 M0 r.2) (fun r => Fg 284913756951589198338445788839936 M0 r.2)) := by
  unfold qf_X9_reckonBlocks_L25
  exact qP_loop (I := fun s => Fg 284913756951589198338445788839936 M0 s.2.2) (fun s hs => fr_X9_reckonBlocks_L25_b hs) n _ h
theorem fr_X9_takeDelayed {N : Nat} {i1 : Int} {M M0 : qm} (h : Fg 163210014779384535442700537692160 M0 M) : qP (qf_X9_takeDelayed N i1 M) (fun r => Fg 163210014779384535442700537692160 M0 r.2) := by
  unfold qf_X9_takeDelayed
  refine qP_ite ?_ ?_
  · refine qP_ite ?_ ?_
    · refine qP_bind (fr_X9_countFailure Fg_refl) (fun r1 k1 => ?_)
      have h1 := Fg_tr h (Fg_mono k1 rfl)
      refine qP_ite ?_ ?_
      · refine qP_ite ?_ ?_
        · refine qP_ite ?_ ?_
          · refine qP_ite ?_ ?_
            · refine qP_bnd (m0 := _) (Fg_wa (k := 98) h1 rfl rfl) (fun M2 h2 => ?_)
              exact qP_some h2
            · exact qP_none
          · exact qP_none
        · exact qP_some h1
      · exact qP_none
    · refine qP_ite ?_ ?_
      · refine qP_ite ?_ ?_
        · refine qP_bnd (m0 := _) (Fg_wa (k := 99) h rfl rfl) (fun M3 h3 => ?_)
          exact qP_some h3
        · exact qP_none
      · exact qP_none
  · exact qP_none
theorem fr_X9_reckonBlocks_L52_b {N : Nat} {i2 : Int} {M M0 : qm} (h : Fg 284913756951589198338445788839936 M0 M) : qP (qf_X9_reckonBlocks_L52_b N i2 M) (pU (pU (fun r => Fg 284913756951589198338445788839936 M0 r.2) (fun r => Fg 284913756951589198338445788839936 M0 r.2)) (fun r => Fg 284913756951589198338445788839936 M0 r.2)) := by
  unfold qf_X9_reckonBlocks_L52_b
  refine qP_ite ?_ ?_
  · exact qP_some h
  · refine qP_ite ?_ ?_
    · refine qP_ite ?_ ?_
      · refine qP_bind (fr_X9_takeDelayed Fg_refl) (fun r1 k1 => ?_)
        have h1 := Fg_tr h (Fg_mono k1 rfl)
        exact qP_some h1
      · exact qP_some h
    · exact qP_none
theorem fr_X9_reckonBlocks_L52 (n : Nat) {N : Nat} {i2 : Int} {M M0 : qm} (h : Fg 284913756951589198338445788839936 M0 M) : qP (qf_X9_reckonBlocks_L52 N n i2 M) (pU (fun r => Fg 284913756951589198338445788839936 M0 r.2) (fun r => Fg 284913756951589198338445788839936 M0 r.2)) := by
  unfold qf_X9_reckonBlocks_L52
  exact qP_loop (I := fun s => Fg 284913756951589198338445788839936 M0 s.2) (fun s hs => fr_X9_reckonBlocks_L52_b hs) n _ h
theorem fr_X9_reckonBlocks {N : Nat} {i1 : Int} {M M0 : qm} (h : Fg 284913756951589198338445788839936 M0 M) : qP (qf_X9_reckonBlocks N i1 M) (fun r => Fg 284913756951589198338445788839936 M0 r.2) := by
  unfold qf_X9_reckonBlocks
  refine qP_bind (fr_X9_sortBlocks Fg_refl) (fun r1 k1 => ?_)
  have h1 := Fg_tr h (Fg_mono k1 rfl)
  refine qP_ite ?_ ?_
  · refine qP_ite ?_ ?_
    · refine qP_bind (fr_X9_reckonBlocks_L25 _ h1) (fun r2 k2 => ?_)
      rcases r2 with x2 | x2
      · exact qP_some k2
      · obtain ⟨y2_0, y2_1⟩ := x2
        have h2 : Fg _ _ y2_1 := k2
        refine qP_bind (fr_X9_reckonBlocks_L52 _ h2) (fun r3 k3 => ?_)
        rcases r3 with x3 | x3
        · exact qP_some k3
        · obtain ⟨y3_0, y3_1⟩ := x3
          have h3 : Fg _ _ y3_1 := k3
          refine qP_ite ?_ ?_
          · refine qP_bnd (m0 := _) (Fg_w h3 rfl) (fun M4 h4 => ?_)
            exact qP_some h4
          · refine qP_bnd (m0 := _) (Fg_w h3 rfl) (fun M5 h5 => ?_)
            exact qP_some h5
    · exact qP_some h1
  · exact qP_some h1
theorem fr_X1_spell_J137 {N : Nat} {a0 a1 i2 i3 i4 : Int} {M M0 : qm} (h : Fg 2658455991569831745807614120560689152 M0 M) : qP (qf_X1_spell_J137 N a0 a1 i2 i3 i4 M) (pU (pU (fun r => Fg 2658455991569831745807614120560689152 M0 r.2) (fun r => Fg 2658455991569831745807614120560689152 M0 r.2)) (fun r => Fg 2658455991569831745807614120560689152 M0 r.2.2.2.2.2)) := by
  unfold qf_X1_spell_J137
  refine qP_ite ?_ ?_
  · exact qP_some h
  · exact qP_none
theorem fr_X1_spell_L97_b {N : Nat} {a0 a1 i2 i3 i4 : Int} {M M0 : qm} (h : Fg 2658455991569831745807614120560689152 M0 M) : qP (qf_X1_spell_L97_b N a0 a1 i2 i3 i4 M) (pU (pU (fun r => Fg 2658455991569831745807614120560689152 M0 r.2) (fun r => Fg 2658455991569831745807614120560689152 M0 r.2)) (fun r => Fg 2658455991569831745807614120560689152 M0 r.2.2.2.2.2)) := by
  unfold qf_X1_spell_L97_b
  refine qP_ite ?_ ?_
  · exact qP_some h
  · refine qP_ite ?_ ?_
    · exact qP_some h
    · refine qP_ite ?_ ?_
      · exact (fr_X1_spell_J137 h)
      · refine qP_ite ?_ ?_
        · refine qP_bnd (m0 := _) (Fg_wa (k := 121) h rfl rfl) (fun M1 h1 => ?_)
          exact (fr_X1_spell_J137 h1)
        · exact qP_none
theorem fr_X1_spell_L97 (n : Nat) {N : Nat} {a0 a1 i2 i3 i4 : Int} {M M0 : qm} (h : Fg 2658455991569831745807614120560689152 M0 M) : qP (qf_X1_spell_L97 N n a0 a1 i2 i3 i4 M) (pU (fun r => Fg 2658455991569831745807614120560689152 M0 r.2) (fun r => Fg 2658455991569831745807614120560689152 M0 r.2)) := by
  unfold qf_X1_spell_L97
  exact qP_loop (I := fun s => Fg 2658455991569831745807614120560689152 M0 s.2.2.2.2.2) (fun s hs => fr_X1_spell_L97_b hs) n _ h
theorem fr_X1_spell_J150 {N : Nat} {a1 i2 i3 : Int} {M M0 : qm} (h : Fg 2658455991569831745807614120560689152 M0 M) : qP (qf_X1_spell_J150 N a1 i2 i3 M) (fun r => Fg 2658455991569831745807614120560689152 M0 r.2) := by
  unfold qf_X1_spell_J150
  refine qP_ite ?_ ?_
  · refine qP_bnd (m0 := _) (Fg_wa (k := 121) h rfl rfl) (fun M1 h1 => ?_)
    exact qP_some h1
  · exact qP_none
theorem fr_X1_spell_J85 {N : Nat} {a0 a1 i2 t0 t1 t2 : Int} {M M0 : qm} (h : Fg 2658455991569831745807614120560689152 M0 M) : qP (qf_X1_spell_J85 N a0 a1 i2 t0 t1 t2 M) (fun r => Fg 2658455991569831745807614120560689152 M0 r.2) := by
  unfold qf_X1_spell_J85
  refine qP_ite ?_ ?_
  · refine qP_bnd (m0 := _) (Fg_wa (k := 121) h rfl rfl) (fun M1 h1 => ?_)
    refine qP_bind (fr_X1_spell_L97 _ h1) (fun r2 k2 => ?_)
    rcases r2 with x2 | x2
    · exact qP_some k2
    · obtain ⟨y2_0, y2_1⟩ := x2
      have h2 : Fg _ _ y2_1 := k2
      exact (fr_X1_spell_J150 h2)
  · exact qP_none
theorem fr_X1_spell_J28 {N : Nat} {a0 a1 i2 t0 t1 t2 t3 : Int} {M M0 : qm} (h : Fg 2658455991569831745807614120560689152 M0 M) : qP (qf_X1_spell_J28 N a0 a1 i2 t0 t1 t2 t3 M) (fun r => Fg 2658455991569831745807614120560689152 M0 r.2) := by
  unfold qf_X1_spell_J28
  refine qP_ite ?_ ?_
  · refine qP_bnd (m0 := _) (Fg_wa (k := 121) h rfl rfl) (fun M1 h1 => ?_)
    refine qP_bnd (m0 := _) (Fg_wa (k := 121) h1 rfl rfl) (fun M2 h2 => ?_)
    refine qP_bnd (m0 := _) (Fg_wa (k := 121) h2 rfl rfl) (fun M3 h3 => ?_)
    refine qP_bnd (m0 := _) (Fg_wa (k := 121) h3 rfl rfl) (fun M4 h4 => ?_)
    refine qP_bnd (m0 := _) (Fg_wa (k := 121) h4 rfl rfl) (fun M5 h5 => ?_)
    refine qP_ite ?_ ?_
    · exact (fr_X1_spell_J85 h5)
    · exact (fr_X1_spell_J85 h5)
  · exact qP_none
theorem fr_X1_spell {N : Nat} {a0 a1 : Int} {M M0 : qm} (h : Fg 2658455991569831745807614120560689152 M0 M) : qP (qf_X1_spell N a0 a1 M) (fun r => Fg 2658455991569831745807614120560689152 M0 r.2) := by
  unfold qf_X1_spell
  refine qP_ite ?_ ?_
  · exact (fr_X1_spell_J28 h)
  · exact (fr_X1_spell_J28 h)
theorem fr_X1_beginSaying_J56 {N : Nat} {i1 a2 a3 t0 : Int} {M M0 : qm} (h : Fg 3323069989462289682259517650700861440 M0 M) : qP (qf_X1_beginSaying_J56 N i1 a2 a3 t0 M) (fun r => Fg 3323069989462289682259517650700861440 M0 r.2) := by
  unfold qf_X1_beginSaying_J56
  refine qP_ite ?_ ?_
  · exact qP_some h
  · refine qP_bnd (m0 := _) (Fg_wa (k := 119) h rfl rfl) (fun M1 h1 => ?_)
    refine qP_ite ?_ ?_
    · refine qP_bind (fr_X1_spell Fg_refl) (fun r2 k2 => ?_)
      have h2 := Fg_tr h1 (Fg_mono k2 rfl)
      exact qP_some h2
    · exact qP_none
theorem fr_X1_beginSaying_J54 {N : Nat} {i1 a2 a3 : Int} {M M0 : qm} (h : Fg 3323069989462289682259517650700861440 M0 M) : qP (qf_X1_beginSaying_J54 N i1 a2 a3 M) (fun r => Fg 3323069989462289682259517650700861440 M0 r.2) := by
  unfold qf_X1_beginSaying_J54
  exact (fr_X1_beginSaying_J56 h)
theorem fr_X1_beginSaying {N : Nat} {i1 : Int} {M M0 : qm} (h : Fg 3323069989462289682259517650700861440 M0 M) : qP (qf_X1_beginSaying N i1 M) (fun r => Fg 3323069989462289682259517650700861440 M0 r.2) := by
  unfold qf_X1_beginSaying
  refine qP_ite ?_ ?_
  · refine qP_ite ?_ ?_
    · refine qP_ite ?_ ?_
      · refine qP_ite ?_ ?_
        · exact qP_some h
        · refine qP_ite ?_ ?_
          · refine qP_ite ?_ ?_
            · exact (fr_X1_beginSaying_J54 h)
            · refine qP_ite ?_ ?_
              · exact (fr_X1_beginSaying_J56 h)
              · exact (fr_X1_beginSaying_J54 h)
          · exact qP_none
      · exact qP_some h
    · exact qP_some h
  · exact qP_none
theorem fr_X1_runBitTime_L37_b {N : Nat} {i1 : Int} {M M0 : qm} (h : Fg 164823967241185513465015716265993437184 M0 M) : qP (qf_X1_runBitTime_L37_b N i1 M) (pU (pU (fun r => Fg 164823967241185513465015716265993437184 M0 r.2) (fun r => Fg 164823967241185513465015716265993437184 M0 r.2)) (fun r => Fg 164823967241185513465015716265993437184 M0 r.2)) := by
  unfold qf_X1_runBitTime_L37_b
  refine qP_ite ?_ ?_
  · exact qP_some h
  · refine qP_bind (fr_X1_beginSaying Fg_refl) (fun r1 k1 => ?_)
    have h1 := Fg_tr h (Fg_mono k1 rfl)
    exact qP_some h1
theorem fr_X1_runBitTime_L37 (n : Nat) {N : Nat} {i1 : Int} {M M0 : qm} (h : Fg 164823967241185513465015716265993437184 M0 M) : qP (qf_X1_runBitTime_L37 N n i1 M) (pU (fun r => Fg 164823967241185513465015716265993437184 M0 r.2) (fun r => Fg 164823967241185513465015716265993437184 M0 r.2)) := by
  unfold qf_X1_runBitTime_L37
  exact qP_loop (I := fun s => Fg 164823967241185513465015716265993437184 M0 s.2) (fun s hs => fr_X1_runBitTime_L37_b hs) n _ h
theorem fr_X1_lineNow_J41 {N : Nat} {i1 : Int} {M M0 : qm} (h : Fg 10635122040493960690137589106325061632 M0 M) : qP (qf_X1_lineNow_J41 N i1 M) (fun r => Fg 10635122040493960690137589106325061632 M0 r.2) := by
  unfold qf_X1_lineNow_J41
  refine qP_pure (fun r1 => ?_)
  rcases r1 with x2 | x2
  · exact qP_some h
  · exact qP_some h
theorem fr_X1_lineNow {N : Nat} {M M0 : qm} (h : Fg 10635122040493960690137589106325061632 M0 M) : qP (qf_X1_lineNow N M) (fun r => Fg 10635122040493960690137589106325061632 M0 r.2) := by
  unfold qf_X1_lineNow
  refine qP_ite ?_ ?_
  · exact qP_none
  · refine qP_ite ?_ ?_
    · refine qP_ite ?_ ?_
      · exact (fr_X1_lineNow_J41 h)
      · refine qP_ite ?_ ?_
        · refine qP_bnd (m0 := _) (Fg_wa (k := 123) h rfl rfl) (fun M1 h1 => ?_)
          refine qP_bnd (m0 := _) (Fg_w h1 rfl) (fun M2 h2 => ?_)
          exact (fr_X1_lineNow_J41 h2)
        · exact qP_none
    · exact qP_none
theorem fr_X1_goOnSaying_J40 {N : Nat} {i1 a3 : Int} {M M0 : qm} (h : Fg 1993841993677373809355710590420516864 M0 M) : qP (qf_X1_goOnSaying_J40 N i1 a3 M) (fun r => Fg 1993841993677373809355710590420516864 M0 r.2) := by
  unfold qf_X1_goOnSaying_J40
  refine qP_bnd (m0 := _) (Fg_wa (k := 119) h rfl rfl) (fun M1 h1 => ?_)
  refine qP_ite ?_ ?_
  · refine qP_ite ?_ ?_
    · exact qP_some h1
    · refine qP_bnd (m0 := _) (Fg_wa (k := 119) h1 rfl rfl) (fun M2 h2 => ?_)
      refine qP_bnd (m0 := _) (Fg_wa (k := 119) h2 rfl rfl) (fun M3 h3 => ?_)
      refine qP_ite ?_ ?_
      · refine qP_bnd (m0 := _) (Fg_wa (k := 120) h3 rfl rfl) (fun M4 h4 => ?_)
        exact qP_some h4
      · exact qP_none
  · exact qP_none
theorem fr_X1_goOnSaying {N : Nat} {i1 i2 : Int} {M M0 : qm} (h : Fg 1993841993677373809355710590420516864 M0 M) : qP (qf_X1_goOnSaying N i1 i2 M) (fun r => Fg 1993841993677373809355710590420516864 M0 r.2) := by
  unfold qf_X1_goOnSaying
  refine qP_ite ?_ ?_
  · refine qP_ite ?_ ?_
    · exact qP_some h
    · refine qP_ite ?_ ?_
      · refine qP_pure (fun r1 => ?_)
        refine qP_ite ?_ ?_
        · refine qP_bnd (m0 := _) (Fg_wa (k := 119) h rfl rfl) (fun M2 h2 => ?_)
          refine qP_bnd (m0 := _) (Fg_wa (k := 119) h2 rfl rfl) (fun M3 h3 => ?_)
          exact qP_some h3
        · exact (fr_X1_goOnSaying_J40 h)
      · exact (fr_X1_goOnSaying_J40 h)
  · exact qP_none
theorem fr_X1_goOnAnswering {N : Nat} {i1 : Int} {M M0 : qm} (h : Fg 664613997892457936451903530140172288 M0 M) : qP (qf_X1_goOnAnswering N i1 M) (fun r => Fg 664613997892457936451903530140172288 M0 r.2) := by
  unfold qf_X1_goOnAnswering
  refine qP_ite ?_ ?_
  · refine qP_ite ?_ ?_
    · exact qP_some h
    · refine qP_ite ?_ ?_
      · refine qP_bnd (m0 := _) (Fg_wa (k := 119) h rfl rfl) (fun M1 h1 => ?_)
        exact qP_some h1
      · refine qP_bnd (m0 := _) (Fg_wa (k := 119) h rfl rfl) (fun M2 h2 => ?_)
        exact qP_some h2
  · exact qP_none
theorem fr_X1_runBitTime_L61_b {N : Nat} {i1 i2 : Int} {M M0 : qm} (h : Fg 164823967241185513465015716265993437184 M0 M) : qP (qf_X1_runBitTime_L61_b N i1 i2 M) (pU (pU (fun r => Fg 164823967241185513465015716265993437184 M0 r.2) (fun r => Fg 164823967241185513465015716265993437184 M0 r.2)) (fun r => Fg 164823967241185513465015716265993437184 M0 r.2.2)) := by
  unfold qf_X1_runBitTime_L61_b
  refine qP_ite ?_ ?_
  · exact qP_some h
  · refine qP_bind (fr_X1_goOnSaying Fg_refl) (fun r1 k1 => ?_)
    have h1 := Fg_tr h (Fg_mono k1 rfl)
    refine qP_bind (fr_X1_goOnAnswering Fg_refl) (fun r2 k2 => ?_)
    have h2 := Fg_tr h1 (Fg_mono k2 rfl)
    exact qP_some h2
theorem fr_X1_runBitTime_L61 (n : Nat) {N : Nat} {i1 i2 : Int} {M M0 : qm} (h : Fg 164823967241185513465015716265993437184 M0 M) : qP (qf_X1_runBitTime_L61 N n i1 i2 M) (pU (fun r => Fg 164823967241185513465015716265993437184 M0 r.2) (fun r => Fg 164823967241185513465015716265993437184 M0 r.2)) := by
  unfold qf_X1_runBitTime_L61
  exact qP_loop (I := fun s => Fg 164823967241185513465015716265993437184 M0 s.2.2) (fun s hs => fr_X1_runBitTime_L61_b hs) n _ h
theorem fr_X1_beginCharacter {N : Nat} {M M0 : qm} (h : Fg 7788445287802241442795744493830144 M0 M) : qP (qf_X1_beginCharacter N M) (fun r => Fg 7788445287802241442795744493830144 M0 r.2) := by
  unfold qf_X1_beginCharacter
  refine qP_bnd (m0 := _) (Fg_w h rfl) (fun M1 h1 => ?_)
  refine qP_bnd (m0 := _) (Fg_w h1 rfl) (fun M2 h2 => ?_)
  exact qP_some h2
theorem fr_X1_beginHearing {N : Nat} {M M0 : qm} (h : Fg 38942226439011207213978722469150720 M0 M) : qP (qf_X1_beginHearing N M) (fun r => Fg 38942226439011207213978722469150720 M0 r.2) := by
  unfold qf_X1_beginHearing
  refine qP_bnd (m0 := _) (Fg_w h rfl) (fun M1 h1 => ?_)
  refine qP_bnd (m0 := _) (Fg_w h1 rfl) (fun M2 h2 => ?_)
  refine qP_bind (fr_X1_beginCharacter Fg_refl) (fun r3 k3 => ?_)
  have h3 := Fg_tr h2 (Fg_mono k3 rfl)
  exact qP_some h3
theorem fr_X1_complete_J112 {N : Nat} {t1 : Int} {M M0 : qm} (h : Fg 128228983500785706765859561293670776832 M0 M) : qP (qf_X1_complete_J112 N t1 M) (fun r => Fg 128228983500785706765859561293670776832 M0 r.2) := by
  unfold qf_X1_complete_J112
  refine qP_ite ?_ ?_
  · refine qP_ite ?_ ?_
    · refine qP_bnd (m0 := _) (Fg_wa (k := 126) h rfl rfl) (fun M1 h1 => ?_)
      exact qP_some h1
    · exact qP_none
  · exact qP_none
theorem fr_X1_complete_J78 {N : Nat} {t0 : Int} {M M0 : qm} (h : Fg 128228983500785706765859561293670776832 M0 M) : qP (qf_X1_complete_J78 N t0 M) (fun r => Fg 128228983500785706765859561293670776832 M0 r.2) := by
  unfold qf_X1_complete_J78
  refine qP_ite ?_ ?_
  · refine qP_bnd (m0 := _) (Fg_wa (k := 126) h rfl rfl) (fun M1 h1 => ?_)
    exact qP_some h1
  · refine qP_bnd (m0 := _) (Fg_w h rfl) (fun M2 h2 => ?_)
    refine qP_ite ?_ ?_
    · exact (fr_X1_complete_J112 h2)
    · exact (fr_X1_complete_J112 h2)
theorem fr_X1_complete_J77 {N : Nat} {M M0 : qm} (h : Fg 128228983500785706765859561293670776832 M0 M) : qP (qf_X1_complete_J77 N M) (fun r => Fg 128228983500785706765859561293670776832 M0 r.2) := by
  unfold qf_X1_complete_J77
  exact (fr_X1_complete_J78 h)
theorem fr_X1_complete_J37 {N : Nat} {i1 : Int} {M M0 : qm} (h : Fg 128228983500785706765859561293670776832 M0 M) : qP (qf_X1_complete_J37 N i1 M) (fun r => Fg 128228983500785706765859561293670776832 M0 r.2) := by
  unfold qf_X1_complete_J37
  refine qP_bnd (m0 := _) (Fg_w h rfl) (fun M1 h1 => ?_)
  refine qP_ite ?_ ?_
  · refine qP_ite ?_ ?_
    · refine qP_ite ?_ ?_
      · exact (fr_X1_complete_J78 h1)
      · exact (fr_X1_complete_J77 h1)
    · exact (fr_X1_complete_J77 h1)
  · exact (fr_X1_complete_J77 h1)
theorem fr_X1_takeTelegram {N : Nat} {i1 : Int} {M M0 : qm} (h : Fg 128228983500785706765859561293670776832 M0 M) : qP (qf_X1_takeTelegram N i1 M) (fun r => Fg 128228983500785706765859561293670776832 M0 r.2) := by
  unfold qf_X1_takeTelegram
  refine qP_ite ?_ ?_
  · refine qP_bnd (m0 := _) (Fg_c1 (k := 125) h (fun _ => rfl) rfl) (fun M1 h1 => ?_)
    refine qP_bnd (m0 := _) (Fg_w h1 rfl) (fun M2 h2 => ?_)
    refine qP_bnd (m0 := _) (Fg_w h2 rfl) (fun M3 h3 => ?_)
    refine qP_bnd (m0 := _) (Fg_w h3 rfl) (fun M4 h4 => ?_)
    refine qP_bnd (m0 := _) (Fg_w h4 rfl) (fun M5 h5 => ?_)
    refine qP_bnd (m0 := _) (Fg_wa (k := 126) h5 rfl rfl) (fun M6 h6 => ?_)
    refine qP_pure (fun r7 => ?_)
    refine qP_ite ?_ ?_
    · exact qP_some h6
    · refine qP_bnd (m0 := _) (Fg_wa (k := 126) h6 rfl rfl) (fun M8 h8 => ?_)
      refine qP_pure (fun r9 => ?_)
      refine qP_ite ?_ ?_
      · exact qP_some h8
      · refine qP_ite ?_ ?_
        · exact qP_some h8
        · refine qP_ite ?_ ?_
          · exact qP_some h8
          · refine qP_ite ?_ ?_
            · refine qP_bnd (m0 := _) (Fg_wa (k := 104) h8 rfl rfl) (fun M10 h10 => ?_)
              exact qP_some h10
            · exact qP_none
  · exact qP_none
theorem fr_X1_complete {N : Nat} {M M0 : qm} (h : Fg 128228983500785706765859561293670776832 M0 M) : qP (qf_X1_complete N M) (fun r => Fg 128228983500785706765859561293670776832 M0 r.2) := by
  unfold qf_X1_complete
  refine qP_ite ?_ ?_
  · exact (fr_X1_complete_J37 h)
  · refine qP_ite ?_ ?_
    · refine qP_bind (fr_X1_takeTelegram Fg_refl) (fun r1 k1 => ?_)
      have h1 := Fg_tr h (Fg_mono k1 rfl)
      exact qP_some h1
    · exact (fr_X1_complete_J37 h)
theorem fr_X1_takeCharacter_J56 {N : Nat} {i1 : Int} {M M0 : qm} (h : Fg 21298801713709862932232095942460833792 M0 M) : qP (qf_X1_takeCharacter_J56 N i1 M) (fun r => Fg 21298801713709862932232095942460833792 M0 r.2) := by
  unfold qf_X1_takeCharacter_J56
  refine qP_ite ?_ ?_
  · exact qP_some h
  · refine qP_ite ?_ ?_
    · refine qP_bnd (m0 := _) (Fg_wa (k := 124) h rfl rfl) (fun M1 h1 => ?_)
      refine qP_bnd (m0 := _) (Fg_w h1 rfl) (fun M2 h2 => ?_)
      exact qP_some h2
    · exact qP_none
theorem fr_X1_takeCharacter_J51 {N : Nat} {i1 : Int} {M M0 : qm} (h : Fg 21298801713709862932232095942460833792 M0 M) : qP (qf_X1_takeCharacter_J51 N i1 M) (fun r => Fg 21298801713709862932232095942460833792 M0 r.2) := by
  unfold qf_X1_takeCharacter_J51
  refine qP_bnd (m0 := _) (Fg_w h rfl) (fun M1 h1 => ?_)
  exact (fr_X1_takeCharacter_J56 h1)
theorem fr_X1_takeCharacter {N : Nat} {M M0 : qm} (h : Fg 21298801713709862932232095942460833792 M0 M) : qP (qf_X1_takeCharacter N M) (fun r => Fg 21298801713709862932232095942460833792 M0 r.2) := by
  unfold qf_X1_takeCharacter
  refine qP_pure (fun r1 => ?_)
  refine qP_ite ?_ ?_
  · refine qP_ite ?_ ?_
    · exact (fr_X1_takeCharacter_J51 h)
    · refine qP_ite ?_ ?_
      · exact (fr_X1_takeCharacter_J56 h)
      · exact (fr_X1_takeCharacter_J51 h)
  · exact (fr_X1_takeCharacter_J51 h)
theorem fr_X1_hear {N : Nat} {i1 : Int} {M M0 : qm} (h : Fg 149535573659783371939534452980625440768 M0 M) : qP (qf_X1_hear N i1 M) (fun r => Fg 149535573659783371939534452980625440768 M0 r.2) := by
  unfold qf_X1_hear
  refine qP_ite ?_ ?_
  · refine qP_ite ?_ ?_
    · refine qP_bind (fr_X1_beginHearing Fg_refl) (fun r1 k1 => ?_)
      have h1 := Fg_tr h (Fg_mono k1 rfl)
      exact qP_some h1
    · exact qP_some h
  · refine qP_ite ?_ ?_
    · refine qP_ite ?_ ?_
      · refine qP_ite ?_ ?_
        · refine qP_bind (fr_X1_complete Fg_refl) (fun r2 k2 => ?_)
          have h2 := Fg_tr h (Fg_mono k2 rfl)
          refine qP_bnd (m0 := _) (Fg_w h2 rfl) (fun M3 h3 => ?_)
          exact qP_some h3
        · refine qP_bind (fr_X1_beginCharacter Fg_refl) (fun r4 k4 => ?_)
          have h4 := Fg_tr h (Fg_mono k4 rfl)
          exact qP_some h4
      · refine qP_ite ?_ ?_
        · refine qP_bnd (m0 := _) (Fg_w h rfl) (fun M5 h5 => ?_)
          exact qP_some h5
        · refine qP_bind (fr_X1_complete Fg_refl) (fun r6 k6 => ?_)
          have h6 := Fg_tr h (Fg_mono k6 rfl)
          refine qP_bind (fr_X1_beginHearing Fg_refl) (fun r7 k7 => ?_)
          have h7 := Fg_tr h6 (Fg_mono k7 rfl)
          exact qP_some h7
    · refine qP_bnd (m0 := _) (Fg_w h rfl) (fun M8 h8 => ?_)
      refine qP_bnd (m0 := _) (Fg_w h8 rfl) (fun M9 h9 => ?_)
      refine qP_ite ?_ ?_
      · refine qP_bind (fr_X1_takeCharacter Fg_refl) (fun r10 k10 => ?_)
        have h10 := Fg_tr h9 (Fg_mono k10 rfl)
        exact qP_some h10
      · exact qP_some h9
theorem fr_X1_dropFirst {N : Nat} {i1 : Int} {M M0 : qm} (h : Fg 1993841993677373809355710590420516864 M0 M) : qP (qf_X1_dropFirst N i1 M) (fun r => Fg 1993841993677373809355710590420516864 M0 r.2) := by
  unfold qf_X1_dropFirst
  refine qP_ite ?_ ?_
  · refine qP_bnd (m0 := _) (Fg_c2 (k := 120) h (fun _ => rfl) rfl) (fun M1 h1 => ?_)
    refine qP_ite ?_ ?_
    · refine qP_bnd (m0 := _) (Fg_wa (k := 119) h1 rfl rfl) (fun M2 h2 => ?_)
      exact qP_some h2
    · exact qP_none
  · exact qP_none
theorem fr_X1_endWaiting {N : Nat} {i1 : Int} {M M0 : qm} (h : Fg 1993841993677373809355710590420516864 M0 M) : qP (qf_X1_endWaiting N i1 M) (fun r => Fg 1993841993677373809355710590420516864 M0 r.2) := by
  unfold qf_X1_endWaiting
  refine qP_ite ?_ ?_
  · refine qP_bnd (m0 := _) (Fg_wa (k := 119) h rfl rfl) (fun M1 h1 => ?_)
    refine qP_ite ?_ ?_
    · refine qP_bnd (m0 := _) (Fg_wa (k := 119) h1 rfl rfl) (fun M2 h2 => ?_)
      refine qP_bind (fr_X1_dropFirst Fg_refl) (fun r3 k3 => ?_)
      have h3 := Fg_tr h2 (Fg_mono k3 rfl)
      exact qP_some h3
    · refine qP_ite ?_ ?_
      · refine qP_ite ?_ ?_
        · exact qP_some h1
        · refine qP_bnd (m0 := _) (Fg_wa (k := 119) h1 rfl rfl) (fun M4 h4 => ?_)
          refine qP_bind (fr_X1_dropFirst Fg_refl) (fun r5 k5 => ?_)
          have h5 := Fg_tr h4 (Fg_mono k5 rfl)
          exact qP_some h5
      · exact qP_none
  · exact qP_none
theorem fr_X1_runBitTime_L110_b {N : Nat} {i2 : Int} {M M0 : qm} (h : Fg 164823967241185513465015716265993437184 M0 M) : qP (qf_X1_runBitTime_L110_b N i2 M) (pU (pU (fun r => Fg 164823967241185513465015716265993437184 M0 r.2) (fun r => Fg 164823967241185513465015716265993437184 M0 r.2)) (fun r => Fg 164823967241185513465015716265993437184 M0 r.2)) := by
  unfold qf_X1_runBitTime_L110_b
  refine qP_ite ?_ ?_
  · exact qP_some h
  · refine qP_ite ?_ ?_
    · refine qP_ite ?_ ?_
      · refine qP_bind (fr_X1_endWaiting Fg_refl) (fun r1 k1 => ?_)
        have h1 := Fg_tr h (Fg_mono k1 rfl)
        exact qP_some h1
      · exact qP_some h
    · exact qP_none
theorem fr_X1_runBitTime_L110 (n : Nat) {N : Nat} {i2 : Int} {M M0 : qm} (h : Fg 164823967241185513465015716265993437184 M0 M) : qP (qf_X1_runBitTime_L110 N n i2 M) (pU (fun r => Fg 164823967241185513465015716265993437184 M0 r.2) (fun r => Fg 164823967241185513465015716265993437184 M0 r.2)) := by
  unfold qf_X1_runBitTime_L110
  exact qP_loop (I := fun s => Fg 164823967241185513465015716265993437184 M0 s.2) (fun s hs => fr_X1_runBitTime_L110_b hs) n _ h
theorem fr_X1_runBitTime_J105 {N : Nat} {t1 : Int} {M M0 : qm} (h : Fg 164823967241185513465015716265993437184 M0 M) : qP (qf_X1_runBitTime_J105 N t1 M) (fun r => Fg 164823967241185513465015716265993437184 M0 r.2) := by
  unfold qf_X1_runBitTime_J105
  refine qP_bnd (m0 := _) (Fg_w h rfl) (fun M1 h1 => ?_)
  refine qP_bind (fr_X1_runBitTime_L110 _ h1) (fun r2 k2 => ?_)
  rcases r2 with x2 | x2
  · exact qP_some k2
  · obtain ⟨y2_0, y2_1⟩ := x2
    have h2 : Fg _ _ y2_1 := k2
    exact qP_some h2
theorem fr_X1_runBitTime_J35 {N : Nat} {M M0 : qm} (h : Fg 164823967241185513465015716265993437184 M0 M) : qP (qf_X1_runBitTime_J35 N M) (fun r => Fg 164823967241185513465015716265993437184 M0 r.2) := by
  unfold qf_X1_runBitTime_J35
  refine qP_bind (fr_X1_runBitTime_L37 _ h) (fun r1 k1 => ?_)
  rcases r1 with x1 | x1
  · exact qP_some k1
  · obtain ⟨y1_0, y1_1⟩ := x1
    have h1 : Fg _ _ y1_1 := k1
    refine qP_bind (fr_X1_lineNow Fg_refl) (fun r2 k2 => ?_)
    have h2 := Fg_tr h1 (Fg_mono k2 rfl)
    refine qP_bind (fr_X1_runBitTime_L61 _ h2) (fun r3 k3 => ?_)
    rcases r3 with x3 | x3
    · exact qP_some k3
    · obtain ⟨y3_0, y3_1⟩ := x3
      have h3 : Fg _ _ y3_1 := k3
      refine qP_bind (fr_X1_hear Fg_refl) (fun r4 k4 => ?_)
      have h4 := Fg_tr h3 (Fg_mono k4 rfl)
      refine qP_ite ?_ ?_
      · exact (fr_X1_runBitTime_J105 h4)
      · exact (fr_X1_runBitTime_J105 h4)
theorem fr_X1_beginAnswers_J74 {N : Nat} {i1 i2 a3 t0 t1 t2 : Int} {M M0 : qm} (h : Fg 664613997892457936451903530140172288 M0 M) : qP (qf_X1_beginAnswers_J74 N i1 i2 a3 t0 t1 t2 M) (pU (pU (fun r => Fg 664613997892457936451903530140172288 M0 r.2) (fun r => Fg 664613997892457936451903530140172288 M0 r.2)) (fun r => Fg 664613997892457936451903530140172288 M0 r.2.2)) := by
  unfold qf_X1_beginAnswers_J74
  refine qP_ite ?_ ?_
  · refine qP_bnd (m0 := _) (Fg_wa (k := 119) h rfl rfl) (fun M1 h1 => ?_)
    refine qP_bnd (m0 := _) (Fg_wa (k := 119) h1 rfl rfl) (fun M2 h2 => ?_)
    exact qP_some h2
  · exact qP_none
theorem fr_X1_beginAnswers_J58 {N : Nat} {i1 i2 a3 t0 : Int} {M M0 : qm} (h : Fg 664613997892457936451903530140172288 M0 M) : qP (qf_X1_beginAnswers_J58 N i1 i2 a3 t0 M) (pU (pU (fun r => Fg 664613997892457936451903530140172288 M0 r.2) (fun r => Fg 664613997892457936451903530140172288 M0 r.2)) (fun r => Fg 664613997892457936451903530140172288 M0 r.2.2)) := by
  unfold qf_X1_beginAnswers_J58
  refine qP_ite ?_ ?_
  · exact (fr_X1_beginAnswers_J74 h)
  · exact (fr_X1_beginAnswers_J74 h)
theorem fr_X1_beginAnswers_L7_b {N : Nat} {i1 i2 : Int} {M M0 : qm} (h : Fg 664613997892457936451903530140172288 M0 M) : qP (qf_X1_beginAnswers_L7_b N i1 i2 M) (pU (pU (fun r => Fg 664613997892457936451903530140172288 M0 r.2) (fun r => Fg 664613997892457936451903530140172288 M0 r.2)) (fun r => Fg 664613997892457936451903530140172288 M0 r.2.2)) := by
  unfold qf_X1_beginAnswers_L7_b
  refine qP_ite ?_ ?_
  · exact qP_some h
  · refine qP_ite ?_ ?_
    · refine qP_pure (fun r1 => ?_)
      refine qP_ite ?_ ?_
      · exact qP_some h
      · refine qP_ite ?_ ?_
        · refine qP_ite ?_ ?_
          · refine qP_ite ?_ ?_
            · exact (fr_X1_beginAnswers_J58 h)
            · exact (fr_X1_beginAnswers_J58 h)
          · exact qP_some h
        · exact qP_some h
    · exact qP_none
theorem fr_X1_beginAnswers_L7 (n : Nat) {N : Nat} {i1 i2 : Int} {M M0 : qm} (h : Fg 664613997892457936451903530140172288 M0 M) : qP (qf_X1_beginAnswers_L7 N n i1 i2 M) (pU (fun r => Fg 664613997892457936451903530140172288 M0 r.2) (fun r => Fg 664613997892457936451903530140172288 M0 r.2)) := by
  unfold qf_X1_beginAnswers_L7
  exact qP_loop (I := fun s => Fg 664613997892457936451903530140172288 M0 s.2.2) (fun s hs => fr_X1_beginAnswers_L7_b hs) n _ h
theorem fr_X1_beginAnswers {N : Nat} {M M0 : qm} (h : Fg 664613997892457936451903530140172288 M0 M) : qP (qf_X1_beginAnswers N M) (fun r => Fg 664613997892457936451903530140172288 M0 r.2) := by
  unfold qf_X1_beginAnswers
  refine qP_pure (fun r1 => ?_)
  refine qP_bind (fr_X1_beginAnswers_L7 _ h) (fun r2 k2 => ?_)
  rcases r2 with x2 | x2
  · exact qP_some k2
  · obtain ⟨y2_0, y2_1⟩ := x2
    have h2 : Fg _ _ y2_1 := k2
    exact qP_some h2
theorem fr_X1_runBitTime {N : Nat} {M M0 : qm} (h : Fg 164823967241185513465015716265993437184 M0 M) : qP (qf_X1_runBitTime N M) (fun r => Fg 164823967241185513465015716265993437184 M0 r.2) := by
  unfold qf_X1_runBitTime
  refine qP_bnd (m0 := _) (Fg_w h rfl) (fun M1 h1 => ?_)
  refine qP_ite ?_ ?_
  · refine qP_ite ?_ ?_
    · exact (fr_X1_runBitTime_J35 h1)
    · refine qP_bind (fr_X1_beginAnswers Fg_refl) (fun r2 k2 => ?_)
      have h2 := Fg_tr h1 (Fg_mono k2 rfl)
      exact (fr_X1_runBitTime_J35 h2)
  · exact (fr_X1_runBitTime_J35 h1)
theorem fr_X11_passSecond_L211_b {N : Nat} {i1 : Int} {M M0 : qm} (h : Fg 22128727145120783221488305490411252646674434 M0 M) : qP (qf_X11_passSecond_L211_b N i1 M) (pU (pU (fun r => Fg 22128727145120783221488305490411252646674434 M0 r.2) (fun r => Fg 22128727145120783221488305490411252646674434 M0 r.2)) (fun r => Fg 22128727145120783221488305490411252646674434 M0 r.2)) := by
  unfold qf_X11_passSecond_L211_b
  refine qP_ite ?_ ?_
  · exact qP_some h
  · refine qP_bind (fr_X1_runBitTime Fg_refl) (fun r1 k1 => ?_)
    have h1 := Fg_tr h (Fg_mono k1 rfl)
    exact qP_some h1
theorem fr_X11_passSecond_L211 (n : Nat) {N : Nat} {i1 : Int} {M M0 : qm} (h : Fg 22128727145120783221488305490411252646674434 M0 M) : qP (qf_X11_passSecond_L211 N n i1 M) (pU (fun r => Fg 22128727145120783221488305490411252646674434 M0 r.2) (fun r => Fg 22128727145120783221488305490411252646674434 M0 r.2)) := by
  unfold qf_X11_passSecond_L211
  exact qP_loop (I := fun s => Fg 22128727145120783221488305490411252646674434 M0 s.2) (fun s hs => fr_X11_passSecond_L211_b hs) n _ h
theorem fr_X10_catchPersons_L2_b {N : Nat} {i1 i2 : Int} {M M0 : qm} (h : Fg 72057594037927936 M0 M) : qP (qf_X10_catchPersons_L2_b N i1 i2 M) (pU (pU (fun r => Fg 72057594037927936 M0 r.2) (fun r => Fg 72057594037927936 M0 r.2)) (fun r => Fg 72057594037927936 M0 r.2.2)) := by
  unfold qf_X10_catchPersons_L2_b
  refine qP_ite ?_ ?_
  · exact qP_some h
  · refine qP_pure (fun r1 => ?_)
    refine qP_ite ?_ ?_
    · exact qP_some h
    · refine qP_pure (fun r2 => ?_)
      refine qP_ite ?_ ?_
      · refine qP_ite ?_ ?_
        · exact qP_some h
        · refine qP_ite ?_ ?_
          · refine qP_bnd (m0 := _) (Fg_wa (k := 56) h rfl rfl) (fun M3 h3 => ?_)
            exact qP_some h3
          · exact qP_none
      · exact qP_none
theorem fr_X10_catchPersons_L2 (n : Nat) {N : Nat} {i1 i2 : Int} {M M0 : qm} (h : Fg 72057594037927936 M0 M) : qP (qf_X10_catchPersons_L2 N n i1 i2 M) (pU (fun r => Fg 72057594037927936 M0 r.2) (fun r => Fg 72057594037927936 M0 r.2)) := by
  unfold qf_X10_catchPersons_L2
  exact qP_loop (I := fun s => Fg 72057594037927936 M0 s.2.2) (fun s hs => fr_X10_catchPersons_L2_b hs) n _ h
theorem fr_X10_catchPersons {N : Nat} {i1 : Int} {M M0 : qm} (h : Fg 72057594037927936 M0 M) : qP (qf_X10_catchPersons N i1 M) (fun r => Fg 72057594037927936 M0 r.2) := by
  unfold qf_X10_catchPersons
  refine qP_bind (fr_X10_catchPersons_L2 _ h) (fun r1 k1 => ?_)
  rcases r1 with x1 | x1
  · exact qP_some k1
  · obtain ⟨y1_0, y1_1⟩ := x1
    have h1 : Fg _ _ y1_1 := k1
    exact qP_some h1
theorem fr_X10_movePersons_L2_b {N : Nat} {i1 i2 : Int} {M M0 : qm} (h : Fg 504403158265495552 M0 M) : qP (qf_X10_movePersons_L2_b N i1 i2 M) (pU (pU (fun r => Fg 504403158265495552 M0 r.2) (fun r => Fg 504403158265495552 M0 r.2)) (fun r => Fg 504403158265495552 M0 r.2.2)) := by
  unfold qf_X10_movePersons_L2_b
  refine qP_ite ?_ ?_
  · exact qP_some h
  · refine qP_ite ?_ ?_
    · refine qP_bnd (m0 := _) (Fg_f2 (k := 58) h (fun _ => rfl) rfl) (fun M1 h1 => ?_)
      exact qP_some h1
    · exact qP_none
theorem fr_X10_movePersons_L2 (n : Nat) {N : Nat} {i1 i2 : Int} {M M0 : qm} (h : Fg 504403158265495552 M0 M) : qP (qf_X10_movePersons_L2 N n i1 i2 M) (pU (fun r => Fg 504403158265495552 M0 r.2) (fun r => Fg 504403158265495552 M0 r.2)) := by
  unfold qf_X10_movePersons_L2
  exact qP_loop (I := fun s => Fg 504403158265495552 M0 s.2.2) (fun s hs => fr_X10_movePersons_L2_b hs) n _ h
theorem fr_X10_lineUp_L45_b {N : Nat} {i1 i2 i3 i5 : Int} {M M0 : qm} (h : Fg 144115188075855872 M0 M) : qP (qf_X10_lineUp_L45_b N i1 i2 i3 i5 M) (pU (pU (fun r => Fg 144115188075855872 M0 r.2) (fun r => Fg 144115188075855872 M0 r.2)) (fun r => Fg 144115188075855872 M0 r.2.2.2.2)) := by
  unfold qf_X10_lineUp_L45_b
  refine qP_ite ?_ ?_
  · exact qP_some h
  · refine qP_ite ?_ ?_
    · refine qP_pure (fun r1 => ?_)
      refine qP_pure (fun r2 => ?_)
      refine qP_ite ?_ ?_
      · exact qP_some h
      · refine qP_ite ?_ ?_
        · refine qP_ite ?_ ?_
          · refine qP_bnd (m0 := _) (Fg_wa (k := 57) h rfl rfl) (fun M3 h3 => ?_)
            exact qP_some h3
          · exact qP_none
        · exact qP_none
    · exact qP_none
theorem fr_X10_lineUp_L45 (n : Nat) {N : Nat} {i1 i2 i3 i5 : Int} {M M0 : qm} (h : Fg 144115188075855872 M0 M) : qP (qf_X10_lineUp_L45 N n i1 i2 i3 i5 M) (pU (fun r => Fg 144115188075855872 M0 r.2) (fun r => Fg 144115188075855872 M0 r.2)) := by
  unfold qf_X10_lineUp_L45
  exact qP_loop (I := fun s => Fg 144115188075855872 M0 s.2.2.2.2) (fun s hs => fr_X10_lineUp_L45_b hs) n _ h
theorem fr_X10_lineUp_J93 {N : Nat} {i1 i2 i3 i5 : Int} {M M0 : qm} (h : Fg 144115188075855872 M0 M) : qP (qf_X10_lineUp_J93 N i1 i2 i3 i5 M) (pU (pU (fun r => Fg 144115188075855872 M0 r.2) (fun r => Fg 144115188075855872 M0 r.2)) (fun r => Fg 144115188075855872 M0 r.2.2.2)) := by
  unfold qf_X10_lineUp_J93
  refine qP_ite ?_ ?_
  · refine qP_bnd (m0 := _) (Fg_wa (k := 57) h rfl rfl) (fun M1 h1 => ?_)
    exact qP_some h1
  · exact qP_none
theorem fr_X10_lineUp_L4_b {N : Nat} {i1 i2 i3 : Int} {M M0 : qm} (h : Fg 144115188075855872 M0 M) : qP (qf_X10_lineUp_L4_b N i1 i2 i3 M) (pU (pU (fun r => Fg 144115188075855872 M0 r.2) (fun r => Fg 144115188075855872 M0 r.2)) (fun r => Fg 144115188075855872 M0 r.2.2.2)) := by
  unfold qf_X10_lineUp_L4_b
  refine qP_ite ?_ ?_
  · exact qP_some h
  · refine qP_ite ?_ ?_
    · refine qP_pure (fun r1 => ?_)
      refine qP_ite ?_ ?_
      · exact qP_some h
      · refine qP_ite ?_ ?_
        · exact qP_some h
        · refine qP_bind (fr_X10_lineUp_L45 _ h) (fun r2 k2 => ?_)
          rcases r2 with x2 | x2
          · exact qP_some k2
          · obtain ⟨y2_0, y2_1⟩ := x2
            have h2 : Fg _ _ y2_1 := k2
            exact (fr_X10_lineUp_J93 h2)
    · exact qP_none
theorem fr_X10_lineUp_L4 (n : Nat) {N : Nat} {i1 i2 i3 : Int} {M M0 : qm} (h : Fg 144115188075855872 M0 M) : qP (qf_X10_lineUp_L4 N n i1 i2 i3 M) (pU (fun r => Fg 144115188075855872 M0 r.2) (fun r => Fg 144115188075855872 M0 r.2)) := by
  unfold qf_X10_lineUp_L4
  exact qP_loop (I := fun s => Fg 144115188075855872 M0 s.2.2.2) (fun s hs => fr_X10_lineUp_L4_b hs) n _ h
theorem fr_X10_lineUp {N : Nat} {i1 : Int} {M M0 : qm} (h : Fg 144115188075855872 M0 M) : qP (qf_X10_lineUp N i1 M) (fun r => Fg 144115188075855872 M0 r.2) := by
  unfold qf_X10_lineUp
  refine qP_bind (fr_X10_lineUp_L4 _ h) (fun r1 k1 => ?_)
  rcases r1 with x1 | x1
  · exact qP_some k1
  · obtain ⟨y1_0, y1_1⟩ := x1
    have h1 : Fg _ _ y1_1 := k1
    exact qP_some h1
theorem fr_X10_goesThrough_L32_b {N : Nat} {i3 i4 i5 : Int} {M M0 : qm} (h : Fg 288230376151711744 M0 M) : qP (qf_X10_goesThrough_L32_b N i3 i4 i5 M) (pU (pU (fun r => Fg 288230376151711744 M0 r.2) (fun r => Fg 288230376151711744 M0 r.2)) (fun r => Fg 288230376151711744 M0 r.2.2.2)) := by
  unfold qf_X10_goesThrough_L32_b
  refine qP_ite ?_ ?_
  · refine qP_ite ?_ ?_
    · exact qP_some h
    · refine qP_pure (fun r1 => ?_)
      refine qP_ite ?_ ?_
      · exact qP_some h
      · refine qP_ite ?_ ?_
        · refine qP_ite ?_ ?_
          · refine qP_pure (fun r2 => ?_)
            refine qP_ite ?_ ?_
            · exact qP_some h
            · refine qP_ite ?_ ?_
              · refine qP_ite ?_ ?_
                · refine qP_ite ?_ ?_
                  · refine qP_bnd (m0 := _) (Fg_wa (k := 58) h rfl rfl) (fun M3 h3 => ?_)
                    exact qP_some h3
                  · exact qP_none
                · exact qP_none
              · exact qP_none
          · exact qP_none
        · exact qP_none
  · exact qP_none
theorem fr_X10_goesThrough_L32 (n : Nat) {N : Nat} {i3 i4 i5 : Int} {M M0 : qm} (h : Fg 288230376151711744 M0 M) : qP (qf_X10_goesThrough_L32 N n i3 i4 i5 M) (pU (fun r => Fg 288230376151711744 M0 r.2) (fun r => Fg 288230376151711744 M0 r.2)) := by
  unfold qf_X10_goesThrough_L32
  exact qP_loop (I := fun s => Fg 288230376151711744 M0 s.2.2.2) (fun s hs => fr_X10_goesThrough_L32_b hs) n _ h
theorem fr_X10_goesThrough {N : Nat} {i1 i2 : Int} {M M0 : qm} (h : Fg 288230376151711744 M0 M) : qP (qf_X10_goesThrough N i1 i2 M) (fun r => Fg 288230376151711744 M0 r.2) := by
  unfold qf_X10_goesThrough
  refine qP_pure (fun r1 => ?_)
  refine qP_ite ?_ ?_
  · exact qP_some h
  · refine qP_pure (fun r2 => ?_)
    refine qP_bind (fr_X10_goesThrough_L32 _ h) (fun r3 k3 => ?_)
    rcases r3 with x3 | x3
    · exact qP_some k3
    · obtain ⟨y3_0, y3_1⟩ := x3
      have h3 : Fg _ _ y3_1 := k3
      exact qP_some h3
theorem fr_X10_step {N : Nat} {i1 i2 i3 : Int} {M M0 : qm} (h : Fg 72057594037927936 M0 M) : qP (qf_X10_step N i1 i2 i3 M) (fun r => Fg 72057594037927936 M0 r.2) := by
  unfold qf_X10_step
  refine qP_ite ?_ ?_
  · refine qP_bnd (m0 := _) (Fg_wa (k := 56) h rfl rfl) (fun M1 h1 => ?_)
    refine qP_pure (fun r2 => ?_)
    refine qP_ite ?_ ?_
    · refine qP_pure (fun r3 => ?_)
      refine qP_bind (fr_X10_putInto Fg_refl) (fun r4 k4 => ?_)
      have h4 := Fg_tr h1 (Fg_mono k4 rfl)
      exact qP_some h4
    · refine qP_ite ?_ ?_
      · refine qP_bind (fr_X10_putInto Fg_refl) (fun r5 k5 => ?_)
        have h5 := Fg_tr h1 (Fg_mono k5 rfl)
        exact qP_some h5
      · exact qP_none
  · exact qP_none
theorem fr_X10_moveOne_L9_b {N : Nat} {i1 i2 i3 i4 : Int} {M M0 : qm} (h : Fg 360287970189639680 M0 M) : qP (qf_X10_moveOne_L9_b N i1 i2 i3 i4 M) (pU (pU (fun r => Fg 360287970189639680 M0 r.2) (fun r => Fg 360287970189639680 M0 r.2)) (fun r => Fg 360287970189639680 M0 r.2.2.2.2)) := by
  unfold qf_X10_moveOne_L9_b
  refine qP_ite ?_ ?_
  · exact qP_some h
  · refine qP_pure (fun r1 => ?_)
    refine qP_ite ?_ ?_
    · exact qP_some h
    · refine qP_bind (fr_X10_goesThrough Fg_refl) (fun r2 k2 => ?_)
      have h2 := Fg_tr h (Fg_mono k2 rfl)
      refine qP_ite ?_ ?_
      · exact qP_some h2
      · refine qP_pure (fun r3 => ?_)
        refine qP_bind (fr_X10_step Fg_refl) (fun r4 k4 => ?_)
        have h4 := Fg_tr h2 (Fg_mono k4 rfl)
        exact qP_some h4
theorem fr_X10_moveOne_L9 (n : Nat) {N : Nat} {i1 i2 i3 i4 : Int} {M M0 : qm} (h : Fg 360287970189639680 M0 M) : qP (qf_X10_moveOne_L9 N n i1 i2 i3 i4 M) (pU (fun r => Fg 360287970189639680 M0 r.2) (fun r => Fg 360287970189639680 M0 r.2)) := by
  unfold qf_X10_moveOne_L9
  exact qP_loop (I := fun s => Fg 360287970189639680 M0 s.2.2.2.2) (fun s hs => fr_X10_moveOne_L9_b hs) n _ h
theorem fr_X10_moveOne {N : Nat} {i1 i2 : Int} {M M0 : qm} (h : Fg 360287970189639680 M0 M) : qP (qf_X10_moveOne N i1 i2 M) (fun r => Fg 360287970189639680 M0 r.2) := by
  unfold qf_X10_moveOne
  refine qP_pure (fun r1 => ?_)
  refine qP_bind (fr_X10_moveOne_L9 _ h) (fun r2 k2 => ?_)
  rcases r2 with x2 | x2
  · exact qP_some k2
  · obtain ⟨y2_0, y2_1⟩ := x2
    have h2 : Fg _ _ y2_1 := k2
    exact qP_some h2
theorem fr_X10_movePersons_L37_b {N : Nat} {i1 i2 i3 : Int} {M M0 : qm} (h : Fg 504403158265495552 M0 M) : qP (qf_X10_movePersons_L37_b N i1 i2 i3 M) (pU (pU (fun r => Fg 504403158265495552 M0 r.2) (fun r => Fg 504403158265495552 M0 r.2)) (fun r => Fg 504403158265495552 M0 r.2.2.2)) := by
  unfold qf_X10_movePersons_L37_b
  refine qP_ite ?_ ?_
  · exact qP_some h
  · refine qP_ite ?_ ?_
    · refine qP_bind (fr_X10_moveOne Fg_refl) (fun r1 k1 => ?_)
      have h1 := Fg_tr h (Fg_mono k1 rfl)
      exact qP_some h1
    · exact qP_none
theorem fr_X10_movePersons_L37 (n : Nat) {N : Nat} {i1 i2 i3 : Int} {M M0 : qm} (h : Fg 504403158265495552 M0 M) : qP (qf_X10_movePersons_L37 N n i1 i2 i3 M) (pU (fun r => Fg 504403158265495552 M0 r.2) (fun r => Fg 504403158265495552 M0 r.2)) := by
  unfold qf_X10_movePersons_L37
  exact qP_loop (I := fun s => Fg 504403158265495552 M0 s.2.2.2) (fun s hs => fr_X10_movePersons_L37_b hs) n _ h
theorem fr_X10_movePersons {N : Nat} {i1 : Int} {M M0 : qm} (h : Fg 504403158265495552 M0 M) : qP (qf_X10_movePersons N i1 M) (fun r => Fg 504403158265495552 M0 r.2) := by
  unfold qf_X10_movePersons
  refine qP_bind (fr_X10_movePersons_L2 _ h) (fun r1 k1 => ?_)
  rcases r1 with x1 | x1
  · exact qP_some k1
  · obtain ⟨y1_0, y1_1⟩ := x1
    have h1 : Fg _ _ y1_1 := k1
    refine qP_bind (fr_X10_lineUp Fg_refl) (fun r2 k2 => ?_)
    have h2 := Fg_tr h1 (Fg_mono k2 rfl)
    refine qP_bind (fr_X10_movePersons_L37 _ h2) (fun r3 k3 => ?_)
    rcases r3 with x3 | x3
    · exact qP_some k3
    · obtain ⟨y3_0, y3_1⟩ := x3
      have h3 : Fg _ _ y3_1 := k3
      exact qP_some h3
theorem fr_X11_passSecond_J72 {N : Nat} {M M0 : qm} (h : Fg 22128727145120783221488305490411252646674434 M0 M) : qP (qf_X11_passSecond_J72 N M) (fun r => Fg 22128727145120783221488305490411252646674434 M0 r.2) := by
  unfold qf_X11_passSecond_J72
  refine qP_bind (fr_X11_passSecond_L74 _ h) (fun r1 k1 => ?_)
  rcases r1 with x1 | x1
  · exact qP_some k1
  · obtain ⟨y1_0, y1_1⟩ := x1
    have h1 : Fg _ _ y1_1 := k1
    refine qP_bind (fr_X4_runActs Fg_refl) (fun r2 k2 => ?_)
    have h2 := Fg_tr h1 (Fg_mono k2 rfl)
    refine qP_pure (fun r3 => ?_)
    refine qP_bnd (m0 := _) (Fg_wa (k := 104) h2 rfl rfl) (fun M4 h4 => ?_)
    refine qP_pure (fun r5 => ?_)
    refine qP_bnd (m0 := _) (Fg_wa (k := 104) h4 rfl rfl) (fun M6 h6 => ?_)
    refine qP_bnd (m0 := _) (Fg_wa (k := 104) h6 rfl rfl) (fun M7 h7 => ?_)
    refine qP_bnd (m0 := _) (Fg_wa (k := 104) h7 rfl rfl) (fun M8 h8 => ?_)
    refine qP_bind (fr_X9_reckonBlocks Fg_refl) (fun r9 k9 => ?_)
    have h9 := Fg_tr h8 (Fg_mono k9 rfl)
    refine qP_bind (fr_X11_passSecond_L211 _ h9) (fun r10 k10 => ?_)
    rcases r10 with x10 | x10
    · exact qP_some k10
    · obtain ⟨y10_0, y10_1⟩ := x10
      have h10 : Fg _ _ y10_1 := k10
      refine qP_bind (fr_X10_catchPersons Fg_refl) (fun r11 k11 => ?_)
      have h11 := Fg_tr h10 (Fg_mono k11 rfl)
      refine qP_pure (fun r12 => ?_)
      refine qP_ite ?_ ?_
      · exact qP_some h11
      · refine qP_bind (fr_X10_movePersons Fg_refl) (fun r13 k13 => ?_)
        have h13 := Fg_tr h11 (Fg_mono k13 rfl)
        exact qP_some h13
theorem fr_X11_passSecond {N : Nat} {M M0 : qm} (h : Fg 22128727145120783221488305490411252646674434 M0 M) : qP (qf_X11_passSecond N M) (fun r => Fg 22128727145120783221488305490411252646674434 M0 r.2) := by
  unfold qf_X11_passSecond
  refine qP_bnd (m0 := _) (Fg_w h rfl) (fun M1 h1 => ?_)
  refine qP_bind (fr_X10_spreadSmoke Fg_refl) (fun r2 k2 => ?_)
  have h2 := Fg_tr h1 (Fg_mono k2 rfl)
  refine qP_bind (fr_X11_passSecond_L23 _ h2) (fun r3 k3 => ?_)
  rcases r3 with x3 | x3
  · exact qP_some k3
  · obtain ⟨y3_0, y3_1⟩ := x3
    have h3 : Fg _ _ y3_1 := k3
    exact (fr_X11_passSecond_J72 h3)
theorem fr_X11_pass_L39_b {N : Nat} {i1 i2 : Int} {M M0 : qm} (h : Fg 22128727145120783221488305490411252646674434 M0 M) : qP (qf_X11_pass_L39_b N i1 i2 M) (pU (pU (fun r => Fg 22128727145120783221488305490411252646674434 M0 r.2) (fun r => Fg 22128727145120783221488305490411252646674434 M0 r.2)) (fun r => Fg 22128727145120783221488305490411252646674434 M0 r.2.2)) := by
  unfold qf_X11_pass_L39_b
  refine qP_ite ?_ ?_
  · exact qP_some h
  · refine qP_bind (fr_X11_passSecond Fg_refl) (fun r1 k1 => ?_)
    have h1 := Fg_tr h (Fg_mono k1 rfl)
    exact qP_some h1
theorem fr_X11_pass_L39 (n : Nat) {N : Nat} {i1 i2 : Int} {M M0 : qm} (h : Fg 22128727145120783221488305490411252646674434 M0 M) : qP (qf_X11_pass_L39 N n i1 i2 M) (pU (fun r => Fg 22128727145120783221488305490411252646674434 M0 r.2) (fun r => Fg 22128727145120783221488305490411252646674434 M0 r.2)) := by
  unfold qf_X11_pass_L39
  exact qP_loop (I := fun s => Fg 22128727145120783221488305490411252646674434 M0 s.2.2) (fun s hs => fr_X11_pass_L39_b hs) n _ h
theorem fr_X11_pass_J34 {N : Nat} {i1 t0 : Int} {M M0 : qm} (h : Fg 22128727145120783221488305490411252646674434 M0 M) : qP (qf_X11_pass_J34 N i1 t0 M) (fun r => Fg 22128727145120783221488305490411252646674434 M0 r.2) := by
  unfold qf_X11_pass_J34
  refine qP_pure (fun r1 => ?_)
  rcases r1 with x2 | x2
  · refine qP_bind (fr_X11_pass_L39 _ h) (fun r3 k3 => ?_)
    rcases r3 with x3 | x3
    · exact qP_some k3
    · obtain ⟨y3_0, y3_1⟩ := x3
      have h3 : Fg _ _ y3_1 := k3
      exact qP_some h3
  · exact qP_some h
theorem fr_X11_pass_J33 {N : Nat} {i1 : Int} {M M0 : qm} (h : Fg 22128727145120783221488305490411252646674434 M0 M) : qP (qf_X11_pass_J33 N i1 M) (fun r => Fg 22128727145120783221488305490411252646674434 M0 r.2) := by
  unfold qf_X11_pass_J33
  exact (fr_X11_pass_J34 h)
theorem fr_X11_pass {N : Nat} {i1 : Int} {M M0 : qm} (h : Fg 22128727145120783221488305490411252646674434 M0 M) : qP (qf_X11_pass N i1 M) (fun r => Fg 22128727145120783221488305490411252646674434 M0 r.2) := by
  unfold qf_X11_pass
  refine qP_pure (fun r1 => ?_)
  refine qP_pure (fun r2 => ?_)
  rcases r2 with x3 | x3
  · refine qP_ite ?_ ?_
    · exact (fr_X11_pass_J33 h)
    · refine qP_ite ?_ ?_
      · exact (fr_X11_pass_J33 h)
      · exact (fr_X11_pass_J34 h)
  · exact qP_some h
theorem fr_L_pass {N : Nat} {i1 : Int} {M M0 : qm} (h : Fg 165263992197562149737978827008192759957101170741070304821162198818601447809077858585024447730712042700203293417508486250498 M0 M) : qP (qf_L_pass N i1 M) (fun r => Fg 165263992197562149737978827008192759957101170741070304821162198818601447809077858585024447730712042700203293417508486250498 M0 r.2) := by
  unfold qf_L_pass
  refine qP_bind (fr_X11_pass Fg_refl) (fun r1 k1 => ?_)
  have h1 := Fg_tr h (Fg_mono k1 rfl)
  obtain ⟨x1, m1⟩ := r1
  rcases x1 with x1 | x1
  · have h1 : Fg _ _ m1 := h1
    refine qP_bnd (m0 := _) (Fg_wa (k := 406) h1 rfl rfl) (fun M2 h2 => ?_)
    exact qP_some h2
  · have h1 : Fg _ _ m1 := h1
    refine qP_ite ?_ ?_
    · exact qP_some h1
    · refine qP_ite ?_ ?_
      · exact qP_some h1
      · exact qP_none
theorem fr_X18_spread_J105 {N : Nat} {i1 i2 t1 : Int} {M M0 : qm} (h : Fg 7746749634260725768967757516009035622989117378487670538491978069621942866050523583888936059840413494307709515918242480128 M0 M) : qP (qf_X18_spread_J105 N i1 i2 t1 M) (pU (pU (fun r => Fg 7746749634260725768967757516009035622989117378487670538491978069621942866050523583888936059840413494307709515918242480128 M0 r.2) (fun r => Fg 7746749634260725768967757516009035622989117378487670538491978069621942866050523583888936059840413494307709515918242480128 M0 r.2)) (fun r => Fg 7746749634260725768967757516009035622989117378487670538491978069621942866050523583888936059840413494307709515918242480128 M0 r.2.2)) := by
  unfold qf_X18_spread_J105
  refine qP_ite ?_ ?_
  · refine qP_bnd (m0 := _) (Fg_wa (k := 401) h rfl rfl) (fun M1 h1 => ?_)
    exact qP_some h1
  · exact qP_none
theorem fr_X18_spread_J101 {N : Nat} {i1 i2 t1 : Int} {M M0 : qm} (h : Fg 7746749634260725768967757516009035622989117378487670538491978069621942866050523583888936059840413494307709515918242480128 M0 M) : qP (qf_X18_spread_J101 N i1 i2 t1 M) (pU (pU (fun r => Fg 7746749634260725768967757516009035622989117378487670538491978069621942866050523583888936059840413494307709515918242480128 M0 r.2) (fun r => Fg 7746749634260725768967757516009035622989117378487670538491978069621942866050523583888936059840413494307709515918242480128 M0 r.2)) (fun r => Fg 7746749634260725768967757516009035622989117378487670538491978069621942866050523583888936059840413494307709515918242480128 M0 r.2.2)) := by
  unfold qf_X18_spread_J101
  refine qP_ite ?_ ?_
  · refine qP_bnd (m0 := _) (Fg_wa (k := 401) h rfl rfl) (fun M1 h1 => ?_)
    exact qP_some h1
  · exact qP_none
theorem fr_X18_spread_L23_b {N : Nat} {i1 i2 : Int} {M M0 : qm} (h : Fg 7746749634260725768967757516009035622989117378487670538491978069621942866050523583888936059840413494307709515918242480128 M0 M) : qP (qf_X18_spread_L23_b N i1 i2 M) (pU (pU (fun r => Fg 7746749634260725768967757516009035622989117378487670538491978069621942866050523583888936059840413494307709515918242480128 M0 r.2) (fun r => Fg 7746749634260725768967757516009035622989117378487670538491978069621942866050523583888936059840413494307709515918242480128 M0 r.2)) (fun r => Fg 7746749634260725768967757516009035622989117378487670538491978069621942866050523583888936059840413494307709515918242480128 M0 r.2.2)) := by
  unfold qf_X18_spread_L23_b
  refine qP_ite ?_ ?_
  · exact qP_some h
  · refine qP_pure (fun r1 => ?_)
    refine qP_pure (fun r2 => ?_)
    refine qP_ite ?_ ?_
    · refine qP_ite ?_ ?_
      · refine qP_pure (fun r3 => ?_)
        refine qP_ite ?_ ?_
        · exact (fr_X18_spread_J105 h)
        · refine qP_ite ?_ ?_
          · refine qP_ite ?_ ?_
            · exact (fr_X18_spread_J105 h)
            · refine qP_pure (fun r4 => ?_)
              refine qP_ite ?_ ?_
              · exact (fr_X18_spread_J105 h)
              · exact (fr_X18_spread_J101 h)
          · exact qP_none
      · exact (fr_X18_spread_J101 h)
    · exact qP_none
theorem fr_X18_spread_L23 (n : Nat) {N : Nat} {i1 i2 : Int} {M M0 : qm} (h : Fg 7746749634260725768967757516009035622989117378487670538491978069621942866050523583888936059840413494307709515918242480128 M0 M) : qP (qf_X18_spread_L23 N n i1 i2 M) (pU (fun r => Fg 7746749634260725768967757516009035622989117378487670538491978069621942866050523583888936059840413494307709515918242480128 M0 r.2) (fun r => Fg 7746749634260725768967757516009035622989117378487670538491978069621942866050523583888936059840413494307709515918242480128 M0 r.2)) := by
  unfold qf_X18_spread_L23
  exact qP_loop (I := fun s => Fg 7746749634260725768967757516009035622989117378487670538491978069621942866050523583888936059840413494307709515918242480128 M0 s.2.2) (fun s hs => fr_X18_spread_L23_b hs) n _ h
theorem fr_X18_spread_L2_b {N : Nat} {i1 : Int} {M M0 : qm} (h : Fg 7746749634260725768967757516009035622989117378487670538491978069621942866050523583888936059840413494307709515918242480128 M0 M) : qP (qf_X18_spread_L2_b N i1 M) (pU (pU (fun r => Fg 7746749634260725768967757516009035622989117378487670538491978069621942866050523583888936059840413494307709515918242480128 M0 r.2) (fun r => Fg 7746749634260725768967757516009035622989117378487670538491978069621942866050523583888936059840413494307709515918242480128 M0 r.2)) (fun r => Fg 7746749634260725768967757516009035622989117378487670538491978069621942866050523583888936059840413494307709515918242480128 M0 r.2)) := by
  unfold qf_X18_spread_L2_b
  refine qP_ite ?_ ?_
  · exact qP_some h
  · refine qP_ite ?_ ?_
    · refine qP_ite ?_ ?_
      · refine qP_bnd (m0 := _) (Fg_wa (k := 401) h rfl rfl) (fun M1 h1 => ?_)
        refine qP_bind (fr_X18_spread_L23 _ h1) (fun r2 k2 => ?_)
        rcases r2 with x2 | x2
        · exact qP_some k2
        · obtain ⟨y2_0, y2_1⟩ := x2
          have h2 : Fg _ _ y2_1 := k2
          exact qP_some h2
      · exact qP_none
    · exact qP_none
theorem fr_X18_spread_L2 (n : Nat) {N : Nat} {i1 : Int} {M M0 : qm} (h : Fg 7746749634260725768967757516009035622989117378487670538491978069621942866050523583888936059840413494307709515918242480128 M0 M) : qP (qf_X18_spread_L2 N n i1 M) (pU (fun r => Fg 7746749634260725768967757516009035622989117378487670538491978069621942866050523583888936059840413494307709515918242480128 M0 r.2) (fun r => Fg 7746749634260725768967757516009035622989117378487670538491978069621942866050523583888936059840413494307709515918242480128 M0 r.2)) := by
  unfold qf_X18_spread_L2
  exact qP_loop (I := fun s => Fg 7746749634260725768967757516009035622989117378487670538491978069621942866050523583888936059840413494307709515918242480128 M0 s.2) (fun s hs => fr_X18_spread_L2_b hs) n _ h
theorem fr_X18_spread_L121_b {N : Nat} {i1 : Int} {M M0 : qm} (h : Fg 7746749634260725768967757516009035622989117378487670538491978069621942866050523583888936059840413494307709515918242480128 M0 M) : qP (qf_X18_spread_L121_b N i1 M) (pU (pU (fun r => Fg 7746749634260725768967757516009035622989117378487670538491978069621942866050523583888936059840413494307709515918242480128 M0 r.2) (fun r => Fg 7746749634260725768967757516009035622989117378487670538491978069621942866050523583888936059840413494307709515918242480128 M0 r.2)) (fun r => Fg 7746749634260725768967757516009035622989117378487670538491978069621942866050523583888936059840413494307709515918242480128 M0 r.2)) := by
  unfold qf_X18_spread_L121_b
  refine qP_ite ?_ ?_
  · exact qP_some h
  · refine qP_ite ?_ ?_
    · refine qP_ite ?_ ?_
      · refine qP_bnd (m0 := _) (Fg_wa (k := 400) h rfl rfl) (fun M1 h1 => ?_)
        exact qP_some h1
      · exact qP_none
    · exact qP_none
theorem fr_X18_spread_L121 (n : Nat) {N : Nat} {i1 : Int} {M M0 : qm} (h : Fg 7746749634260725768967757516009035622989117378487670538491978069621942866050523583888936059840413494307709515918242480128 M0 M) : qP (qf_X18_spread_L121 N n i1 M) (pU (fun r => Fg 7746749634260725768967757516009035622989117378487670538491978069621942866050523583888936059840413494307709515918242480128 M0 r.2) (fun r => Fg 7746749634260725768967757516009035622989117378487670538491978069621942866050523583888936059840413494307709515918242480128 M0 r.2)) := by
  unfold qf_X18_spread_L121
  exact qP_loop (I := fun s => Fg 7746749634260725768967757516009035622989117378487670538491978069621942866050523583888936059840413494307709515918242480128 M0 s.2) (fun s hs => fr_X18_spread_L121_b hs) n _ h
theorem fr_X18_spread {N : Nat} {M M0 : qm} (h : Fg 7746749634260725768967757516009035622989117378487670538491978069621942866050523583888936059840413494307709515918242480128 M0 M) : qP (qf_X18_spread N M) (fun r => Fg 7746749634260725768967757516009035622989117378487670538491978069621942866050523583888936059840413494307709515918242480128 M0 r.2) := by
  unfold qf_X18_spread
  refine qP_bind (fr_X18_spread_L2 _ h) (fun r1 k1 => ?_)
  rcases r1 with x1 | x1
  · exact qP_some k1
  · obtain ⟨y1_0, y1_1⟩ := x1
    have h1 : Fg _ _ y1_1 := k1
    refine qP_bind (fr_X18_spread_L121 _ h1) (fun r2 k2 => ?_)
    rcases r2 with x2 | x2
    · exact qP_some k2
    · obtain ⟨y2_0, y2_1⟩ := x2
      have h2 : Fg _ _ y2_1 := k2
      exact qP_some h2
theorem fr_X18_detect_L2_b {N : Nat} {i1 : Int} {M M0 : qm} (h : Fg 59285549689505892056868344324448208820874232148807968788202283012051522375647232 M0 M) : qP (qf_X18_detect_L2_b N i1 M) (pU (pU (fun r => Fg 59285549689505892056868344324448208820874232148807968788202283012051522375647232 M0 r.2) (fun r => Fg 59285549689505892056868344324448208820874232148807968788202283012051522375647232 M0 r.2)) (fun r => Fg 59285549689505892056868344324448208820874232148807968788202283012051522375647232 M0 r.2)) := by
  unfold qf_X18_detect_L2_b
  refine qP_ite ?_ ?_
  · exact qP_some h
  · refine qP_pure (fun r1 => ?_)
    refine qP_ite ?_ ?_
    · refine qP_ite ?_ ?_
      · refine qP_bnd (m0 := _) (Fg_wa (k := 265) h rfl rfl) (fun M2 h2 => ?_)
        exact qP_some h2
      · exact qP_none
    · refine qP_ite ?_ ?_
      · refine qP_bnd (m0 := _) (Fg_wa (k := 265) h rfl rfl) (fun M3 h3 => ?_)
        exact qP_some h3
      · exact qP_none
theorem fr_X18_detect_L2 (n : Nat) {N : Nat} {i1 : Int} {M M0 : qm} (h : Fg 59285549689505892056868344324448208820874232148807968788202283012051522375647232 M0 M) : qP (qf_X18_detect_L2 N n i1 M) (pU (fun r => Fg 59285549689505892056868344324448208820874232148807968788202283012051522375647232 M0 r.2) (fun r => Fg 59285549689505892056868344324448208820874232148807968788202283012051522375647232 M0 r.2)) := by
  unfold qf_X18_detect_L2
  exact qP_loop (I := fun s => Fg 59285549689505892056868344324448208820874232148807968788202283012051522375647232 M0 s.2) (fun s hs => fr_X18_detect_L2_b hs) n _ h
theorem fr_X18_detect_L48_b {N : Nat} {i1 : Int} {M M0 : qm} (h : Fg 59285549689505892056868344324448208820874232148807968788202283012051522375647232 M0 M) : qP (qf_X18_detect_L48_b N i1 M) (pU (pU (fun r => Fg 59285549689505892056868344324448208820874232148807968788202283012051522375647232 M0 r.2) (fun r => Fg 59285549689505892056868344324448208820874232148807968788202283012051522375647232 M0 r.2)) (fun r => Fg 59285549689505892056868344324448208820874232148807968788202283012051522375647232 M0 r.2)) := by
  unfold qf_X18_detect_L48_b
  refine qP_ite ?_ ?_
  · exact qP_some h
  · refine qP_ite ?_ ?_
    · refine qP_ite ?_ ?_
      · exact qP_some h
      · refine qP_ite ?_ ?_
        · refine qP_ite ?_ ?_
          · refine qP_ite ?_ ?_
            · refine qP_ite ?_ ?_
              · refine qP_ite ?_ ?_
                · refine qP_bnd (m0 := _) (Fg_wa (k := 265) h rfl rfl) (fun M1 h1 => ?_)
                  exact qP_some h1
                · exact qP_none
              · refine qP_ite ?_ ?_
                · refine qP_bnd (m0 := _) (Fg_wa (k := 265) h rfl rfl) (fun M2 h2 => ?_)
                  exact qP_some h2
                · exact qP_none
            · refine qP_ite ?_ ?_
              · refine qP_bnd (m0 := _) (Fg_wa (k := 265) h rfl rfl) (fun M3 h3 => ?_)
                exact qP_some h3
              · exact qP_none
          · exact qP_none
        · exact qP_none
    · exact qP_none
theorem fr_X18_detect_L48 (n : Nat) {N : Nat} {i1 : Int} {M M0 : qm} (h : Fg 59285549689505892056868344324448208820874232148807968788202283012051522375647232 M0 M) : qP (qf_X18_detect_L48 N n i1 M) (pU (fun r => Fg 59285549689505892056868344324448208820874232148807968788202283012051522375647232 M0 r.2) (fun r => Fg 59285549689505892056868344324448208820874232148807968788202283012051522375647232 M0 r.2)) := by
  unfold qf_X18_detect_L48
  exact qP_loop (I := fun s => Fg 59285549689505892056868344324448208820874232148807968788202283012051522375647232 M0 s.2) (fun s hs => fr_X18_detect_L48_b hs) n _ h
theorem fr_X18_detect {N : Nat} {M M0 : qm} (h : Fg 59285549689505892056868344324448208820874232148807968788202283012051522375647232 M0 M) : qP (qf_X18_detect N M) (fun r => Fg 59285549689505892056868344324448208820874232148807968788202283012051522375647232 M0 r.2) := by
  unfold qf_X18_detect
  refine qP_bind (fr_X18_detect_L2 _ h) (fun r1 k1 => ?_)
  rcases r1 with x1 | x1
  · exact qP_some k1
  · obtain ⟨y1_0, y1_1⟩ := x1
    have h1 : Fg _ _ y1_1 := k1
    refine qP_bind (fr_X18_detect_L48 _ h1) (fun r2 k2 => ?_)
    rcases r2 with x2 | x2
    · exact qP_some k2
    · obtain ⟨y2_0, y2_1⟩ := x2
      have h2 : Fg _ _ y2_1 := k2
      exact qP_some h2
theorem fr_X14_go_J63 {N : Nat} {i2 : Int} {M M0 : qm} (h : Fg 1973751609322728158430646311549781290260737553695531790793833605345297506781372428058624 M0 M) : qP (qf_X14_go_J63 N i2 M) (fun r => Fg 1973751609322728158430646311549781290260737553695531790793833605345297506781372428058624 M0 r.2) := by
  unfold qf_X14_go_J63
  refine qP_ite ?_ ?_
  · exact qP_some h
  · exact qP_some h
theorem fr_X14_go_J58 {N : Nat} {i1 i2 : Int} {M M0 : qm} (h : Fg 1973751609322728158430646311549781290260737553695531790793833605345297506781372428058624 M0 M) : qP (qf_X14_go_J58 N i1 i2 M) (fun r => Fg 1973751609322728158430646311549781290260737553695531790793833605345297506781372428058624 M0 r.2) := by
  unfold qf_X14_go_J58
  refine qP_bind (fr_X14_rests Fg_refl) (fun r1 k1 => ?_)
  have h1 := Fg_tr h (Fg_mono k1 rfl)
  exact (fr_X14_go_J63 h1)
theorem fr_X14_go_J44 {N : Nat} {i1 i2 : Int} {M M0 : qm} (h : Fg 1973751609322728158430646311549781290260737553695531790793833605345297506781372428058624 M0 M) : qP (qf_X14_go_J44 N i1 i2 M) (fun r => Fg 1973751609322728158430646311549781290260737553695531790793833605345297506781372428058624 M0 r.2) := by
  unfold qf_X14_go_J44
  refine qP_ite ?_ ?_
  · refine qP_ite ?_ ?_
    · refine qP_ite ?_ ?_
      · exact (fr_X14_go_J58 h)
      · exact (fr_X14_go_J63 h)
    · exact qP_none
  · exact (fr_X14_go_J58 h)
theorem fr_X14_go_J33 {N : Nat} {i1 t0 : Int} {M M0 : qm} (h : Fg 1973751609322728158430646311549781290260737553695531790793833605345297506781372428058624 M0 M) : qP (qf_X14_go_J33 N i1 t0 M) (fun r => Fg 1973751609322728158430646311549781290260737553695531790793833605345297506781372428058624 M0 r.2) := by
  unfold qf_X14_go_J33
  refine qP_ite ?_ ?_
  · exact (fr_X14_go_J44 h)
  · refine qP_bind (fr_X14_tell Fg_refl) (fun r1 k1 => ?_)
    have h1 := Fg_tr h (Fg_mono k1 rfl)
    exact (fr_X14_go_J44 h1)
theorem fr_X14_go_J32 {N : Nat} {i1 : Int} {M M0 : qm} (h : Fg 1973751609322728158430646311549781290260737553695531790793833605345297506781372428058624 M0 M) : qP (qf_X14_go_J32 N i1 M) (fun r => Fg 1973751609322728158430646311549781290260737553695531790793833605345297506781372428058624 M0 r.2) := by
  unfold qf_X14_go_J32
  exact (fr_X14_go_J33 h)
theorem fr_X14_go_J151 {N : Nat} {i1 : Int} {M M0 : qm} (h : Fg 1973751609322728158430646311549781290260737553695531790793833605345297506781372428058624 M0 M) : qP (qf_X14_go_J151 N i1 M) (fun r => Fg 1973751609322728158430646311549781290260737553695531790793833605345297506781372428058624 M0 r.2) := by
  unfold qf_X14_go_J151
  refine qP_bind (fr_X14_rests Fg_refl) (fun r1 k1 => ?_)
  have h1 := Fg_tr h (Fg_mono k1 rfl)
  refine qP_ite ?_ ?_
  · refine qP_bnd (m0 := _) (Fg_wa (k := 283) h1 rfl rfl) (fun M2 h2 => ?_)
    refine qP_bind (fr_X14_tell Fg_refl) (fun r3 k3 => ?_)
    have h3 := Fg_tr h2 (Fg_mono k3 rfl)
    exact qP_some h3
  · exact qP_none
theorem fr_X14_go_J111 {N : Nat} {i1 : Int} {M M0 : qm} (h : Fg 1973751609322728158430646311549781290260737553695531790793833605345297506781372428058624 M0 M) : qP (qf_X14_go_J111 N i1 M) (fun r => Fg 1973751609322728158430646311549781290260737553695531790793833605345297506781372428058624 M0 r.2) := by
  unfold qf_X14_go_J111
  refine qP_ite ?_ ?_
  · refine qP_ite ?_ ?_
    · refine qP_ite ?_ ?_
      · exact (fr_X14_go_J151 h)
      · refine qP_ite ?_ ?_
        · refine qP_ite ?_ ?_
          · refine qP_pure (fun r1 => ?_)
            refine qP_ite ?_ ?_
            · exact qP_some h
            · exact (fr_X14_go_J151 h)
          · exact (fr_X14_go_J151 h)
        · exact qP_none
    · exact qP_none
  · exact qP_none
theorem fr_X14_go {N : Nat} {i1 : Int} {M M0 : qm} (h : Fg 1973751609322728158430646311549781290260737553695531790793833605345297506781372428058624 M0 M) : qP (qf_X14_go N i1 M) (fun r => Fg 1973751609322728158430646311549781290260737553695531790793833605345297506781372428058624 M0 r.2) := by
  unfold qf_X14_go
  refine qP_pure (fun r1 => ?_)
  refine qP_ite ?_ ?_
  · refine qP_ite ?_ ?_
    · refine qP_ite ?_ ?_
      · refine qP_ite ?_ ?_
        · refine qP_ite ?_ ?_
          · exact (fr_X14_go_J33 h)
          · exact (fr_X14_go_J32 h)
        · exact qP_none
      · exact (fr_X14_go_J32 h)
    · exact qP_none
  · refine qP_ite ?_ ?_
    · refine qP_ite ?_ ?_
      · exact qP_some h
      · refine qP_ite ?_ ?_
        · refine qP_ite ?_ ?_
          · refine qP_ite ?_ ?_
            · refine qP_bnd (m0 := _) (Fg_wa (k := 283) h rfl rfl) (fun M2 h2 => ?_)
              refine qP_ite ?_ ?_
              · refine qP_bnd (m0 := _) (Fg_wa (k := 284) h2 rfl rfl) (fun M3 h3 => ?_)
                exact (fr_X14_go_J111 h3)
              · exact qP_none
            · exact qP_none
          · exact (fr_X14_go_J111 h)
        · exact qP_none
    · exact qP_none
theorem fr_X18_second_J84 {N : Nat} {i2 : Int} {M M0 : qm} (h : Fg 131694898927831736381312881657692929566851318366731015927044283881285592837645214222536593055079764553052742978619786133504 M0 M) : qP (qf_X18_second_J84 N i2 M) (pU (pU (fun r => Fg 131694898927831736381312881657692929566851318366731015927044283881285592837645214222536593055079764553052742978619786133504 M0 r.2) (fun r => Fg 131694898927831736381312881657692929566851318366731015927044283881285592837645214222536593055079764553052742978619786133504 M0 r.2)) (fun r => Fg 131694898927831736381312881657692929566851318366731015927044283881285592837645214222536593055079764553052742978619786133504 M0 r.2.2)) := by
  unfold qf_X18_second_J84
  refine qP_pure (fun r1 => ?_)
  exact qP_some h
theorem fr_X18_second_L61_b {N : Nat} {i1 i2 : Int} {M M0 : qm} (h : Fg 131694898927831736381312881657692929566851318366731015927044283881285592837645214222536593055079764553052742978619786133504 M0 M) : qP (qf_X18_second_L61_b N i1 i2 M) (pU (pU (fun r => Fg 131694898927831736381312881657692929566851318366731015927044283881285592837645214222536593055079764553052742978619786133504 M0 r.2) (fun r => Fg 131694898927831736381312881657692929566851318366731015927044283881285592837645214222536593055079764553052742978619786133504 M0 r.2)) (fun r => Fg 131694898927831736381312881657692929566851318366731015927044283881285592837645214222536593055079764553052742978619786133504 M0 r.2.2)) := by
  unfold qf_X18_second_L61_b
  refine qP_ite ?_ ?_
  · exact qP_some h
  · refine qP_bind (fr_X14_go Fg_refl) (fun r1 k1 => ?_)
    have h1 := Fg_tr h (Fg_mono k1 rfl)
    refine qP_ite ?_ ?_
    · exact (fr_X18_second_J84 h1)
    · refine qP_bind (fr_X18_does Fg_refl) (fun r2 k2 => ?_)
      have h2 := Fg_tr h1 (Fg_mono k2 rfl)
      exact (fr_X18_second_J84 h2)
theorem fr_X18_second_L61 (n : Nat) {N : Nat} {i1 i2 : Int} {M M0 : qm} (h : Fg 131694898927831736381312881657692929566851318366731015927044283881285592837645214222536593055079764553052742978619786133504 M0 M) : qP (qf_X18_second_L61 N n i1 i2 M) (pU (fun r => Fg 131694898927831736381312881657692929566851318366731015927044283881285592837645214222536593055079764553052742978619786133504 M0 r.2) (fun r => Fg 131694898927831736381312881657692929566851318366731015927044283881285592837645214222536593055079764553052742978619786133504 M0 r.2)) := by
  unfold qf_X18_second_L61
  exact qP_loop (I := fun s => Fg 131694898927831736381312881657692929566851318366731015927044283881285592837645214222536593055079764553052742978619786133504 M0 s.2.2) (fun s hs => fr_X18_second_L61_b hs) n _ h
theorem fr_X17_kept_J56 {N : Nat} {i1 : Int} {M M0 : qm} (h : Fg 12222215858006916517610674130456268966308810361995617503816842696126287798580020237100384256 M0 M) : qP (qf_X17_kept_J56 N i1 M) (fun r => Fg 12222215858006916517610674130456268966308810361995617503816842696126287798580020237100384256 M0 r.2) := by
  unfold qf_X17_kept_J56
  refine qP_ite ?_ ?_
  · exact qP_some h
  · exact qP_none
theorem fr_X17_kept_J63 {N : Nat} {i1 i2 : Int} {M M0 : qm} (h : Fg 12222215858006916517610674130456268966308810361995617503816842696126287798580020237100384256 M0 M) : qP (qf_X17_kept_J63 N i1 i2 M) (fun r => Fg 12222215858006916517610674130456268966308810361995617503816842696126287798580020237100384256 M0 r.2) := by
  unfold qf_X17_kept_J63
  refine qP_pure (fun r1 => ?_)
  exact qP_some h
theorem fr_X17_count_J37 {N : Nat} {i1 i2 : Int} {M M0 : qm} (h : Fg 12222215858006916517610674130456268966308810361995617503816842696126287798580020237100384256 M0 M) : qP (qf_X17_count_J37 N i1 i2 M) (fun r => Fg 12222215858006916517610674130456268966308810361995617503816842696126287798580020237100384256 M0 r.2) := by
  unfold qf_X17_count_J37
  refine qP_ite ?_ ?_
  · refine qP_bnd (m0 := _) (Fg_wa (k := 302) h rfl rfl) (fun M1 h1 => ?_)
    refine qP_ite ?_ ?_
    · exact qP_some h1
    · exact qP_none
  · exact qP_none
theorem fr_X17_count {N : Nat} {i1 i2 i3 : Int} {M M0 : qm} (h : Fg 12222215858006916517610674130456268966308810361995617503816842696126287798580020237100384256 M0 M) : qP (qf_X17_count N i1 i2 i3 M) (fun r => Fg 12222215858006916517610674130456268966308810361995617503816842696126287798580020237100384256 M0 r.2) := by
  unfold qf_X17_count
  refine qP_ite ?_ ?_
  · refine qP_ite ?_ ?_
    · exact (fr_X17_count_J37 h)
    · refine qP_ite ?_ ?_
      · refine qP_ite ?_ ?_
        · refine qP_ite ?_ ?_
          · refine qP_ite ?_ ?_
            · refine qP_bnd (m0 := _) (Fg_wa (k := 301) h rfl rfl) (fun M1 h1 => ?_)
              exact (fr_X17_count_J37 h1)
            · exact qP_none
          · exact qP_none
        · exact (fr_X17_count_J37 h)
      · exact qP_none
  · refine qP_ite ?_ ?_
    · refine qP_bnd (m0 := _) (Fg_wa (k := 301) h rfl rfl) (fun M2 h2 => ?_)
      exact (fr_X17_count_J37 h2)
    · exact qP_none
theorem fr_X17_kept_J70 {N : Nat} {i1 i2 i3 : Int} {M M0 : qm} (h : Fg 12222215858006916517610674130456268966308810361995617503816842696126287798580020237100384256 M0 M) : qP (qf_X17_kept_J70 N i1 i2 i3 M) (fun r => Fg 12222215858006916517610674130456268966308810361995617503816842696126287798580020237100384256 M0 r.2) := by
  unfold qf_X17_kept_J70
  refine qP_bind (fr_X17_count Fg_refl) (fun r1 k1 => ?_)
  have h1 := Fg_tr h (Fg_mono k1 rfl)
  exact qP_some h1
theorem fr_X17_kept_J105 {N : Nat} {i1 t1 t2 : Int} {M M0 : qm} (h : Fg 12222215858006916517610674130456268966308810361995617503816842696126287798580020237100384256 M0 M) : qP (qf_X17_kept_J105 N i1 t1 t2 M) (fun r => Fg 12222215858006916517610674130456268966308810361995617503816842696126287798580020237100384256 M0 r.2) := by
  unfold qf_X17_kept_J105
  refine qP_ite ?_ ?_
  · refine qP_bnd (m0 := _) (Fg_wa (k := 301) h rfl rfl) (fun M1 h1 => ?_)
    refine qP_ite ?_ ?_
    · exact qP_some h1
    · exact qP_none
  · exact qP_none
theorem fr_X17_kept_J78 {N : Nat} {i1 i2 i3 : Int} {M M0 : qm} (h : Fg 12222215858006916517610674130456268966308810361995617503816842696126287798580020237100384256 M0 M) : qP (qf_X17_kept_J78 N i1 i2 i3 M) (fun r => Fg 12222215858006916517610674130456268966308810361995617503816842696126287798580020237100384256 M0 r.2) := by
  unfold qf_X17_kept_J78
  refine qP_ite ?_ ?_
  · refine qP_ite ?_ ?_
    · refine qP_ite ?_ ?_
      · exact (fr_X17_kept_J105 h)
      · exact qP_none
    · exact (fr_X17_kept_J105 h)
  · exact (fr_X17_kept_J105 h)
theorem fr_X17_kept_J113 {N : Nat} {i1 : Int} {M M0 : qm} (h : Fg 12222215858006916517610674130456268966308810361995617503816842696126287798580020237100384256 M0 M) : qP (qf_X17_kept_J113 N i1 M) (fun r => Fg 12222215858006916517610674130456268966308810361995617503816842696126287798580020237100384256 M0 r.2) := by
  unfold qf_X17_kept_J113
  refine qP_pure (fun r1 => ?_)
  exact qP_some h
theorem fr_X17_pulse_J25 {N : Nat} {i1 i2 : Int} {M M0 : qm} (h : Fg 12222215858006916517610674130456268966308810361995617503816842696126287798580020237100384256 M0 M) : qP (qf_X17_pulse_J25 N i1 i2 M) (fun r => Fg 12222215858006916517610674130456268966308810361995617503816842696126287798580020237100384256 M0 r.2) := by
  unfold qf_X17_pulse_J25
  refine qP_ite ?_ ?_
  · refine qP_bnd (m0 := _) (Fg_wa (k := 302) h rfl rfl) (fun M1 h1 => ?_)
    refine qP_ite ?_ ?_
    · refine qP_ite ?_ ?_
      · refine qP_ite ?_ ?_
        · refine qP_ite ?_ ?_
          · refine qP_bnd (m0 := _) (Fg_wa (k := 301) h1 rfl rfl) (fun M2 h2 => ?_)
            exact qP_some h2
          · exact qP_none
        · exact qP_none
      · exact qP_some h1
    · exact qP_none
  · exact qP_none
theorem fr_X17_pulse {N : Nat} {i1 i2 : Int} {M M0 : qm} (h : Fg 12222215858006916517610674130456268966308810361995617503816842696126287798580020237100384256 M0 M) : qP (qf_X17_pulse N i1 i2 M) (fun r => Fg 12222215858006916517610674130456268966308810361995617503816842696126287798580020237100384256 M0 r.2) := by
  unfold qf_X17_pulse
  refine qP_ite ?_ ?_
  · exact (fr_X17_pulse_J25 h)
  · refine qP_ite ?_ ?_
    · refine qP_ite ?_ ?_
      · refine qP_ite ?_ ?_
        · refine qP_ite ?_ ?_
          · refine qP_bnd (m0 := _) (Fg_wa (k := 301) h rfl rfl) (fun M1 h1 => ?_)
            exact (fr_X17_pulse_J25 h1)
          · exact qP_none
        · exact qP_none
      · exact (fr_X17_pulse_J25 h)
    · exact qP_none
theorem fr_X17_kept_J119 {N : Nat} {i1 i2 : Int} {M M0 : qm} (h : Fg 12222215858006916517610674130456268966308810361995617503816842696126287798580020237100384256 M0 M) : qP (qf_X17_kept_J119 N i1 i2 M) (fun r => Fg 12222215858006916517610674130456268966308810361995617503816842696126287798580020237100384256 M0 r.2) := by
  unfold qf_X17_kept_J119
  refine qP_bind (fr_X17_pulse Fg_refl) (fun r1 k1 => ?_)
  have h1 := Fg_tr h (Fg_mono k1 rfl)
  exact qP_some h1
theorem fr_X17_kept_J126 {N : Nat} {i1 i2 : Int} {M M0 : qm} (h : Fg 12222215858006916517610674130456268966308810361995617503816842696126287798580020237100384256 M0 M) : qP (qf_X17_kept_J126 N i1 i2 M) (fun r => Fg 12222215858006916517610674130456268966308810361995617503816842696126287798580020237100384256 M0 r.2) := by
  unfold qf_X17_kept_J126
  refine qP_ite ?_ ?_
  · refine qP_ite ?_ ?_
    · refine qP_ite ?_ ?_
      · refine qP_ite ?_ ?_
        · exact qP_some h
        · refine qP_ite ?_ ?_
          · exact qP_some h
          · exact qP_none
      · exact qP_none
    · refine qP_ite ?_ ?_
      · exact qP_some h
      · exact qP_none
  · exact qP_none
theorem fr_X17_kept_J166 {N : Nat} {i1 i2 i3 : Int} {M M0 : qm} (h : Fg 12222215858006916517610674130456268966308810361995617503816842696126287798580020237100384256 M0 M) : qP (qf_X17_kept_J166 N i1 i2 i3 M) (fun r => Fg 12222215858006916517610674130456268966308810361995617503816842696126287798580020237100384256 M0 r.2) := by
  unfold qf_X17_kept_J166
  refine qP_ite ?_ ?_
  · exact qP_some h
  · refine qP_ite ?_ ?_
    · exact qP_some h
    · exact qP_none
theorem fr_X17_kept_J202 {N : Nat} {i1 t1 t2 : Int} {M M0 : qm} (h : Fg 12222215858006916517610674130456268966308810361995617503816842696126287798580020237100384256 M0 M) : qP (qf_X17_kept_J202 N i1 t1 t2 M) (fun r => Fg 12222215858006916517610674130456268966308810361995617503816842696126287798580020237100384256 M0 r.2) := by
  unfold qf_X17_kept_J202
  refine qP_ite ?_ ?_
  · refine qP_bnd (m0 := _) (Fg_wa (k := 301) h rfl rfl) (fun M1 h1 => ?_)
    refine qP_ite ?_ ?_
    · exact qP_some h1
    · exact qP_none
  · exact qP_none
theorem fr_X17_kept_J181 {N : Nat} {i1 i2 i3 : Int} {M M0 : qm} (h : Fg 12222215858006916517610674130456268966308810361995617503816842696126287798580020237100384256 M0 M) : qP (qf_X17_kept_J181 N i1 i2 i3 M) (fun r => Fg 12222215858006916517610674130456268966308810361995617503816842696126287798580020237100384256 M0 r.2) := by
  unfold qf_X17_kept_J181
  refine qP_ite ?_ ?_
  · refine qP_ite ?_ ?_
    · exact (fr_X17_kept_J202 h)
    · exact qP_none
  · exact (fr_X17_kept_J202 h)
theorem fr_X17_kept_J255 {N : Nat} {i1 t1 t2 : Int} {M M0 : qm} (h : Fg 12222215858006916517610674130456268966308810361995617503816842696126287798580020237100384256 M0 M) : qP (qf_X17_kept_J255 N i1 t1 t2 M) (fun r => Fg 12222215858006916517610674130456268966308810361995617503816842696126287798580020237100384256 M0 r.2) := by
  unfold qf_X17_kept_J255
  refine qP_ite ?_ ?_
  · refine qP_bnd (m0 := _) (Fg_wa (k := 301) h rfl rfl) (fun M1 h1 => ?_)
    refine qP_ite ?_ ?_
    · exact qP_some h1
    · exact qP_none
  · exact qP_none
theorem fr_X17_kept_J226 {N : Nat} {i1 t0 : Int} {M M0 : qm} (h : Fg 12222215858006916517610674130456268966308810361995617503816842696126287798580020237100384256 M0 M) : qP (qf_X17_kept_J226 N i1 t0 M) (fun r => Fg 12222215858006916517610674130456268966308810361995617503816842696126287798580020237100384256 M0 r.2) := by
  unfold qf_X17_kept_J226
  refine qP_ite ?_ ?_
  · refine qP_ite ?_ ?_
    · refine qP_ite ?_ ?_
      · exact (fr_X17_kept_J255 h)
      · exact qP_none
    · exact (fr_X17_kept_J255 h)
  · exact qP_none
theorem fr_X17_kept_J210 {N : Nat} {i1 i2 : Int} {M M0 : qm} (h : Fg 12222215858006916517610674130456268966308810361995617503816842696126287798580020237100384256 M0 M) : qP (qf_X17_kept_J210 N i1 i2 M) (fun r => Fg 12222215858006916517610674130456268966308810361995617503816842696126287798580020237100384256 M0 r.2) := by
  unfold qf_X17_kept_J210
  refine qP_ite ?_ ?_
  · exact (fr_X17_kept_J226 h)
  · refine qP_ite ?_ ?_
    · exact (fr_X17_kept_J226 h)
    · exact qP_none
theorem fr_X17_kept {N : Nat} {i1 i2 i3 : Int} {M M0 : qm} (h : Fg 12222215858006916517610674130456268966308810361995617503816842696126287798580020237100384256 M0 M) : qP (qf_X17_kept N i1 i2 i3 M) (fun r => Fg 12222215858006916517610674130456268966308810361995617503816842696126287798580020237100384256 M0 r.2) := by
  unfold qf_X17_kept
  refine qP_ite ?_ ?_
  · refine qP_ite ?_ ?_
    · exact (fr_X17_kept_J56 h)
    · refine qP_ite ?_ ?_
      · exact (fr_X17_kept_J63 h)
      · refine qP_ite ?_ ?_
        · exact (fr_X17_kept_J70 h)
        · refine qP_ite ?_ ?_
          · exact (fr_X17_kept_J78 h)
          · refine qP_ite ?_ ?_
            · exact (fr_X17_kept_J113 h)
            · refine qP_ite ?_ ?_
              · exact (fr_X17_kept_J119 h)
              · refine qP_ite ?_ ?_
                · exact (fr_X17_kept_J126 h)
                · refine qP_ite ?_ ?_
                  · exact (fr_X17_kept_J166 h)
                  · refine qP_ite ?_ ?_
                    · exact (fr_X17_kept_J181 h)
                    · exact (fr_X17_kept_J210 h)
  · exact qP_none
theorem fr_X17_reckon_J115 {N : Nat} {i1 : Int} {M M0 : qm} (h : Fg 1057221671717598278773323312284467265585712096312620914080156893214923894577171750509183238144 M0 M) : qP (qf_X17_reckon_J115 N i1 M) (fun r => Fg 1057221671717598278773323312284467265585712096312620914080156893214923894577171750509183238144 M0 r.2) := by
  unfold qf_X17_reckon_J115
  refine qP_ite ?_ ?_
  · refine qP_ite ?_ ?_
    · refine qP_ite ?_ ?_
      · refine qP_ite ?_ ?_
        · refine qP_bnd (m0 := _) (Fg_wa (k := 300) h rfl rfl) (fun M1 h1 => ?_)
          exact qP_some h1
        · exact qP_none
      · exact qP_none
    · refine qP_ite ?_ ?_
      · refine qP_ite ?_ ?_
        · refine qP_bnd (m0 := _) (Fg_wa (k := 300) h rfl rfl) (fun M2 h2 => ?_)
          exact qP_some h2
        · exact qP_none
      · exact qP_none
  · exact qP_none
theorem fr_X17_reckon_J114 {N : Nat} {i1 t1 t2 : Int} {M M0 : qm} (h : Fg 1057221671717598278773323312284467265585712096312620914080156893214923894577171750509183238144 M0 M) : qP (qf_X17_reckon_J114 N i1 t1 t2 M) (fun r => Fg 1057221671717598278773323312284467265585712096312620914080156893214923894577171750509183238144 M0 r.2) := by
  unfold qf_X17_reckon_J114
  refine qP_ite ?_ ?_
  · refine qP_bnd (m0 := _) (Fg_wa (k := 300) h rfl rfl) (fun M1 h1 => ?_)
    exact (fr_X17_reckon_J115 h1)
  · exact qP_none
theorem fr_X17_reckon_J75 {N : Nat} {i1 i4 t0 : Int} {M M0 : qm} (h : Fg 1057221671717598278773323312284467265585712096312620914080156893214923894577171750509183238144 M0 M) : qP (qf_X17_reckon_J75 N i1 i4 t0 M) (fun r => Fg 1057221671717598278773323312284467265585712096312620914080156893214923894577171750509183238144 M0 r.2) := by
  unfold qf_X17_reckon_J75
  refine qP_ite ?_ ?_
  · refine qP_ite ?_ ?_
    · refine qP_bind (fr_X17_kept Fg_refl) (fun r1 k1 => ?_)
      have h1 := Fg_tr h (Fg_mono k1 rfl)
      exact (fr_X17_reckon_J114 h1)
    · refine qP_pure (fun r2 => ?_)
      exact (fr_X17_reckon_J114 h)
  · exact qP_none
theorem fr_X17_reckon_J58 {N : Nat} {i1 i3 t0 : Int} {M M0 : qm} (h : Fg 1057221671717598278773323312284467265585712096312620914080156893214923894577171750509183238144 M0 M) : qP (qf_X17_reckon_J58 N i1 i3 t0 M) (fun r => Fg 1057221671717598278773323312284467265585712096312620914080156893214923894577171750509183238144 M0 r.2) := by
  unfold qf_X17_reckon_J58
  refine qP_ite ?_ ?_
  · exact (fr_X17_reckon_J75 h)
  · refine qP_pure (fun r1 => ?_)
    exact (fr_X17_reckon_J75 h)
theorem fr_X17_reckon_J43 {N : Nat} {i1 t0 : Int} {M M0 : qm} (h : Fg 1057221671717598278773323312284467265585712096312620914080156893214923894577171750509183238144 M0 M) : qP (qf_X17_reckon_J43 N i1 t0 M) (fun r => Fg 1057221671717598278773323312284467265585712096312620914080156893214923894577171750509183238144 M0 r.2) := by
  unfold qf_X17_reckon_J43
  refine qP_ite ?_ ?_
  · exact (fr_X17_reckon_J58 h)
  · refine qP_pure (fun r1 => ?_)
    exact (fr_X17_reckon_J58 h)
theorem fr_X17_fails {N : Nat} {i1 i2 : Int} {M M0 : qm} (h : Fg 1044999455859591362255712638154010996619403285950625296576340050518797606778591730272082853888 M0 M) : qP (qf_X17_fails N i1 i2 M) (fun r => Fg 1044999455859591362255712638154010996619403285950625296576340050518797606778591730272082853888 M0 r.2) := by
  unfold qf_X17_fails
  refine qP_bnd (m0 := _) (Fg_wa (k := 309) h rfl rfl) (fun M1 h1 => ?_)
  refine qP_ite ?_ ?_
  · refine qP_ite ?_ ?_
    · refine qP_bnd (m0 := _) (Fg_wa (k := 309) h1 rfl rfl) (fun M2 h2 => ?_)
      refine qP_ite ?_ ?_
      · refine qP_ite ?_ ?_
        · refine qP_bnd (m0 := _) (Fg_wa (k := 300) h2 rfl rfl) (fun M3 h3 => ?_)
          exact qP_some h3
        · exact qP_none
      · exact qP_none
    · exact qP_none
  · exact qP_none
theorem fr_X17_reckon {N : Nat} {i1 : Int} {M M0 : qm} (h : Fg 1057221671717598278773323312284467265585712096312620914080156893214923894577171750509183238144 M0 M) : qP (qf_X17_reckon N i1 M) (fun r => Fg 1057221671717598278773323312284467265585712096312620914080156893214923894577171750509183238144 M0 r.2) := by
  unfold qf_X17_reckon
  refine qP_pure (fun r1 => ?_)
  refine qP_ite ?_ ?_
  · refine qP_ite ?_ ?_
    · refine qP_ite ?_ ?_
      · exact (fr_X17_reckon_J43 h)
      · refine qP_ite ?_ ?_
        · refine qP_pure (fun r2 => ?_)
          exact (fr_X17_reckon_J43 h)
        · exact qP_none
    · exact qP_none
  · refine qP_bind (fr_X17_fails Fg_refl) (fun r3 k3 => ?_)
    have h3 := Fg_tr h (Fg_mono k3 rfl)
    exact (fr_X17_reckon_J115 h3)
theorem fr_X17_tick_L21_b {N : Nat} {i1 : Int} {M M0 : qm} (h : Fg 1839459400973606049072955428865609177696359174077165949451392920614266894790197446751624888320 M0 M) : qP (qf_X17_tick_L21_b N i1 M) (pU (pU (fun r => Fg 1839459400973606049072955428865609177696359174077165949451392920614266894790197446751624888320 M0 r.2) (fun r => Fg 1839459400973606049072955428865609177696359174077165949451392920614266894790197446751624888320 M0 r.2)) (fun r => Fg 1839459400973606049072955428865609177696359174077165949451392920614266894790197446751624888320 M0 r.2)) := by
  unfold qf_X17_tick_L21_b
  refine qP_ite ?_ ?_
  · exact qP_some h
  · refine qP_ite ?_ ?_
    · refine qP_bind (fr_X17_reckon Fg_refl) (fun r1 k1 => ?_)
      have h1 := Fg_tr h (Fg_mono k1 rfl)
      exact qP_some h1
    · exact qP_none
theorem fr_X17_tick_L21 (n : Nat) {N : Nat} {i1 : Int} {M M0 : qm} (h : Fg 1839459400973606049072955428865609177696359174077165949451392920614266894790197446751624888320 M0 M) : qP (qf_X17_tick_L21 N n i1 M) (pU (fun r => Fg 1839459400973606049072955428865609177696359174077165949451392920614266894790197446751624888320 M0 r.2) (fun r => Fg 1839459400973606049072955428865609177696359174077165949451392920614266894790197446751624888320 M0 r.2)) := by
  unfold qf_X17_tick_L21
  exact qP_loop (I := fun s => Fg 1839459400973606049072955428865609177696359174077165949451392920614266894790197446751624888320 M0 s.2) (fun s hs => fr_X17_tick_L21_b hs) n _ h
theorem fr_X17_tick_J116 {N : Nat} {i1 : Int} {M M0 : qm} (h : Fg 1839459400973606049072955428865609177696359174077165949451392920614266894790197446751624888320 M0 M) : qP (qf_X17_tick_J116 N i1 M) (pU (pU (fun r => Fg 1839459400973606049072955428865609177696359174077165949451392920614266894790197446751624888320 M0 r.2) (fun r => Fg 1839459400973606049072955428865609177696359174077165949451392920614266894790197446751624888320 M0 r.2)) (fun r => Fg 1839459400973606049072955428865609177696359174077165949451392920614266894790197446751624888320 M0 r.2)) := by
  unfold qf_X17_tick_J116
  refine qP_ite ?_ ?_
  · refine qP_ite ?_ ?_
    · refine qP_pure (fun r1 => ?_)
      refine qP_ite ?_ ?_
      · refine qP_bnd (m0 := _) (Fg_wa (k := 301) h rfl rfl) (fun M2 h2 => ?_)
        exact qP_some h2
      · exact qP_none
    · exact qP_some h
  · exact qP_none
theorem fr_X17_tick_J112 {N : Nat} {i1 t1 t2 : Int} {M M0 : qm} (h : Fg 1839459400973606049072955428865609177696359174077165949451392920614266894790197446751624888320 M0 M) : qP (qf_X17_tick_J112 N i1 t1 t2 M) (pU (pU (fun r => Fg 1839459400973606049072955428865609177696359174077165949451392920614266894790197446751624888320 M0 r.2) (fun r => Fg 1839459400973606049072955428865609177696359174077165949451392920614266894790197446751624888320 M0 r.2)) (fun r => Fg 1839459400973606049072955428865609177696359174077165949451392920614266894790197446751624888320 M0 r.2)) := by
  unfold qf_X17_tick_J112
  refine qP_ite ?_ ?_
  · refine qP_bnd (m0 := _) (Fg_wa (k := 300) h rfl rfl) (fun M1 h1 => ?_)
    exact qP_some h1
  · exact qP_none
theorem fr_X17_tick_L47_b {N : Nat} {i1 : Int} {M M0 : qm} (h : Fg 1839459400973606049072955428865609177696359174077165949451392920614266894790197446751624888320 M0 M) : qP (qf_X17_tick_L47_b N i1 M) (pU (pU (fun r => Fg 1839459400973606049072955428865609177696359174077165949451392920614266894790197446751624888320 M0 r.2) (fun r => Fg 1839459400973606049072955428865609177696359174077165949451392920614266894790197446751624888320 M0 r.2)) (fun r => Fg 1839459400973606049072955428865609177696359174077165949451392920614266894790197446751624888320 M0 r.2)) := by
  unfold qf_X17_tick_L47_b
  refine qP_ite ?_ ?_
  · exact qP_some h
  · refine qP_ite ?_ ?_
    · refine qP_ite ?_ ?_
      · refine qP_ite ?_ ?_
        · refine qP_ite ?_ ?_
          · exact (fr_X17_tick_J116 h)
          · refine qP_bind (fr_X17_fails Fg_refl) (fun r1 k1 => ?_)
            have h1 := Fg_tr h (Fg_mono k1 rfl)
            refine qP_ite ?_ ?_
            · refine qP_ite ?_ ?_
              · refine qP_ite ?_ ?_
                · exact (fr_X17_tick_J112 h1)
                · exact qP_none
              · refine qP_ite ?_ ?_
                · exact (fr_X17_tick_J112 h1)
                · exact qP_none
            · exact qP_none
        · exact qP_none
      · exact (fr_X17_tick_J116 h)
    · exact qP_none
theorem fr_X17_tick_L47 (n : Nat) {N : Nat} {i1 : Int} {M M0 : qm} (h : Fg 1839459400973606049072955428865609177696359174077165949451392920614266894790197446751624888320 M0 M) : qP (qf_X17_tick_L47 N n i1 M) (pU (fun r => Fg 1839459400973606049072955428865609177696359174077165949451392920614266894790197446751624888320 M0 r.2) (fun r => Fg 1839459400973606049072955428865609177696359174077165949451392920614266894790197446751624888320 M0 r.2)) := by
  unfold qf_X17_tick_L47
  exact qP_loop (I := fun s => Fg 1839459400973606049072955428865609177696359174077165949451392920614266894790197446751624888320 M0 s.2) (fun s hs => fr_X17_tick_L47_b hs) n _ h
theorem fr_X17_tick {N : Nat} {M M0 : qm} (h : Fg 1839459400973606049072955428865609177696359174077165949451392920614266894790197446751624888320 M0 M) : qP (qf_X17_tick N M) (fun r => Fg 1839459400973606049072955428865609177696359174077165949451392920614266894790197446751624888320 M0 r.2) := by
  unfold qf_X17_tick
  refine qP_bind (fr_X17_sort Fg_refl) (fun r1 k1 => ?_)
  have h1 := Fg_tr h (Fg_mono k1 rfl)
  refine qP_ite ?_ ?_
  · exact qP_some h1
  · refine qP_ite ?_ ?_
    · refine qP_bind (fr_X17_tick_L21 _ h1) (fun r2 k2 => ?_)
      rcases r2 with x2 | x2
      · exact qP_some k2
      · obtain ⟨y2_0, y2_1⟩ := x2
        have h2 : Fg _ _ y2_1 := k2
        refine qP_bind (fr_X17_tick_L47 _ h2) (fun r3 k3 => ?_)
        rcases r3 with x3 | x3
        · exact qP_some k3
        · obtain ⟨y3_0, y3_1⟩ := x3
          have h3 : Fg _ _ y3_1 := k3
          refine qP_ite ?_ ?_
          · refine qP_bnd (m0 := _) (Fg_w h3 rfl) (fun M4 h4 => ?_)
            exact qP_some h4
          · refine qP_bnd (m0 := _) (Fg_w h3 rfl) (fun M5 h5 => ?_)
            exact qP_some h5
    · exact qP_some h1
theorem fr_X12_begin_J83 {N : Nat} {t1 t2 t3 : Int} {M M0 : qm} (h : Fg 1093625362391505962186251113558810682676584715446606218212885303204976499599687961611756588511526912 M0 M) : qP (qf_X12_begin_J83 N t1 t2 t3 M) (fun r => Fg 1093625362391505962186251113558810682676584715446606218212885303204976499599687961611756588511526912 M0 r.2) := by
  unfold qf_X12_begin_J83
  refine qP_ite ?_ ?_
  · refine qP_ite ?_ ?_
    · refine qP_bnd (m0 := _) (Fg_wa (k := 329) h rfl rfl) (fun M1 h1 => ?_)
      exact qP_some h1
    · exact qP_none
  · refine qP_ite ?_ ?_
    · refine qP_bnd (m0 := _) (Fg_wa (k := 329) h rfl rfl) (fun M2 h2 => ?_)
      exact qP_some h2
    · exact qP_none
theorem fr_X12_begin_J65 {N : Nat} {i1 i2 t0 : Int} {M M0 : qm} (h : Fg 1093625362391505962186251113558810682676584715446606218212885303204976499599687961611756588511526912 M0 M) : qP (qf_X12_begin_J65 N i1 i2 t0 M) (fun r => Fg 1093625362391505962186251113558810682676584715446606218212885303204976499599687961611756588511526912 M0 r.2) := by
  unfold qf_X12_begin_J65
  refine qP_ite ?_ ?_
  · exact (fr_X12_begin_J83 h)
  · exact (fr_X12_begin_J83 h)
theorem fr_X12_begin_J64 {N : Nat} {i1 i2 : Int} {M M0 : qm} (h : Fg 1093625362391505962186251113558810682676584715446606218212885303204976499599687961611756588511526912 M0 M) : qP (qf_X12_begin_J64 N i1 i2 M) (fun r => Fg 1093625362391505962186251113558810682676584715446606218212885303204976499599687961611756588511526912 M0 r.2) := by
  unfold qf_X12_begin_J64
  exact (fr_X12_begin_J65 h)
theorem fr_X12_begin {N : Nat} {i1 i2 : Int} {M M0 : qm} (h : Fg 1093625362391505962186251113558810682676584715446606218212885303204976499599687961611756588511526912 M0 M) : qP (qf_X12_begin N i1 i2 M) (fun r => Fg 1093625362391505962186251113558810682676584715446606218212885303204976499599687961611756588511526912 M0 r.2) := by
  unfold qf_X12_begin
  refine qP_ite ?_ ?_
  · refine qP_ite ?_ ?_
    · exact qP_some h
    · refine qP_ite ?_ ?_
      · refine qP_ite ?_ ?_
        · exact qP_some h
        · refine qP_ite ?_ ?_
          · refine qP_ite ?_ ?_
            · exact qP_some h
            · refine qP_ite ?_ ?_
              · refine qP_ite ?_ ?_
                · exact (fr_X12_begin_J64 h)
                · refine qP_ite ?_ ?_
                  · refine qP_ite ?_ ?_
                    · exact (fr_X12_begin_J65 h)
                    · exact (fr_X12_begin_J64 h)
                  · exact qP_none
              · exact qP_none
          · exact qP_none
      · exact qP_none
  · exact qP_none
theorem fr_X12_bitTime_L17_b {N : Nat} {i1 i2 : Int} {M M0 : qm} (h : Fg 1119616050558666756302319985340593407875867187157938334003682184837549449084100344866779204053572255744 M0 M) : qP (qf_X12_bitTime_L17_b N i1 i2 M) (pU (pU (fun r => Fg 1119616050558666756302319985340593407875867187157938334003682184837549449084100344866779204053572255744 M0 r.2) (fun r => Fg 1119616050558666756302319985340593407875867187157938334003682184837549449084100344866779204053572255744 M0 r.2)) (fun r => Fg 1119616050558666756302319985340593407875867187157938334003682184837549449084100344866779204053572255744 M0 r.2.2)) := by
  unfold qf_X12_bitTime_L17_b
  refine qP_ite ?_ ?_
  · exact qP_some h
  · refine qP_bind (fr_X12_begin Fg_refl) (fun r1 k1 => ?_)
    have h1 := Fg_tr h (Fg_mono k1 rfl)
    exact qP_some h1
theorem fr_X12_bitTime_L17 (n : Nat) {N : Nat} {i1 i2 : Int} {M M0 : qm} (h : Fg 1119616050558666756302319985340593407875867187157938334003682184837549449084100344866779204053572255744 M0 M) : qP (qf_X12_bitTime_L17 N n i1 i2 M) (pU (fun r => Fg 1119616050558666756302319985340593407875867187157938334003682184837549449084100344866779204053572255744 M0 r.2) (fun r => Fg 1119616050558666756302319985340593407875867187157938334003682184837549449084100344866779204053572255744 M0 r.2)) := by
  unfold qf_X12_bitTime_L17
  exact qP_loop (I := fun s => Fg 1119616050558666756302319985340593407875867187157938334003682184837549449084100344866779204053572255744 M0 s.2.2) (fun s hs => fr_X12_bitTime_L17_b hs) n _ h
theorem fr_X12_answers_J174 {N : Nat} {i1 i2 t1 t2 : Int} {M M0 : qm} (h : Fg 13123504348698071546235013362705728192119016585359274618554623638459717995196255539341079062138322944 M0 M) : qP (qf_X12_answers_J174 N i1 i2 t1 t2 M) (pU (pU (fun r => Fg 13123504348698071546235013362705728192119016585359274618554623638459717995196255539341079062138322944 M0 r.2) (fun r => Fg 13123504348698071546235013362705728192119016585359274618554623638459717995196255539341079062138322944 M0 r.2)) (fun r => Fg 13123504348698071546235013362705728192119016585359274618554623638459717995196255539341079062138322944 M0 r.2.2)) := by
  unfold qf_X12_answers_J174
  refine qP_ite ?_ ?_
  · refine qP_bnd (m0 := _) (Fg_wa (k := 331) h rfl rfl) (fun M1 h1 => ?_)
    refine qP_ite ?_ ?_
    · refine qP_bnd (m0 := _) (Fg_wa (k := 332) h1 rfl rfl) (fun M2 h2 => ?_)
      exact qP_some h2
    · exact qP_none
  · exact qP_none
theorem fr_X12_answers_J116 {N : Nat} {i1 i2 t0 : Int} {M M0 : qm} (h : Fg 13123504348698071546235013362705728192119016585359274618554623638459717995196255539341079062138322944 M0 M) : qP (qf_X12_answers_J116 N i1 i2 t0 M) (pU (pU (fun r => Fg 13123504348698071546235013362705728192119016585359274618554623638459717995196255539341079062138322944 M0 r.2) (fun r => Fg 13123504348698071546235013362705728192119016585359274618554623638459717995196255539341079062138322944 M0 r.2)) (fun r => Fg 13123504348698071546235013362705728192119016585359274618554623638459717995196255539341079062138322944 M0 r.2.2)) := by
  unfold qf_X12_answers_J116
  refine qP_ite ?_ ?_
  · exact qP_some h
  · refine qP_ite ?_ ?_
    · refine qP_ite ?_ ?_
      · exact qP_some h
      · refine qP_ite ?_ ?_
        · refine qP_ite ?_ ?_
          · exact qP_some h
          · refine qP_ite ?_ ?_
            · exact (fr_X12_answers_J174 h)
            · refine qP_ite ?_ ?_
              · refine qP_ite ?_ ?_
                · exact (fr_X12_answers_J174 h)
                · exact (fr_X12_answers_J174 h)
              · exact qP_none
        · exact qP_none
    · exact qP_none
theorem fr_X12_answers_J115 {N : Nat} {i1 i2 : Int} {M M0 : qm} (h : Fg 13123504348698071546235013362705728192119016585359274618554623638459717995196255539341079062138322944 M0 M) : qP (qf_X12_answers_J115 N i1 i2 M) (pU (pU (fun r => Fg 13123504348698071546235013362705728192119016585359274618554623638459717995196255539341079062138322944 M0 r.2) (fun r => Fg 13123504348698071546235013362705728192119016585359274618554623638459717995196255539341079062138322944 M0 r.2)) (fun r => Fg 13123504348698071546235013362705728192119016585359274618554623638459717995196255539341079062138322944 M0 r.2.2)) := by
  unfold qf_X12_answers_J115
  exact (fr_X12_answers_J116 h)
theorem fr_X12_answers_L49_b {N : Nat} {i1 i2 : Int} {M M0 : qm} (h : Fg 13123504348698071546235013362705728192119016585359274618554623638459717995196255539341079062138322944 M0 M) : qP (qf_X12_answers_L49_b N i1 i2 M) (pU (pU (fun r => Fg 13123504348698071546235013362705728192119016585359274618554623638459717995196255539341079062138322944 M0 r.2) (fun r => Fg 13123504348698071546235013362705728192119016585359274618554623638459717995196255539341079062138322944 M0 r.2)) (fun r => Fg 13123504348698071546235013362705728192119016585359274618554623638459717995196255539341079062138322944 M0 r.2.2)) := by
  unfold qf_X12_answers_L49_b
  refine qP_ite ?_ ?_
  · exact qP_some h
  · refine qP_ite ?_ ?_
    · refine qP_ite ?_ ?_
      · exact (fr_X12_answers_J115 h)
      · refine qP_ite ?_ ?_
        · refine qP_ite ?_ ?_
          · exact (fr_X12_answers_J115 h)
          · exact (fr_X12_answers_J116 h)
        · exact qP_none
    · refine qP_ite ?_ ?_
      · refine qP_ite ?_ ?_
        · exact (fr_X12_answers_J116 h)
        · exact (fr_X12_answers_J116 h)
      · exact qP_none
theorem fr_X12_answers_L49 (n : Nat) {N : Nat} {i1 i2 : Int} {M M0 : qm} (h : Fg 13123504348698071546235013362705728192119016585359274618554623638459717995196255539341079062138322944 M0 M) : qP (qf_X12_answers_L49 N n i1 i2 M) (pU (fun r => Fg 13123504348698071546235013362705728192119016585359274618554623638459717995196255539341079062138322944 M0 r.2) (fun r => Fg 13123504348698071546235013362705728192119016585359274618554623638459717995196255539341079062138322944 M0 r.2)) := by
  unfold qf_X12_answers_L49
  exact qP_loop (I := fun s => Fg 13123504348698071546235013362705728192119016585359274618554623638459717995196255539341079062138322944 M0 s.2.2) (fun s hs => fr_X12_answers_L49_b hs) n _ h
theorem fr_X12_answers {N : Nat} {M M0 : qm} (h : Fg 13123504348698071546235013362705728192119016585359274618554623638459717995196255539341079062138322944 M0 M) : qP (qf_X12_answers N M) (fun r => Fg 13123504348698071546235013362705728192119016585359274618554623638459717995196255539341079062138322944 M0 r.2) := by
  unfold qf_X12_answers
  refine qP_ite ?_ ?_
  · exact qP_some h
  · refine qP_ite ?_ ?_
    · refine qP_ite ?_ ?_
      · refine qP_bind (fr_X12_answers_L49 _ h) (fun r1 k1 => ?_)
        rcases r1 with x1 | x1
        · exact qP_some k1
        · obtain ⟨y1_0, y1_1⟩ := x1
          have h1 : Fg _ _ y1_1 := k1
          exact qP_some h1
      · exact qP_some h
    · exact qP_some h
theorem fr_X12_goOn_J187 {N : Nat} {i2 : Int} {M M0 : qm} (h : Fg 86943216310124723993806963527925449272788484878005194347924381604795631718175192948134648786666389504 M0 M) : qP (qf_X12_goOn_J187 N i2 M) (fun r => Fg 86943216310124723993806963527925449272788484878005194347924381604795631718175192948134648786666389504 M0 r.2) := by
  unfold qf_X12_goOn_J187
  refine qP_ite ?_ ?_
  · refine qP_ite ?_ ?_
    · refine qP_bnd (m0 := _) (Fg_wa (k := 328) h rfl rfl) (fun M1 h1 => ?_)
      exact qP_some h1
    · exact qP_none
  · exact qP_none
theorem fr_X12_goOn_J106 {N : Nat} {i1 i2 : Int} {M M0 : qm} (h : Fg 86943216310124723993806963527925449272788484878005194347924381604795631718175192948134648786666389504 M0 M) : qP (qf_X12_goOn_J106 N i1 i2 M) (fun r => Fg 86943216310124723993806963527925449272788484878005194347924381604795631718175192948134648786666389504 M0 r.2) := by
  unfold qf_X12_goOn_J106
  refine qP_ite ?_ ?_
  · refine qP_ite ?_ ?_
    · refine qP_bnd (m0 := _) (Fg_wa (k := 329) h rfl rfl) (fun M1 h1 => ?_)
      refine qP_ite ?_ ?_
      · refine qP_ite ?_ ?_
        · refine qP_ite ?_ ?_
          · refine qP_ite ?_ ?_
            · refine qP_bnd (m0 := _) (Fg_wa (k := 329) h1 rfl rfl) (fun M2 h2 => ?_)
              refine qP_ite ?_ ?_
              · refine qP_bnd (m0 := _) (Fg_wa (k := 330) h2 rfl rfl) (fun M3 h3 => ?_)
                refine qP_ite ?_ ?_
                · refine qP_ite ?_ ?_
                  · refine qP_ite ?_ ?_
                    · refine qP_ite ?_ ?_
                      · refine qP_bnd (m0 := _) (Fg_wa (k := 328) h3 rfl rfl) (fun M4 h4 => ?_)
                        refine qP_bind (fr_X12_check Fg_refl) (fun r5 k5 => ?_)
                        have h5 := Fg_tr h4 (Fg_mono k5 rfl)
                        exact (fr_X12_goOn_J187 h5)
                      · exact qP_none
                    · exact qP_none
                  · exact (fr_X12_goOn_J187 h3)
                · exact qP_none
              · exact qP_none
            · exact qP_none
          · exact qP_some h1
        · exact qP_none
      · exact qP_none
    · exact qP_none
  · exact qP_none
theorem fr_X12_goOn_J46 {N : Nat} {i1 : Int} {M M0 : qm} (h : Fg 86943216310124723993806963527925449272788484878005194347924381604795631718175192948134648786666389504 M0 M) : qP (qf_X12_goOn_J46 N i1 M) (fun r => Fg 86943216310124723993806963527925449272788484878005194347924381604795631718175192948134648786666389504 M0 r.2) := by
  unfold qf_X12_goOn_J46
  refine qP_ite ?_ ?_
  · refine qP_ite ?_ ?_
    · refine qP_ite ?_ ?_
      · refine qP_pure (fun r1 => ?_)
        refine qP_ite ?_ ?_
        · exact (fr_X12_goOn_J106 h)
        · refine qP_ite ?_ ?_
          · refine qP_ite ?_ ?_
            · refine qP_ite ?_ ?_
              · refine qP_bnd (m0 := _) (Fg_wa (k := 329) h rfl rfl) (fun M2 h2 => ?_)
                refine qP_ite ?_ ?_
                · refine qP_ite ?_ ?_
                  · refine qP_bnd (m0 := _) (Fg_wa (k := 335) h2 rfl rfl) (fun M3 h3 => ?_)
                    exact qP_some h3
                  · exact qP_none
                · exact qP_none
              · exact qP_none
            · exact (fr_X12_goOn_J106 h)
          · exact qP_none
      · exact qP_none
    · exact qP_some h
  · exact qP_none
theorem fr_X12_goOn_J45 {N : Nat} {i1 t1 t2 : Int} {M M0 : qm} (h : Fg 86943216310124723993806963527925449272788484878005194347924381604795631718175192948134648786666389504 M0 M) : qP (qf_X12_goOn_J45 N i1 t1 t2 M) (fun r => Fg 86943216310124723993806963527925449272788484878005194347924381604795631718175192948134648786666389504 M0 r.2) := by
  unfold qf_X12_goOn_J45
  refine qP_ite ?_ ?_
  · refine qP_bnd (m0 := _) (Fg_wa (k := 331) h rfl rfl) (fun M1 h1 => ?_)
    exact (fr_X12_goOn_J46 h1)
  · exact qP_none
theorem fr_X12_goOn {N : Nat} {i1 : Int} {M M0 : qm} (h : Fg 86943216310124723993806963527925449272788484878005194347924381604795631718175192948134648786666389504 M0 M) : qP (qf_X12_goOn N i1 M) (fun r => Fg 86943216310124723993806963527925449272788484878005194347924381604795631718175192948134648786666389504 M0 r.2) := by
  unfold qf_X12_goOn
  refine qP_ite ?_ ?_
  · refine qP_ite ?_ ?_
    · exact (fr_X12_goOn_J46 h)
    · refine qP_ite ?_ ?_
      · refine qP_ite ?_ ?_
        · refine qP_bnd (m0 := _) (Fg_wa (k := 332) h rfl rfl) (fun M1 h1 => ?_)
          refine qP_ite ?_ ?_
          · refine qP_ite ?_ ?_
            · exact (fr_X12_goOn_J45 h1)
            · refine qP_ite ?_ ?_
              · exact (fr_X12_goOn_J45 h1)
              · exact qP_none
          · exact qP_none
        · exact qP_none
      · exact qP_none
  · exact qP_none
theorem fr_X12_bitTime_L127_b {N : Nat} {i3 : Int} {M M0 : qm} (h : Fg 1119616050558666756302319985340593407875867187157938334003682184837549449084100344866779204053572255744 M0 M) : qP (qf_X12_bitTime_L127_b N i3 M) (pU (pU (fun r => Fg 1119616050558666756302319985340593407875867187157938334003682184837549449084100344866779204053572255744 M0 r.2) (fun r => Fg 1119616050558666756302319985340593407875867187157938334003682184837549449084100344866779204053572255744 M0 r.2)) (fun r => Fg 1119616050558666756302319985340593407875867187157938334003682184837549449084100344866779204053572255744 M0 r.2)) := by
  unfold qf_X12_bitTime_L127_b
  refine qP_ite ?_ ?_
  · exact qP_some h
  · refine qP_bind (fr_X12_goOn Fg_refl) (fun r1 k1 => ?_)
    have h1 := Fg_tr h (Fg_mono k1 rfl)
    exact qP_some h1
theorem fr_X12_bitTime_L127 (n : Nat) {N : Nat} {i3 : Int} {M M0 : qm} (h : Fg 1119616050558666756302319985340593407875867187157938334003682184837549449084100344866779204053572255744 M0 M) : qP (qf_X12_bitTime_L127 N n i3 M) (pU (fun r => Fg 1119616050558666756302319985340593407875867187157938334003682184837549449084100344866779204053572255744 M0 r.2) (fun r => Fg 1119616050558666756302319985340593407875867187157938334003682184837549449084100344866779204053572255744 M0 r.2)) := by
  unfold qf_X12_bitTime_L127
  exact qP_loop (I := fun s => Fg 1119616050558666756302319985340593407875867187157938334003682184837549449084100344866779204053572255744 M0 s.2) (fun s hs => fr_X12_bitTime_L127_b hs) n _ h
theorem fr_X12_starts_J21 {N : Nat} {t1 : Int} {M M0 : qm} (h : Fg 4330379967355282549855532287117177919839076746496495264072322634608328272188095490085614543437824 M0 M) : qP (qf_X12_starts_J21 N t1 M) (fun r => Fg 4330379967355282549855532287117177919839076746496495264072322634608328272188095490085614543437824 M0 r.2) := by
  unfold qf_X12_starts_J21
  refine qP_bnd (m0 := _) (Fg_w h rfl) (fun M1 h1 => ?_)
  refine qP_bnd (m0 := _) (Fg_w h1 rfl) (fun M2 h2 => ?_)
  refine qP_bnd (m0 := _) (Fg_w h2 rfl) (fun M3 h3 => ?_)
  refine qP_bnd (m0 := _) (Fg_w h3 rfl) (fun M4 h4 => ?_)
  exact qP_some h4
theorem fr_X12_starts {N : Nat} {M M0 : qm} (h : Fg 4330379967355282549855532287117177919839076746496495264072322634608328272188095490085614543437824 M0 M) : qP (qf_X12_starts N M) (fun r => Fg 4330379967355282549855532287117177919839076746496495264072322634608328272188095490085614543437824 M0 r.2) := by
  unfold qf_X12_starts
  refine qP_ite ?_ ?_
  · refine qP_ite ?_ ?_
    · exact (fr_X12_starts_J21 h)
    · exact (fr_X12_starts_J21 h)
  · exact qP_none
theorem fr_X12_reads_J187 {N : Nat} {M M0 : qm} (h : Fg 139988435171975631904775063556689662634213316321613875616237569372290564165852873996184968634388447232 M0 M) : qP (qf_X12_reads_J187 N M) (fun r => Fg 139988435171975631904775063556689662634213316321613875616237569372290564165852873996184968634388447232 M0 r.2) := by
  unfold qf_X12_reads_J187
  refine qP_ite ?_ ?_
  · exact qP_some h
  · refine qP_ite ?_ ?_
    · refine qP_ite ?_ ?_
      · exact qP_some h
      · exact qP_some h
    · exact qP_none
theorem fr_X12_reads_J114 {N : Nat} {i1 t1 : Int} {M M0 : qm} (h : Fg 139988435171975631904775063556689662634213316321613875616237569372290564165852873996184968634388447232 M0 M) : qP (qf_X12_reads_J114 N i1 t1 M) (fun r => Fg 139988435171975631904775063556689662634213316321613875616237569372290564165852873996184968634388447232 M0 r.2) := by
  unfold qf_X12_reads_J114
  refine qP_ite ?_ ?_
  · refine qP_bnd (m0 := _) (Fg_w h rfl) (fun M1 h1 => ?_)
    refine qP_ite ?_ ?_
    · refine qP_bnd (m0 := _) (Fg_wa (k := 336) h1 rfl rfl) (fun M2 h2 => ?_)
      refine qP_bnd (m0 := _) (Fg_w h2 rfl) (fun M3 h3 => ?_)
      refine qP_bnd (m0 := _) (Fg_w h3 rfl) (fun M4 h4 => ?_)
      refine qP_bnd (m0 := _) (Fg_w h4 rfl) (fun M5 h5 => ?_)
      exact qP_some h5
    · exact qP_none
  · exact qP_none
theorem fr_X12_reads_J109 {N : Nat} {i1 : Int} {M M0 : qm} (h : Fg 139988435171975631904775063556689662634213316321613875616237569372290564165852873996184968634388447232 M0 M) : qP (qf_X12_reads_J109 N i1 M) (fun r => Fg 139988435171975631904775063556689662634213316321613875616237569372290564165852873996184968634388447232 M0 r.2) := by
  unfold qf_X12_reads_J109
  exact (fr_X12_reads_J114 h)
theorem fr_X12_reads_J94 {N : Nat} {i1 t1 t2 : Int} {M M0 : qm} (h : Fg 139988435171975631904775063556689662634213316321613875616237569372290564165852873996184968634388447232 M0 M) : qP (qf_X12_reads_J94 N i1 t1 t2 M) (fun r => Fg 139988435171975631904775063556689662634213316321613875616237569372290564165852873996184968634388447232 M0 r.2) := by
  unfold qf_X12_reads_J94
  refine qP_ite ?_ ?_
  · refine qP_ite ?_ ?_
    · refine qP_ite ?_ ?_
      · exact (fr_X12_reads_J109 h)
      · exact (fr_X12_reads_J114 h)
    · exact qP_none
  · exact (fr_X12_reads_J109 h)
theorem fr_X12_reads {N : Nat} {M M0 : qm} (h : Fg 139988435171975631904775063556689662634213316321613875616237569372290564165852873996184968634388447232 M0 M) : qP (qf_X12_reads N M) (fun r => Fg 139988435171975631904775063556689662634213316321613875616237569372290564165852873996184968634388447232 M0 r.2) := by
  unfold qf_X12_reads
  refine qP_ite ?_ ?_
  · refine qP_ite ?_ ?_
    · refine qP_ite ?_ ?_
      · refine qP_ite ?_ ?_
        · refine qP_bnd (m0 := _) (Fg_w h rfl) (fun M1 h1 => ?_)
          exact qP_some h1
        · exact (fr_X12_reads_J187 h)
      · exact qP_none
    · exact (fr_X12_reads_J187 h)
  · refine qP_ite ?_ ?_
    · refine qP_pure (fun r2 => ?_)
      rcases r2 with x3 | x3
      · exact qP_some h
      · refine qP_ite ?_ ?_
        · refine qP_ite ?_ ?_
          · refine qP_pure (fun r4 => ?_)
            refine qP_ite ?_ ?_
            · exact (fr_X12_reads_J94 h)
            · exact (fr_X12_reads_J94 h)
          · exact qP_none
        · exact (fr_X12_reads_J109 h)
    · exact qP_some h
theorem fr_X12_hear_J265 {N : Nat} {t1 : Int} {M M0 : qm} (h : Fg 979896860307233666693155568479965510161865368191434057674150137232458951964677732335706846627480207360 M0 M) : qP (qf_X12_hear_J265 N t1 M) (fun r => Fg 979896860307233666693155568479965510161865368191434057674150137232458951964677732335706846627480207360 M0 r.2) := by
  unfold qf_X12_hear_J265
  refine qP_ite ?_ ?_
  · refine qP_ite ?_ ?_
    · refine qP_bnd (m0 := _) (Fg_wa (k := 338) h rfl rfl) (fun M1 h1 => ?_)
      refine qP_bind (fr_X12_starts Fg_refl) (fun r2 k2 => ?_)
      have h2 := Fg_tr h1 (Fg_mono k2 rfl)
      exact qP_some h2
    · exact qP_none
  · exact qP_none
theorem fr_X12_hear_J235 {N : Nat} {i1 t1 : Int} {M M0 : qm} (h : Fg 979896860307233666693155568479965510161865368191434057674150137232458951964677732335706846627480207360 M0 M) : qP (qf_X12_hear_J235 N i1 t1 M) (fun r => Fg 979896860307233666693155568479965510161865368191434057674150137232458951964677732335706846627480207360 M0 r.2) := by
  unfold qf_X12_hear_J235
  refine qP_bnd (m0 := _) (Fg_w h rfl) (fun M1 h1 => ?_)
  refine qP_ite ?_ ?_
  · exact (fr_X12_hear_J265 h1)
  · refine qP_ite ?_ ?_
    · exact (fr_X12_hear_J265 h1)
    · exact (fr_X12_hear_J265 h1)
theorem fr_X12_hear_J216 {N : Nat} {t0 : Int} {M M0 : qm} (h : Fg 979896860307233666693155568479965510161865368191434057674150137232458951964677732335706846627480207360 M0 M) : qP (qf_X12_hear_J216 N t0 M) (fun r => Fg 979896860307233666693155568479965510161865368191434057674150137232458951964677732335706846627480207360 M0 r.2) := by
  unfold qf_X12_hear_J216
  refine qP_ite ?_ ?_
  · exact (fr_X12_hear_J235 h)
  · exact (fr_X12_hear_J235 h)
theorem fr_X12_hear_J215 {N : Nat} {M M0 : qm} (h : Fg 979896860307233666693155568479965510161865368191434057674150137232458951964677732335706846627480207360 M0 M) : qP (qf_X12_hear_J215 N M) (fun r => Fg 979896860307233666693155568479965510161865368191434057674150137232458951964677732335706846627480207360 M0 r.2) := by
  unfold qf_X12_hear_J215
  exact (fr_X12_hear_J216 h)
theorem fr_X12_hear_J170 {N : Nat} {M M0 : qm} (h : Fg 979896860307233666693155568479965510161865368191434057674150137232458951964677732335706846627480207360 M0 M) : qP (qf_X12_hear_J170 N M) (fun r => Fg 979896860307233666693155568479965510161865368191434057674150137232458951964677732335706846627480207360 M0 r.2) := by
  unfold qf_X12_hear_J170
  refine qP_bnd (m0 := _) (Fg_w h rfl) (fun M1 h1 => ?_)
  refine qP_ite ?_ ?_
  · exact (fr_X12_hear_J215 h1)
  · refine qP_ite ?_ ?_
    · refine qP_ite ?_ ?_
      · refine qP_ite ?_ ?_
        · exact (fr_X12_hear_J216 h1)
        · exact (fr_X12_hear_J215 h1)
      · exact (fr_X12_hear_J215 h1)
    · exact (fr_X12_hear_J215 h1)
theorem fr_X12_hear_L42_b {N : Nat} {i1 i2 : Int} {M M0 : qm} (h : Fg 979896860307233666693155568479965510161865368191434057674150137232458951964677732335706846627480207360 M0 M) : qP (qf_X12_hear_L42_b N i1 i2 M) (pU (pU (fun r => Fg 979896860307233666693155568479965510161865368191434057674150137232458951964677732335706846627480207360 M0 r.2) (fun r => Fg 979896860307233666693155568479965510161865368191434057674150137232458951964677732335706846627480207360 M0 r.2)) (fun r => Fg 979896860307233666693155568479965510161865368191434057674150137232458951964677732335706846627480207360 M0 r.2.2)) := by
  unfold qf_X12_hear_L42_b
  refine qP_ite ?_ ?_
  · exact qP_some h
  · refine qP_ite ?_ ?_
    · refine qP_ite ?_ ?_
      · refine qP_bnd (m0 := _) (Fg_wa (k := 337) h rfl rfl) (fun M1 h1 => ?_)
        refine qP_ite ?_ ?_
        · exact qP_some h1
        · exact qP_none
      · exact qP_none
    · exact qP_none
theorem fr_X12_hear_L42 (n : Nat) {N : Nat} {i1 i2 : Int} {M M0 : qm} (h : Fg 979896860307233666693155568479965510161865368191434057674150137232458951964677732335706846627480207360 M0 M) : qP (qf_X12_hear_L42 N n i1 i2 M) (pU (fun r => Fg 979896860307233666693155568479965510161865368191434057674150137232458951964677732335706846627480207360 M0 r.2) (fun r => Fg 979896860307233666693155568479965510161865368191434057674150137232458951964677732335706846627480207360 M0 r.2)) := by
  unfold qf_X12_hear_L42
  exact qP_loop (I := fun s => Fg 979896860307233666693155568479965510161865368191434057674150137232458951964677732335706846627480207360 M0 s.2.2) (fun s hs => fr_X12_hear_L42_b hs) n _ h
theorem fr_X12_hear_J165 {N : Nat} {t1 t2 t3 : Int} {M M0 : qm} (h : Fg 979896860307233666693155568479965510161865368191434057674150137232458951964677732335706846627480207360 M0 M) : qP (qf_X12_hear_J165 N t1 t2 t3 M) (fun r => Fg 979896860307233666693155568479965510161865368191434057674150137232458951964677732335706846627480207360 M0 r.2) := by
  unfold qf_X12_hear_J165
  refine qP_ite ?_ ?_
  · refine qP_bnd (m0 := _) (Fg_wa (k := 338) h rfl rfl) (fun M1 h1 => ?_)
    refine qP_bind (fr_X12_starts Fg_refl) (fun r2 k2 => ?_)
    have h2 := Fg_tr h1 (Fg_mono k2 rfl)
    exact qP_some h2
  · exact qP_none
theorem fr_X12_hear_J115 {N : Nat} {t1 : Int} {M M0 : qm} (h : Fg 979896860307233666693155568479965510161865368191434057674150137232458951964677732335706846627480207360 M0 M) : qP (qf_X12_hear_J115 N t1 M) (fun r => Fg 979896860307233666693155568479965510161865368191434057674150137232458951964677732335706846627480207360 M0 r.2) := by
  unfold qf_X12_hear_J115
  refine qP_ite ?_ ?_
  · refine qP_bnd (m0 := _) (Fg_w h rfl) (fun M1 h1 => ?_)
    refine qP_bnd (m0 := _) (Fg_w h1 rfl) (fun M2 h2 => ?_)
    refine qP_bnd (m0 := _) (Fg_w h2 rfl) (fun M3 h3 => ?_)
    refine qP_bnd (m0 := _) (Fg_w h3 rfl) (fun M4 h4 => ?_)
    refine qP_bnd (m0 := _) (Fg_wa (k := 338) h4 rfl rfl) (fun M5 h5 => ?_)
    refine qP_ite ?_ ?_
    · exact (fr_X12_hear_J165 h5)
    · exact (fr_X12_hear_J165 h5)
  · exact qP_none
theorem fr_X12_hear_J114 {N : Nat} {M M0 : qm} (h : Fg 979896860307233666693155568479965510161865368191434057674150137232458951964677732335706846627480207360 M0 M) : qP (qf_X12_hear_J114 N M) (fun r => Fg 979896860307233666693155568479965510161865368191434057674150137232458951964677732335706846627480207360 M0 r.2) := by
  unfold qf_X12_hear_J114
  exact (fr_X12_hear_J115 h)
theorem fr_X12_hear {N : Nat} {M M0 : qm} (h : Fg 979896860307233666693155568479965510161865368191434057674150137232458951964677732335706846627480207360 M0 M) : qP (qf_X12_hear N M) (fun r => Fg 979896860307233666693155568479965510161865368191434057674150137232458951964677732335706846627480207360 M0 r.2) := by
  unfold qf_X12_hear
  refine qP_ite ?_ ?_
  · refine qP_bind (fr_X12_starts Fg_refl) (fun r1 k1 => ?_)
    have h1 := Fg_tr h (Fg_mono k1 rfl)
    exact qP_some h1
  · refine qP_bind (fr_X12_reads Fg_refl) (fun r2 k2 => ?_)
    have h2 := Fg_tr h (Fg_mono k2 rfl)
    refine qP_ite ?_ ?_
    · exact qP_some h2
    · refine qP_ite ?_ ?_
      · exact (fr_X12_hear_J170 h2)
      · refine qP_ite ?_ ?_
        · refine qP_bind (fr_X12_hear_L42 _ h2) (fun r3 k3 => ?_)
          rcases r3 with x3 | x3
          · exact qP_some k3
          · obtain ⟨y3_0, y3_1⟩ := x3
            have h3 : Fg _ _ y3_1 := k3
            refine qP_bnd (m0 := _) (Fg_w h3 rfl) (fun M4 h4 => ?_)
            refine qP_ite ?_ ?_
            · refine qP_ite ?_ ?_
              · exact (fr_X12_hear_J115 h4)
              · exact (fr_X12_hear_J114 h4)
            · exact (fr_X12_hear_J114 h4)
        · exact (fr_X12_hear_J170 h2)
theorem fr_X12_look_L110_b {N : Nat} {i1 i3 : Int} {M M0 : qm} (h : Fg 55501487141368927580952244013109642145836674308915265574303929137652557354684164051796646866959990784 M0 M) : qP (qf_X12_look_L110_b N i1 i3 M) (pU (pU (fun r => Fg 55501487141368927580952244013109642145836674308915265574303929137652557354684164051796646866959990784 M0 r.2) (fun r => Fg 55501487141368927580952244013109642145836674308915265574303929137652557354684164051796646866959990784 M0 r.2)) (fun r => Fg 55501487141368927580952244013109642145836674308915265574303929137652557354684164051796646866959990784 M0 r.2.2)) := by
  unfold qf_X12_look_L110_b
  refine qP_ite ?_ ?_
  · refine qP_ite ?_ ?_
    · exact qP_some h
    · refine qP_ite ?_ ?_
      · refine qP_ite ?_ ?_
        · refine qP_bnd (m0 := _) (Fg_wa (k := 328) h rfl rfl) (fun M1 h1 => ?_)
          exact qP_some h1
        · exact qP_none
      · exact qP_none
  · exact qP_none
theorem fr_X12_look_L110 (n : Nat) {N : Nat} {i1 i3 : Int} {M M0 : qm} (h : Fg 55501487141368927580952244013109642145836674308915265574303929137652557354684164051796646866959990784 M0 M) : qP (qf_X12_look_L110 N n i1 i3 M) (pU (fun r => Fg 55501487141368927580952244013109642145836674308915265574303929137652557354684164051796646866959990784 M0 r.2) (fun r => Fg 55501487141368927580952244013109642145836674308915265574303929137652557354684164051796646866959990784 M0 r.2)) := by
  unfold qf_X12_look_L110
  exact qP_loop (I := fun s => Fg 55501487141368927580952244013109642145836674308915265574303929137652557354684164051796646866959990784 M0 s.2.2) (fun s hs => fr_X12_look_L110_b hs) n _ h
theorem fr_X12_look_J92 {N : Nat} {i1 t1 t2 t3 : Int} {M M0 : qm} (h : Fg 55501487141368927580952244013109642145836674308915265574303929137652557354684164051796646866959990784 M0 M) : qP (qf_X12_look_J92 N i1 t1 t2 t3 M) (fun r => Fg 55501487141368927580952244013109642145836674308915265574303929137652557354684164051796646866959990784 M0 r.2) := by
  unfold qf_X12_look_J92
  refine qP_ite ?_ ?_
  · refine qP_bnd (m0 := _) (Fg_wa (k := 334) h rfl rfl) (fun M1 h1 => ?_)
    refine qP_ite ?_ ?_
    · refine qP_ite ?_ ?_
      · refine qP_bnd (m0 := _) (Fg_wa (k := 327) h1 rfl rfl) (fun M2 h2 => ?_)
        refine qP_bind (fr_X12_look_L110 _ h2) (fun r3 k3 => ?_)
        rcases r3 with x3 | x3
        · exact qP_some k3
        · obtain ⟨y3_0, y3_1⟩ := x3
          have h3 : Fg _ _ y3_1 := k3
          exact qP_some h3
      · exact qP_none
    · exact qP_none
  · exact qP_none
theorem fr_X12_look_J74 {N : Nat} {i1 i2 t1 t2 t3 : Int} {M M0 : qm} (h : Fg 55501487141368927580952244013109642145836674308915265574303929137652557354684164051796646866959990784 M0 M) : qP (qf_X12_look_J74 N i1 i2 t1 t2 t3 M) (fun r => Fg 55501487141368927580952244013109642145836674308915265574303929137652557354684164051796646866959990784 M0 r.2) := by
  unfold qf_X12_look_J74
  refine qP_ite ?_ ?_
  · refine qP_bnd (m0 := _) (Fg_wa (k := 333) h rfl rfl) (fun M1 h1 => ?_)
    refine qP_ite ?_ ?_
    · refine qP_ite ?_ ?_
      · exact (fr_X12_look_J92 h1)
      · exact (fr_X12_look_J92 h1)
    · exact qP_none
  · exact qP_none
theorem fr_X12_look_J58 {N : Nat} {i1 i2 : Int} {M M0 : qm} (h : Fg 55501487141368927580952244013109642145836674308915265574303929137652557354684164051796646866959990784 M0 M) : qP (qf_X12_look_J58 N i1 i2 M) (fun r => Fg 55501487141368927580952244013109642145836674308915265574303929137652557354684164051796646866959990784 M0 r.2) := by
  unfold qf_X12_look_J58
  refine qP_ite ?_ ?_
  · refine qP_ite ?_ ?_
    · exact (fr_X12_look_J74 h)
    · exact (fr_X12_look_J74 h)
  · exact qP_none
theorem fr_X12_look_J36 {N : Nat} {i1 t0 : Int} {M M0 : qm} (h : Fg 55501487141368927580952244013109642145836674308915265574303929137652557354684164051796646866959990784 M0 M) : qP (qf_X12_look_J36 N i1 t0 M) (fun r => Fg 55501487141368927580952244013109642145836674308915265574303929137652557354684164051796646866959990784 M0 r.2) := by
  unfold qf_X12_look_J36
  refine qP_ite ?_ ?_
  · refine qP_ite ?_ ?_
    · refine qP_ite ?_ ?_
      · exact (fr_X12_look_J58 h)
      · exact qP_some h
    · exact qP_none
  · exact (fr_X12_look_J58 h)
theorem fr_X12_look {N : Nat} {i1 : Int} {M M0 : qm} (h : Fg 55501487141368927580952244013109642145836674308915265574303929137652557354684164051796646866959990784 M0 M) : qP (qf_X12_look N i1 M) (fun r => Fg 55501487141368927580952244013109642145836674308915265574303929137652557354684164051796646866959990784 M0 r.2) := by
  unfold qf_X12_look
  refine qP_ite ?_ ?_
  · refine qP_ite ?_ ?_
    · refine qP_ite ?_ ?_
      · refine qP_bnd (m0 := _) (Fg_wa (k := 330) h rfl rfl) (fun M1 h1 => ?_)
        refine qP_ite ?_ ?_
        · exact (fr_X12_look_J36 h1)
        · exact (fr_X12_look_J36 h1)
      · exact qP_none
    · exact qP_some h
  · exact qP_none
theorem fr_X12_bitTime_L150_b {N : Nat} {i3 : Int} {M M0 : qm} (h : Fg 1119616050558666756302319985340593407875867187157938334003682184837549449084100344866779204053572255744 M0 M) : qP (qf_X12_bitTime_L150_b N i3 M) (pU (pU (fun r => Fg 1119616050558666756302319985340593407875867187157938334003682184837549449084100344866779204053572255744 M0 r.2) (fun r => Fg 1119616050558666756302319985340593407875867187157938334003682184837549449084100344866779204053572255744 M0 r.2)) (fun r => Fg 1119616050558666756302319985340593407875867187157938334003682184837549449084100344866779204053572255744 M0 r.2)) := by
  unfold qf_X12_bitTime_L150_b
  refine qP_ite ?_ ?_
  · exact qP_some h
  · refine qP_bind (fr_X12_look Fg_refl) (fun r1 k1 => ?_)
    have h1 := Fg_tr h (Fg_mono k1 rfl)
    exact qP_some h1
theorem fr_X12_bitTime_L150 (n : Nat) {N : Nat} {i3 : Int} {M M0 : qm} (h : Fg 1119616050558666756302319985340593407875867187157938334003682184837549449084100344866779204053572255744 M0 M) : qP (qf_X12_bitTime_L150 N n i3 M) (pU (fun r => Fg 1119616050558666756302319985340593407875867187157938334003682184837549449084100344866779204053572255744 M0 r.2) (fun r => Fg 1119616050558666756302319985340593407875867187157938334003682184837549449084100344866779204053572255744 M0 r.2)) := by
  unfold qf_X12_bitTime_L150
  exact qP_loop (I := fun s => Fg 1119616050558666756302319985340593407875867187157938334003682184837549449084100344866779204053572255744 M0 s.2) (fun s hs => fr_X12_bitTime_L150_b hs) n _ h
theorem fr_X12_bitTime_J79 {N : Nat} {i2 t1 t2 : Int} {M M0 : qm} (h : Fg 1119616050558666756302319985340593407875867187157938334003682184837549449084100344866779204053572255744 M0 M) : qP (qf_X12_bitTime_J79 N i2 t1 t2 M) (fun r => Fg 1119616050558666756302319985340593407875867187157938334003682184837549449084100344866779204053572255744 M0 r.2) := by
  unfold qf_X12_bitTime_J79
  refine qP_bnd (m0 := _) (Fg_w h rfl) (fun M1 h1 => ?_)
  refine qP_pure (fun r2 => ?_)
  rcases r2 with x3 | x3
  · exact qP_some h1
  · refine qP_ite ?_ ?_
    · refine qP_bnd (m0 := _) (Fg_wa (k := 322) h1 rfl rfl) (fun M4 h4 => ?_)
      refine qP_bind (fr_X12_bitTime_L127 _ h4) (fun r5 k5 => ?_)
      rcases r5 with x5 | x5
      · exact qP_some k5
      · obtain ⟨y5_0, y5_1⟩ := x5
        have h5 : Fg _ _ y5_1 := k5
        refine qP_bind (fr_X12_hear Fg_refl) (fun r6 k6 => ?_)
        have h6 := Fg_tr h5 (Fg_mono k6 rfl)
        refine qP_bind (fr_X12_bitTime_L150 _ h6) (fun r7 k7 => ?_)
        rcases r7 with x7 | x7
        · exact qP_some k7
        · obtain ⟨y7_0, y7_1⟩ := x7
          have h7 : Fg _ _ y7_1 := k7
          exact qP_some h7
    · exact qP_none
theorem fr_X12_bitTime_J56 {N : Nat} {t0 : Int} {M M0 : qm} (h : Fg 1119616050558666756302319985340593407875867187157938334003682184837549449084100344866779204053572255744 M0 M) : qP (qf_X12_bitTime_J56 N t0 M) (fun r => Fg 1119616050558666756302319985340593407875867187157938334003682184837549449084100344866779204053572255744 M0 r.2) := by
  unfold qf_X12_bitTime_J56
  refine qP_ite ?_ ?_
  · refine qP_ite ?_ ?_
    · exact (fr_X12_bitTime_J79 h)
    · exact (fr_X12_bitTime_J79 h)
  · exact qP_none
theorem fr_X12_bitTime {N : Nat} {M M0 : qm} (h : Fg 1119616050558666756302319985340593407875867187157938334003682184837549449084100344866779204053572255744 M0 M) : qP (qf_X12_bitTime N M) (fun r => Fg 1119616050558666756302319985340593407875867187157938334003682184837549449084100344866779204053572255744 M0 r.2) := by
  unfold qf_X12_bitTime
  refine qP_bnd (m0 := _) (Fg_w h rfl) (fun M1 h1 => ?_)
  refine qP_pure (fun r2 => ?_)
  refine qP_bind (fr_X12_bitTime_L17 _ h1) (fun r3 k3 => ?_)
  rcases r3 with x3 | x3
  · exact qP_some k3
  · obtain ⟨y3_0, y3_1⟩ := x3
    have h3 : Fg _ _ y3_1 := k3
    refine qP_bind (fr_X12_answers Fg_refl) (fun r4 k4 => ?_)
    have h4 := Fg_tr h3 (Fg_mono k4 rfl)
    refine qP_ite ?_ ?_
    · refine qP_ite ?_ ?_
      · exact (fr_X12_bitTime_J56 h4)
      · exact (fr_X12_bitTime_J56 h4)
    · exact qP_none
theorem fr_X18_line__L2_b {N : Nat} {i1 : Int} {M M0 : qm} (h : Fg 1119616050623851907545023540101183669904967288311585322600992144857905943463440546459205978651440971776 M0 M) : qP (qf_X18_line__L2_b N i1 M) (pU (pU (fun r => Fg 1119616050623851907545023540101183669904967288311585322600992144857905943463440546459205978651440971776 M0 r.2) (fun r => Fg 1119616050623851907545023540101183669904967288311585322600992144857905943463440546459205978651440971776 M0 r.2)) (fun r => Fg 1119616050623851907545023540101183669904967288311585322600992144857905943463440546459205978651440971776 M0 r.2)) := by
  unfold qf_X18_line__L2_b
  refine qP_ite ?_ ?_
  · exact qP_some h
  · refine qP_bind (fr_X12_bitTime Fg_refl) (fun r1 k1 => ?_)
    have h1 := Fg_tr h (Fg_mono k1 rfl)
    refine qP_ite ?_ ?_
    · exact qP_some h1
    · refine qP_ite ?_ ?_
      · exact qP_some h1
      · refine qP_ite ?_ ?_
        · exact qP_some h1
        · refine qP_ite ?_ ?_
          · exact qP_some h1
          · refine qP_ite ?_ ?_
            · refine qP_bnd (m0 := _) (Fg_wa (k := 305) h1 rfl rfl) (fun M2 h2 => ?_)
              exact qP_some h2
            · exact qP_none
theorem fr_X18_line__L2 (n : Nat) {N : Nat} {i1 : Int} {M M0 : qm} (h : Fg 1119616050623851907545023540101183669904967288311585322600992144857905943463440546459205978651440971776 M0 M) : qP (qf_X18_line__L2 N n i1 M) (pU (fun r => Fg 1119616050623851907545023540101183669904967288311585322600992144857905943463440546459205978651440971776 M0 r.2) (fun r => Fg 1119616050623851907545023540101183669904967288311585322600992144857905943463440546459205978651440971776 M0 r.2)) := by
  unfold qf_X18_line__L2
  exact qP_loop (I := fun s => Fg 1119616050623851907545023540101183669904967288311585322600992144857905943463440546459205978651440971776 M0 s.2) (fun s hs => fr_X18_line__L2_b hs) n _ h
theorem fr_X18_line_ {N : Nat} {M M0 : qm} (h : Fg 1119616050623851907545023540101183669904967288311585322600992144857905943463440546459205978651440971776 M0 M) : qP (qf_X18_line_ N M) (fun r => Fg 1119616050623851907545023540101183669904967288311585322600992144857905943463440546459205978651440971776 M0 r.2) := by
  unfold qf_X18_line_
  refine qP_bind (fr_X18_line__L2 _ h) (fun r1 k1 => ?_)
  rcases r1 with x1 | x1
  · exact qP_some k1
  · obtain ⟨y1_0, y1_1⟩ := x1
    have h1 : Fg _ _ y1_1 := k1
    exact qP_some h1
theorem fr_X18_second_L186_b {N : Nat} {i2 : Int} {M M0 : qm} (h : Fg 131694898927831736381312881657692929566851318366731015927044283881285592837645214222536593055079764553052742978619786133504 M0 M) : qP (qf_X18_second_L186_b N i2 M) (pU (pU (fun r => Fg 131694898927831736381312881657692929566851318366731015927044283881285592837645214222536593055079764553052742978619786133504 M0 r.2) (fun r => Fg 131694898927831736381312881657692929566851318366731015927044283881285592837645214222536593055079764553052742978619786133504 M0 r.2)) (fun r => Fg 131694898927831736381312881657692929566851318366731015927044283881285592837645214222536593055079764553052742978619786133504 M0 r.2)) := by
  unfold qf_X18_second_L186_b
  refine qP_ite ?_ ?_
  · exact qP_some h
  · refine qP_ite ?_ ?_
    · refine qP_ite ?_ ?_
      · exact qP_some h
      · refine qP_ite ?_ ?_
        · refine qP_ite ?_ ?_
          · exact qP_some h
          · refine qP_ite ?_ ?_
            · refine qP_ite ?_ ?_
              · refine qP_ite ?_ ?_
                · refine qP_ite ?_ ?_
                  · exact qP_some h
                  · refine qP_ite ?_ ?_
                    · refine qP_bnd (m0 := _) (Fg_wa (k := 383) h rfl rfl) (fun M1 h1 => ?_)
                      exact qP_some h1
                    · exact qP_none
                · exact qP_none
              · exact qP_none
            · exact qP_none
        · exact qP_none
    · exact qP_none
theorem fr_X18_second_L186 (n : Nat) {N : Nat} {i2 : Int} {M M0 : qm} (h : Fg 131694898927831736381312881657692929566851318366731015927044283881285592837645214222536593055079764553052742978619786133504 M0 M) : qP (qf_X18_second_L186 N n i2 M) (pU (fun r => Fg 131694898927831736381312881657692929566851318366731015927044283881285592837645214222536593055079764553052742978619786133504 M0 r.2) (fun r => Fg 131694898927831736381312881657692929566851318366731015927044283881285592837645214222536593055079764553052742978619786133504 M0 r.2)) := by
  unfold qf_X18_second_L186
  exact qP_loop (I := fun s => Fg 131694898927831736381312881657692929566851318366731015927044283881285592837645214222536593055079764553052742978619786133504 M0 s.2) (fun s hs => fr_X18_second_L186_b hs) n _ h
theorem fr_X18_leave_L2_b {N : Nat} {i1 : Int} {M M0 : qm} (h : Fg 123948129592567912409506412465344914211498333017406470840844570186209662951476966863884453693986867075820867527475596361728 M0 M) : qP (qf_X18_leave_L2_b N i1 M) (pU (pU (fun r => Fg 123948129592567912409506412465344914211498333017406470840844570186209662951476966863884453693986867075820867527475596361728 M0 r.2) (fun r => Fg 123948129592567912409506412465344914211498333017406470840844570186209662951476966863884453693986867075820867527475596361728 M0 r.2)) (fun r => Fg 123948129592567912409506412465344914211498333017406470840844570186209662951476966863884453693986867075820867527475596361728 M0 r.2)) := by
  unfold qf_X18_leave_L2_b
  refine qP_ite ?_ ?_
  · exact qP_some h
  · refine qP_ite ?_ ?_
    · refine qP_bnd (m0 := _) (Fg_wa (k := 404) h rfl rfl) (fun M1 h1 => ?_)
      exact qP_some h1
    · exact qP_none
theorem fr_X18_leave_L2 (n : Nat) {N : Nat} {i1 : Int} {M M0 : qm} (h : Fg 123948129592567912409506412465344914211498333017406470840844570186209662951476966863884453693986867075820867527475596361728 M0 M) : qP (qf_X18_leave_L2 N n i1 M) (pU (fun r => Fg 123948129592567912409506412465344914211498333017406470840844570186209662951476966863884453693986867075820867527475596361728 M0 r.2) (fun r => Fg 123948129592567912409506412465344914211498333017406470840844570186209662951476966863884453693986867075820867527475596361728 M0 r.2)) := by
  unfold qf_X18_leave_L2
  exact qP_loop (I := fun s => Fg 123948129592567912409506412465344914211498333017406470840844570186209662951476966863884453693986867075820867527475596361728 M0 s.2) (fun s hs => fr_X18_leave_L2_b hs) n _ h
theorem fr_X18_leave_L23_b {N : Nat} {i1 : Int} {M M0 : qm} (h : Fg 123948129592567912409506412465344914211498333017406470840844570186209662951476966863884453693986867075820867527475596361728 M0 M) : qP (qf_X18_leave_L23_b N i1 M) (pU (pU (fun r => Fg 123948129592567912409506412465344914211498333017406470840844570186209662951476966863884453693986867075820867527475596361728 M0 r.2) (fun r => Fg 123948129592567912409506412465344914211498333017406470840844570186209662951476966863884453693986867075820867527475596361728 M0 r.2)) (fun r => Fg 123948129592567912409506412465344914211498333017406470840844570186209662951476966863884453693986867075820867527475596361728 M0 r.2)) := by
  unfold qf_X18_leave_L23_b
  refine qP_ite ?_ ?_
  · exact qP_some h
  · refine qP_ite ?_ ?_
    · refine qP_bnd (m0 := _) (Fg_wa (k := 405) h rfl rfl) (fun M1 h1 => ?_)
      exact qP_some h1
    · exact qP_none
theorem fr_X18_leave_L23 (n : Nat) {N : Nat} {i1 : Int} {M M0 : qm} (h : Fg 123948129592567912409506412465344914211498333017406470840844570186209662951476966863884453693986867075820867527475596361728 M0 M) : qP (qf_X18_leave_L23 N n i1 M) (pU (fun r => Fg 123948129592567912409506412465344914211498333017406470840844570186209662951476966863884453693986867075820867527475596361728 M0 r.2) (fun r => Fg 123948129592567912409506412465344914211498333017406470840844570186209662951476966863884453693986867075820867527475596361728 M0 r.2)) := by
  unfold qf_X18_leave_L23
  exact qP_loop (I := fun s => Fg 123948129592567912409506412465344914211498333017406470840844570186209662951476966863884453693986867075820867527475596361728 M0 s.2) (fun s hs => fr_X18_leave_L23_b hs) n _ h
theorem fr_X18_goesThrough_L15_b {N : Nat} {i1 i2 i4 i5 : Int} {M M0 : qm} (h : Fg 41315998049390537434494706752048189989275292685267576205290549704650361952269459114074325652482205302974450751563959894016 M0 M) : qP (qf_X18_goesThrough_L15_b N i1 i2 i4 i5 M) (pU (pU (fun r => Fg 41315998049390537434494706752048189989275292685267576205290549704650361952269459114074325652482205302974450751563959894016 M0 r.2) (fun r => Fg 41315998049390537434494706752048189989275292685267576205290549704650361952269459114074325652482205302974450751563959894016 M0 r.2)) (fun r => Fg 41315998049390537434494706752048189989275292685267576205290549704650361952269459114074325652482205302974450751563959894016 M0 r.2.2.2.2)) := by
  unfold qf_X18_goesThrough_L15_b
  refine qP_ite ?_ ?_
  · exact qP_some h
  · refine qP_ite ?_ ?_
    · refine qP_ite ?_ ?_
      · exact qP_some h
      · refine qP_pure (fun r1 => ?_)
        refine qP_ite ?_ ?_
        · exact qP_some h
        · refine qP_ite ?_ ?_
          · refine qP_ite ?_ ?_
            · refine qP_ite ?_ ?_
              · exact qP_some h
              · refine qP_ite ?_ ?_
                · refine qP_ite ?_ ?_
                  · refine qP_bnd (m0 := _) (Fg_wa (k := 404) h rfl rfl) (fun M2 h2 => ?_)
                    exact qP_some h2
                  · exact qP_none
                · exact qP_none
            · exact qP_none
          · exact qP_none
    · exact qP_none
theorem fr_X18_goesThrough_L15 (n : Nat) {N : Nat} {i1 i2 i4 i5 : Int} {M M0 : qm} (h : Fg 41315998049390537434494706752048189989275292685267576205290549704650361952269459114074325652482205302974450751563959894016 M0 M) : qP (qf_X18_goesThrough_L15 N n i1 i2 i4 i5 M) (pU (fun r => Fg 41315998049390537434494706752048189989275292685267576205290549704650361952269459114074325652482205302974450751563959894016 M0 r.2) (fun r => Fg 41315998049390537434494706752048189989275292685267576205290549704650361952269459114074325652482205302974450751563959894016 M0 r.2)) := by
  unfold qf_X18_goesThrough_L15
  exact qP_loop (I := fun s => Fg 41315998049390537434494706752048189989275292685267576205290549704650361952269459114074325652482205302974450751563959894016 M0 s.2.2.2.2) (fun s hs => fr_X18_goesThrough_L15_b hs) n _ h
theorem fr_X18_goesThrough_J108 {N : Nat} {i4 : Int} {M M0 : qm} (h : Fg 41315998049390537434494706752048189989275292685267576205290549704650361952269459114074325652482205302974450751563959894016 M0 M) : qP (qf_X18_goesThrough_J108 N i4 M) (fun r => Fg 41315998049390537434494706752048189989275292685267576205290549704650361952269459114074325652482205302974450751563959894016 M0 r.2) := by
  unfold qf_X18_goesThrough_J108
  refine qP_ite ?_ ?_
  · exact qP_some h
  · exact qP_some h
theorem fr_X18_goesThrough {N : Nat} {i1 i2 i3 : Int} {M M0 : qm} (h : Fg 41315998049390537434494706752048189989275292685267576205290549704650361952269459114074325652482205302974450751563959894016 M0 M) : qP (qf_X18_goesThrough N i1 i2 i3 M) (fun r => Fg 41315998049390537434494706752048189989275292685267576205290549704650361952269459114074325652482205302974450751563959894016 M0 r.2) := by
  unfold qf_X18_goesThrough
  refine qP_pure (fun r1 => ?_)
  refine qP_bind (fr_X18_goesThrough_L15 _ h) (fun r2 k2 => ?_)
  rcases r2 with x2 | x2
  · exact qP_some k2
  · obtain ⟨y2_0, y2_1⟩ := x2
    have h2 : Fg _ _ y2_1 := k2
    exact (fr_X18_goesThrough_J108 h2)
theorem fr_X18_step_J158 {N : Nat} {i1 i2 i3 i4 i5 i6 : Int} {M M0 : qm} (h : Fg 41316133493786837540516998961248534232947747646871318430263470776908939046938048635735802389022456469871966024347676573696 M0 M) : qP (qf_X18_step_J158 N i1 i2 i3 i4 i5 i6 M) (pU (pU (fun r => Fg 41316133493786837540516998961248534232947747646871318430263470776908939046938048635735802389022456469871966024347676573696 M0 r.2) (fun r => Fg 41316133493786837540516998961248534232947747646871318430263470776908939046938048635735802389022456469871966024347676573696 M0 r.2)) (fun r => Fg 41316133493786837540516998961248534232947747646871318430263470776908939046938048635735802389022456469871966024347676573696 M0 r.2.2.2)) := by
  unfold qf_X18_step_J158
  refine qP_ite ?_ ?_
  · refine qP_ite ?_ ?_
    · refine qP_bind (fr_X18_goesThrough Fg_refl) (fun r1 k1 => ?_)
      have h1 := Fg_tr h (Fg_mono k1 rfl)
      refine qP_ite ?_ ?_
      · exact qP_some h1
      · refine qP_ite ?_ ?_
        · refine qP_ite ?_ ?_
          · refine qP_ite ?_ ?_
            · refine qP_bnd (m0 := _) (Fg_wa (k := 380) h1 rfl rfl) (fun M2 h2 => ?_)
              refine qP_ite ?_ ?_
              · refine qP_ite ?_ ?_
                · refine qP_bnd (m0 := _) (Fg_wa (k := 381) h2 rfl rfl) (fun M3 h3 => ?_)
                  refine qP_ite ?_ ?_
                  · refine qP_ite ?_ ?_
                    · refine qP_bnd (m0 := _) (Fg_wa (k := 382) h3 rfl rfl) (fun M4 h4 => ?_)
                      refine qP_ite ?_ ?_
                      · refine qP_ite ?_ ?_
                        · refine qP_bnd (m0 := _) (Fg_wa (k := 384) h4 rfl rfl) (fun M5 h5 => ?_)
                          refine qP_ite ?_ ?_
                          · refine qP_bnd (m0 := _) (Fg_wa (k := 385) h5 rfl rfl) (fun M6 h6 => ?_)
                            exact qP_some h6
                          · exact qP_none
                        · exact qP_none
                      · exact qP_none
                    · exact qP_none
                  · refine qP_ite ?_ ?_
                    · refine qP_bnd (m0 := _) (Fg_wa (k := 382) h3 rfl rfl) (fun M7 h7 => ?_)
                      refine qP_ite ?_ ?_
                      · refine qP_ite ?_ ?_
                        · refine qP_bnd (m0 := _) (Fg_wa (k := 384) h7 rfl rfl) (fun M8 h8 => ?_)
                          refine qP_ite ?_ ?_
                          · refine qP_bnd (m0 := _) (Fg_wa (k := 385) h8 rfl rfl) (fun M9 h9 => ?_)
                            exact qP_some h9
                          · exact qP_none
                        · exact qP_none
                      · exact qP_none
                    · exact qP_none
                · exact qP_none
              · refine qP_ite ?_ ?_
                · refine qP_bnd (m0 := _) (Fg_wa (k := 381) h2 rfl rfl) (fun M10 h10 => ?_)
                  refine qP_ite ?_ ?_
                  · refine qP_ite ?_ ?_
                    · refine qP_bnd (m0 := _) (Fg_wa (k := 382) h10 rfl rfl) (fun M11 h11 => ?_)
                      refine qP_ite ?_ ?_
                      · refine qP_ite ?_ ?_
                        · refine qP_bnd (m0 := _) (Fg_wa (k := 384) h11 rfl rfl) (fun M12 h12 => ?_)
                          refine qP_ite ?_ ?_
                          · refine qP_bnd (m0 := _) (Fg_wa (k := 385) h12 rfl rfl) (fun M13 h13 => ?_)
                            exact qP_some h13
                          · exact qP_none
                        · exact qP_none
                      · exact qP_none
                    · exact qP_none
                  · refine qP_ite ?_ ?_
                    · refine qP_bnd (m0 := _) (Fg_wa (k := 382) h10 rfl rfl) (fun M14 h14 => ?_)
                      refine qP_ite ?_ ?_
                      · refine qP_ite ?_ ?_
                        · refine qP_bnd (m0 := _) (Fg_wa (k := 384) h14 rfl rfl) (fun M15 h15 => ?_)
                          refine qP_ite ?_ ?_
                          · refine qP_bnd (m0 := _) (Fg_wa (k := 385) h15 rfl rfl) (fun M16 h16 => ?_)
                            exact qP_some h16
                          · exact qP_none
                        · exact qP_none
                      · exact qP_none
                    · exact qP_none
                · exact qP_none
            · exact qP_none
          · exact qP_none
        · refine qP_ite ?_ ?_
          · refine qP_bnd (m0 := _) (Fg_wa (k := 380) h1 rfl rfl) (fun M17 h17 => ?_)
            refine qP_ite ?_ ?_
            · refine qP_ite ?_ ?_
              · refine qP_bnd (m0 := _) (Fg_wa (k := 381) h17 rfl rfl) (fun M18 h18 => ?_)
                refine qP_ite ?_ ?_
                · refine qP_ite ?_ ?_
                  · refine qP_bnd (m0 := _) (Fg_wa (k := 382) h18 rfl rfl) (fun M19 h19 => ?_)
                    refine qP_ite ?_ ?_
                    · refine qP_ite ?_ ?_
                      · refine qP_bnd (m0 := _) (Fg_wa (k := 384) h19 rfl rfl) (fun M20 h20 => ?_)
                        refine qP_ite ?_ ?_
                        · refine qP_bnd (m0 := _) (Fg_wa (k := 385) h20 rfl rfl) (fun M21 h21 => ?_)
                          exact qP_some h21
                        · exact qP_none
                      · exact qP_none
                    · exact qP_none
                  · exact qP_none
                · refine qP_ite ?_ ?_
                  · refine qP_bnd (m0 := _) (Fg_wa (k := 382) h18 rfl rfl) (fun M22 h22 => ?_)
                    refine qP_ite ?_ ?_
                    · refine qP_ite ?_ ?_
                      · refine qP_bnd (m0 := _) (Fg_wa (k := 384) h22 rfl rfl) (fun M23 h23 => ?_)
                        refine qP_ite ?_ ?_
                        · refine qP_bnd (m0 := _) (Fg_wa (k := 385) h23 rfl rfl) (fun M24 h24 => ?_)
                          exact qP_some h24
                        · exact qP_none
                      · exact qP_none
                    · exact qP_none
                  · exact qP_none
              · exact qP_none
            · refine qP_ite ?_ ?_
              · refine qP_bnd (m0 := _) (Fg_wa (k := 381) h17 rfl rfl) (fun M25 h25 => ?_)
                refine qP_ite ?_ ?_
                · refine qP_ite ?_ ?_
                  · refine qP_bnd (m0 := _) (Fg_wa (k := 382) h25 rfl rfl) (fun M26 h26 => ?_)
                    refine qP_ite ?_ ?_
                    · refine qP_ite ?_ ?_
                      · refine qP_bnd (m0 := _) (Fg_wa (k := 384) h26 rfl rfl) (fun M27 h27 => ?_)
                        refine qP_ite ?_ ?_
                        · refine qP_bnd (m0 := _) (Fg_wa (k := 385) h27 rfl rfl) (fun M28 h28 => ?_)
                          exact qP_some h28
                        · exact qP_none
                      · exact qP_none
                    · exact qP_none
                  · exact qP_none
                · refine qP_ite ?_ ?_
                  · refine qP_bnd (m0 := _) (Fg_wa (k := 382) h25 rfl rfl) (fun M29 h29 => ?_)
                    refine qP_ite ?_ ?_
                    · refine qP_ite ?_ ?_
                      · refine qP_bnd (m0 := _) (Fg_wa (k := 384) h29 rfl rfl) (fun M30 h30 => ?_)
                        refine qP_ite ?_ ?_
                        · refine qP_bnd (m0 := _) (Fg_wa (k := 385) h30 rfl rfl) (fun M31 h31 => ?_)
                          exact qP_some h31
                        · exact qP_none
                      · exact qP_none
                    · exact qP_none
                  · exact qP_none
              · exact qP_none
          · exact qP_none
    · exact qP_none
  · exact qP_none
theorem fr_X18_step_J125 {N : Nat} {i1 i2 i3 i4 i5 i6 t0 : Int} {M M0 : qm} (h : Fg 41316133493786837540516998961248534232947747646871318430263470776908939046938048635735802389022456469871966024347676573696 M0 M) : qP (qf_X18_step_J125 N i1 i2 i3 i4 i5 i6 t0 M) (pU (pU (fun r => Fg 41316133493786837540516998961248534232947747646871318430263470776908939046938048635735802389022456469871966024347676573696 M0 r.2) (fun r => Fg 41316133493786837540516998961248534232947747646871318430263470776908939046938048635735802389022456469871966024347676573696 M0 r.2)) (fun r => Fg 41316133493786837540516998961248534232947747646871318430263470776908939046938048635735802389022456469871966024347676573696 M0 r.2.2.2)) := by
  unfold qf_X18_step_J125
  refine qP_ite ?_ ?_
  · exact qP_some h
  · refine qP_pure (fun r1 => ?_)
    refine qP_ite ?_ ?_
    · exact (fr_X18_step_J158 h)
    · refine qP_ite ?_ ?_
      · refine qP_ite ?_ ?_
        · exact (fr_X18_step_J158 h)
        · exact qP_some h
      · exact qP_none
theorem fr_X18_step_J124 {N : Nat} {i1 i2 i3 i4 i5 i6 : Int} {M M0 : qm} (h : Fg 41316133493786837540516998961248534232947747646871318430263470776908939046938048635735802389022456469871966024347676573696 M0 M) : qP (qf_X18_step_J124 N i1 i2 i3 i4 i5 i6 M) (pU (pU (fun r => Fg 41316133493786837540516998961248534232947747646871318430263470776908939046938048635735802389022456469871966024347676573696 M0 r.2) (fun r => Fg 41316133493786837540516998961248534232947747646871318430263470776908939046938048635735802389022456469871966024347676573696 M0 r.2)) (fun r => Fg 41316133493786837540516998961248534232947747646871318430263470776908939046938048635735802389022456469871966024347676573696 M0 r.2.2.2)) := by
  unfold qf_X18_step_J124
  exact (fr_X18_step_J125 h)
theorem fr_X18_step_J89 {N : Nat} {i1 i2 i3 i4 i5 i6 t0 : Int} {M M0 : qm} (h : Fg 41316133493786837540516998961248534232947747646871318430263470776908939046938048635735802389022456469871966024347676573696 M0 M) : qP (qf_X18_step_J89 N i1 i2 i3 i4 i5 i6 t0 M) (pU (pU (fun r => Fg 41316133493786837540516998961248534232947747646871318430263470776908939046938048635735802389022456469871966024347676573696 M0 r.2) (fun r => Fg 41316133493786837540516998961248534232947747646871318430263470776908939046938048635735802389022456469871966024347676573696 M0 r.2)) (fun r => Fg 41316133493786837540516998961248534232947747646871318430263470776908939046938048635735802389022456469871966024347676573696 M0 r.2.2.2)) := by
  unfold qf_X18_step_J89
  refine qP_ite ?_ ?_
  · refine qP_ite ?_ ?_
    · exact (fr_X18_step_J124 h)
    · refine qP_ite ?_ ?_
      · exact (fr_X18_step_J124 h)
      · exact (fr_X18_step_J125 h)
  · refine qP_ite ?_ ?_
    · exact (fr_X18_step_J125 h)
    · exact (fr_X18_step_J125 h)
theorem fr_X18_step_L24_b {N : Nat} {i1 i2 i3 : Int} {M M0 : qm} (h : Fg 41316133493786837540516998961248534232947747646871318430263470776908939046938048635735802389022456469871966024347676573696 M0 M) : qP (qf_X18_step_L24_b N i1 i2 i3 M) (pU (pU (fun r => Fg 41316133493786837540516998961248534232947747646871318430263470776908939046938048635735802389022456469871966024347676573696 M0 r.2) (fun r => Fg 41316133493786837540516998961248534232947747646871318430263470776908939046938048635735802389022456469871966024347676573696 M0 r.2)) (fun r => Fg 41316133493786837540516998961248534232947747646871318430263470776908939046938048635735802389022456469871966024347676573696 M0 r.2.2.2)) := by
  unfold qf_X18_step_L24_b
  refine qP_ite ?_ ?_
  · exact qP_some h
  · refine qP_ite ?_ ?_
    · exact qP_some h
    · refine qP_ite ?_ ?_
      · refine qP_pure (fun r1 => ?_)
        refine qP_ite ?_ ?_
        · refine qP_pure (fun r2 => ?_)
          refine qP_pure (fun r3 => ?_)
          refine qP_ite ?_ ?_
          · refine qP_ite ?_ ?_
            · exact (fr_X18_step_J89 h)
            · exact qP_none
          · exact (fr_X18_step_J89 h)
        · exact qP_none
      · exact qP_none
theorem fr_X18_step_L24 (n : Nat) {N : Nat} {i1 i2 i3 : Int} {M M0 : qm} (h : Fg 41316133493786837540516998961248534232947747646871318430263470776908939046938048635735802389022456469871966024347676573696 M0 M) : qP (qf_X18_step_L24 N n i1 i2 i3 M) (pU (fun r => Fg 41316133493786837540516998961248534232947747646871318430263470776908939046938048635735802389022456469871966024347676573696 M0 r.2) (fun r => Fg 41316133493786837540516998961248534232947747646871318430263470776908939046938048635735802389022456469871966024347676573696 M0 r.2)) := by
  unfold qf_X18_step_L24
  exact qP_loop (I := fun s => Fg 41316133493786837540516998961248534232947747646871318430263470776908939046938048635735802389022456469871966024347676573696 M0 s.2.2.2) (fun s hs => fr_X18_step_L24_b hs) n _ h
theorem fr_X18_step {N : Nat} {i1 : Int} {M M0 : qm} (h : Fg 41316133493786837540516998961248534232947747646871318430263470776908939046938048635735802389022456469871966024347676573696 M0 M) : qP (qf_X18_step N i1 M) (fun r => Fg 41316133493786837540516998961248534232947747646871318430263470776908939046938048635735802389022456469871966024347676573696 M0 r.2) := by
  unfold qf_X18_step
  refine qP_ite ?_ ?_
  · refine qP_ite ?_ ?_
    · refine qP_ite ?_ ?_
      · refine qP_bind (fr_X18_step_L24 _ h) (fun r1 k1 => ?_)
        rcases r1 with x1 | x1
        · exact qP_some k1
        · obtain ⟨y1_0, y1_1⟩ := x1
          have h1 : Fg _ _ y1_1 := k1
          exact qP_some h1
      · exact qP_none
    · exact qP_none
  · exact qP_none
theorem fr_X18_leave_L49_b {N : Nat} {i1 : Int} {M M0 : qm} (h : Fg 123948129592567912409506412465344914211498333017406470840844570186209662951476966863884453693986867075820867527475596361728 M0 M) : qP (qf_X18_leave_L49_b N i1 M) (pU (pU (fun r => Fg 123948129592567912409506412465344914211498333017406470840844570186209662951476966863884453693986867075820867527475596361728 M0 r.2) (fun r => Fg 123948129592567912409506412465344914211498333017406470840844570186209662951476966863884453693986867075820867527475596361728 M0 r.2)) (fun r => Fg 123948129592567912409506412465344914211498333017406470840844570186209662951476966863884453693986867075820867527475596361728 M0 r.2)) := by
  unfold qf_X18_leave_L49_b
  refine qP_ite ?_ ?_
  · exact qP_some h
  · refine qP_ite ?_ ?_
    · refine qP_bnd (m0 := _) (Fg_wa (k := 405) h rfl rfl) (fun M1 h1 => ?_)
      refine qP_bind (fr_X18_step Fg_refl) (fun r2 k2 => ?_)
      have h2 := Fg_tr h1 (Fg_mono k2 rfl)
      refine qP_pure (fun r3 => ?_)
      exact qP_some h2
    · exact qP_none
theorem fr_X18_leave_L49 (n : Nat) {N : Nat} {i1 : Int} {M M0 : qm} (h : Fg 123948129592567912409506412465344914211498333017406470840844570186209662951476966863884453693986867075820867527475596361728 M0 M) : qP (qf_X18_leave_L49 N n i1 M) (pU (fun r => Fg 123948129592567912409506412465344914211498333017406470840844570186209662951476966863884453693986867075820867527475596361728 M0 r.2) (fun r => Fg 123948129592567912409506412465344914211498333017406470840844570186209662951476966863884453693986867075820867527475596361728 M0 r.2)) := by
  unfold qf_X18_leave_L49
  exact qP_loop (I := fun s => Fg 123948129592567912409506412465344914211498333017406470840844570186209662951476966863884453693986867075820867527475596361728 M0 s.2) (fun s hs => fr_X18_leave_L49_b hs) n _ h
theorem fr_X18_leave {N : Nat} {M M0 : qm} (h : Fg 123948129592567912409506412465344914211498333017406470840844570186209662951476966863884453693986867075820867527475596361728 M0 M) : qP (qf_X18_leave N M) (fun r => Fg 123948129592567912409506412465344914211498333017406470840844570186209662951476966863884453693986867075820867527475596361728 M0 r.2) := by
  unfold qf_X18_leave
  refine qP_bind (fr_X18_leave_L2 _ h) (fun r1 k1 => ?_)
  rcases r1 with x1 | x1
  · exact qP_some k1
  · obtain ⟨y1_0, y1_1⟩ := x1
    have h1 : Fg _ _ y1_1 := k1
    refine qP_bind (fr_X18_leave_L23 _ h1) (fun r2 k2 => ?_)
    rcases r2 with x2 | x2
    · exact qP_some k2
    · obtain ⟨y2_0, y2_1⟩ := x2
      have h2 : Fg _ _ y2_1 := k2
      refine qP_pure (fun r3 => ?_)
      refine qP_bind (fr_X18_leave_L49 _ h2) (fun r4 k4 => ?_)
      rcases r4 with x4 | x4
      · exact qP_some k4
      · obtain ⟨y4_0, y4_1⟩ := x4
        have h4 : Fg _ _ y4_1 := k4
        exact qP_some h4
theorem fr_X18_second_J46 {N : Nat} {M M0 : qm} (h : Fg 131694898927831736381312881657692929566851318366731015927044283881285592837645214222536593055079764553052742978619786133504 M0 M) : qP (qf_X18_second_J46 N M) (fun r => Fg 131694898927831736381312881657692929566851318366731015927044283881285592837645214222536593055079764553052742978619786133504 M0 r.2) := by
  unfold qf_X18_second_J46
  refine qP_bind (fr_X18_detect Fg_refl) (fun r1 k1 => ?_)
  have h1 := Fg_tr h (Fg_mono k1 rfl)
  refine qP_pure (fun r2 => ?_)
  refine qP_bind (fr_X18_second_L61 _ h1) (fun r3 k3 => ?_)
  rcases r3 with x3 | x3
  · exact qP_some k3
  · obtain ⟨y3_0, y3_1⟩ := x3
    have h3 : Fg _ _ y3_1 := k3
    refine qP_pure (fun r4 => ?_)
    refine qP_bnd (m0 := _) (Fg_wa (k := 305) h3 rfl rfl) (fun M5 h5 => ?_)
    refine qP_pure (fun r6 => ?_)
    refine qP_bnd (m0 := _) (Fg_wa (k := 305) h5 rfl rfl) (fun M7 h7 => ?_)
    refine qP_pure (fun r8 => ?_)
    refine qP_bnd (m0 := _) (Fg_wa (k := 305) h7 rfl rfl) (fun M9 h9 => ?_)
    refine qP_pure (fun r10 => ?_)
    refine qP_bnd (m0 := _) (Fg_wa (k := 305) h9 rfl rfl) (fun M11 h11 => ?_)
    refine qP_bnd (m0 := _) (Fg_w h11 rfl) (fun M12 h12 => ?_)
    refine qP_bind (fr_X17_tick Fg_refl) (fun r13 k13 => ?_)
    have h13 := Fg_tr h12 (Fg_mono k13 rfl)
    refine qP_bind (fr_X18_line_ Fg_refl) (fun r14 k14 => ?_)
    have h14 := Fg_tr h13 (Fg_mono k14 rfl)
    refine qP_bind (fr_X18_second_L186 _ h14) (fun r15 k15 => ?_)
    rcases r15 with x15 | x15
    · exact qP_some k15
    · obtain ⟨y15_0, y15_1⟩ := x15
      have h15 : Fg _ _ y15_1 := k15
      refine qP_pure (fun r16 => ?_)
      refine qP_ite ?_ ?_
      · exact qP_some h15
      · refine qP_bind (fr_X18_leave Fg_refl) (fun r17 k17 => ?_)
        have h17 := Fg_tr h15 (Fg_mono k17 rfl)
        exact qP_some h17
theorem fr_X18_second {N : Nat} {M M0 : qm} (h : Fg 131694898927831736381312881657692929566851318366731015927044283881285592837645214222536593055079764553052742978619786133504 M0 M) : qP (qf_X18_second N M) (fun r => Fg 131694898927831736381312881657692929566851318366731015927044283881285592837645214222536593055079764553052742978619786133504 M0 r.2) := by
  unfold qf_X18_second
  refine qP_bnd (m0 := _) (Fg_w h rfl) (fun M1 h1 => ?_)
  refine qP_bnd (m0 := _) (Fg_w h1 rfl) (fun M2 h2 => ?_)
  refine qP_bnd (m0 := _) (Fg_w h2 rfl) (fun M3 h3 => ?_)
  refine qP_ite ?_ ?_
  · refine qP_bind (fr_X18_spread Fg_refl) (fun r4 k4 => ?_)
    have h4 := Fg_tr h3 (Fg_mono k4 rfl)
    exact (fr_X18_second_J46 h4)
  · exact (fr_X18_second_J46 h3)
theorem fr_X18_pass_L51_b {N : Nat} {i1 i2 : Int} {M M0 : qm} (h : Fg 131694898927831736381312881657692929566851318366731015927044283881285592839106715859867495973283449385769025998275718676480 M0 M) : qP (qf_X18_pass_L51_b N i1 i2 M) (pU (pU (fun r => Fg 131694898927831736381312881657692929566851318366731015927044283881285592839106715859867495973283449385769025998275718676480 M0 r.2) (fun r => Fg 131694898927831736381312881657692929566851318366731015927044283881285592839106715859867495973283449385769025998275718676480 M0 r.2)) (fun r => Fg 131694898927831736381312881657692929566851318366731015927044283881285592839106715859867495973283449385769025998275718676480 M0 r.2.2)) := by
  unfold qf_X18_pass_L51_b
  refine qP_ite ?_ ?_
  · exact qP_some h
  · refine qP_bind (fr_X18_second Fg_refl) (fun r1 k1 => ?_)
    have h1 := Fg_tr h (Fg_mono k1 rfl)
    exact qP_some h1
theorem fr_X18_pass_L51 (n : Nat) {N : Nat} {i1 i2 : Int} {M M0 : qm} (h : Fg 131694898927831736381312881657692929566851318366731015927044283881285592839106715859867495973283449385769025998275718676480 M0 M) : qP (qf_X18_pass_L51 N n i1 i2 M) (pU (fun r => Fg 131694898927831736381312881657692929566851318366731015927044283881285592839106715859867495973283449385769025998275718676480 M0 r.2) (fun r => Fg 131694898927831736381312881657692929566851318366731015927044283881285592839106715859867495973283449385769025998275718676480 M0 r.2)) := by
  unfold qf_X18_pass_L51
  exact qP_loop (I := fun s => Fg 131694898927831736381312881657692929566851318366731015927044283881285592839106715859867495973283449385769025998275718676480 M0 s.2.2) (fun s hs => fr_X18_pass_L51_b hs) n _ h
theorem fr_X18_pass_J41 {N : Nat} {i1 t1 t2 : Int} {M M0 : qm} (h : Fg 131694898927831736381312881657692929566851318366731015927044283881285592839106715859867495973283449385769025998275718676480 M0 M) : qP (qf_X18_pass_J41 N i1 t1 t2 M) (fun r => Fg 131694898927831736381312881657692929566851318366731015927044283881285592839106715859867495973283449385769025998275718676480 M0 r.2) := by
  unfold qf_X18_pass_J41
  refine qP_bind (fr_X18_goes Fg_refl) (fun r1 k1 => ?_)
  have h1 := Fg_tr h (Fg_mono k1 rfl)
  refine qP_ite ?_ ?_
  · exact qP_some h1
  · refine qP_bind (fr_X18_pass_L51 _ h1) (fun r2 k2 => ?_)
    rcases r2 with x2 | x2
    · exact qP_some k2
    · obtain ⟨y2_0, y2_1⟩ := x2
      have h2 : Fg _ _ y2_1 := k2
      exact qP_some h2
theorem fr_X18_pass_J40 {N : Nat} {i1 t1 : Int} {M M0 : qm} (h : Fg 131694898927831736381312881657692929566851318366731015927044283881285592839106715859867495973283449385769025998275718676480 M0 M) : qP (qf_X18_pass_J40 N i1 t1 M) (fun r => Fg 131694898927831736381312881657692929566851318366731015927044283881285592839106715859867495973283449385769025998275718676480 M0 r.2) := by
  unfold qf_X18_pass_J40
  exact (fr_X18_pass_J41 h)
theorem fr_X18_pass_J17 {N : Nat} {i1 t1 : Int} {M M0 : qm} (h : Fg 131694898927831736381312881657692929566851318366731015927044283881285592839106715859867495973283449385769025998275718676480 M0 M) : qP (qf_X18_pass_J17 N i1 t1 M) (fun r => Fg 131694898927831736381312881657692929566851318366731015927044283881285592839106715859867495973283449385769025998275718676480 M0 r.2) := by
  unfold qf_X18_pass_J17
  refine qP_ite ?_ ?_
  · exact (fr_X18_pass_J40 h)
  · refine qP_ite ?_ ?_
    · exact (fr_X18_pass_J40 h)
    · exact (fr_X18_pass_J41 h)
theorem fr_X18_pass_J16 {N : Nat} {i1 : Int} {M M0 : qm} (h : Fg 131694898927831736381312881657692929566851318366731015927044283881285592839106715859867495973283449385769025998275718676480 M0 M) : qP (qf_X18_pass_J16 N i1 M) (fun r => Fg 131694898927831736381312881657692929566851318366731015927044283881285592839106715859867495973283449385769025998275718676480 M0 r.2) := by
  unfold qf_X18_pass_J16
  exact (fr_X18_pass_J17 h)
theorem fr_X18_pass {N : Nat} {i1 : Int} {M M0 : qm} (h : Fg 131694898927831736381312881657692929566851318366731015927044283881285592839106715859867495973283449385769025998275718676480 M0 M) : qP (qf_X18_pass N i1 M) (fun r => Fg 131694898927831736381312881657692929566851318366731015927044283881285592839106715859867495973283449385769025998275718676480 M0 r.2) := by
  unfold qf_X18_pass
  refine qP_ite ?_ ?_
  · exact (fr_X18_pass_J16 h)
  · refine qP_ite ?_ ?_
    · exact (fr_X18_pass_J16 h)
    · exact (fr_X18_pass_J17 h)
theorem fr_L_told {N : Nat} {i1 : Int} {M M0 : qm} (h : Fg 165263992197562149737978827008192759957101170741070304821162198818601447809077836456297302609928821211897803006255839576064 M0 M) : qP (qf_L_told N i1 M) (fun r => Fg 165263992197562149737978827008192759957101170741070304821162198818601447809077836456297302609928821211897803006255839576064 M0 r.2) := by
  unfold qf_L_told
  refine qP_pure (fun r1 => ?_)
  rcases r1 with x2 | x2
  · refine qP_bnd (m0 := _) (Fg_wa (k := 406) h rfl rfl) (fun M3 h3 => ?_)
    exact qP_some h3
  · refine qP_ite ?_ ?_
    · exact qP_some h
    · refine qP_ite ?_ ?_
      · exact qP_some h
      · exact qP_none
theorem fr_X18_told_J78 {N : Nat} {M M0 : qm} (h : Fg 1461501637330902918203684832716283019655932542976 M0 M) : qP (qf_X18_told_J78 N M) (fun r => Fg 1461501637330902918203684832716283019655932542976 M0 r.2) := by
  unfold qf_X18_told_J78
  refine qP_pure (fun r1 => ?_)
  exact qP_some h
theorem fr_X18_told_J87 {N : Nat} {M M0 : qm} (h : Fg 1461501637330902918203684832716283019655932542976 M0 M) : qP (qf_X18_told_J87 N M) (fun r => Fg 1461501637330902918203684832716283019655932542976 M0 r.2) := by
  unfold qf_X18_told_J87
  refine qP_pure (fun r1 => ?_)
  exact qP_some h
theorem fr_X18_told_J93 {N : Nat} {M M0 : qm} (h : Fg 1461501637330902918203684832716283019655932542976 M0 M) : qP (qf_X18_told_J93 N M) (fun r => Fg 1461501637330902918203684832716283019655932542976 M0 r.2) := by
  unfold qf_X18_told_J93
  refine qP_pure (fun r1 => ?_)
  exact qP_some h
theorem fr_X18_told_J101 {N : Nat} {M M0 : qm} (h : Fg 1461501637330902918203684832716283019655932542976 M0 M) : qP (qf_X18_told_J101 N M) (fun r => Fg 1461501637330902918203684832716283019655932542976 M0 r.2) := by
  unfold qf_X18_told_J101
  refine qP_pure (fun r1 => ?_)
  refine qP_ite ?_ ?_
  · exact qP_some h
  · exact qP_some h
theorem fr_X18_told_J114 {N : Nat} {M M0 : qm} (h : Fg 1461501637330902918203684832716283019655932542976 M0 M) : qP (qf_X18_told_J114 N M) (fun r => Fg 1461501637330902918203684832716283019655932542976 M0 r.2) := by
  unfold qf_X18_told_J114
  refine qP_pure (fun r1 => ?_)
  refine qP_ite ?_ ?_
  · exact qP_some h
  · exact qP_some h
theorem fr_X18_told_J131 {N : Nat} {M M0 : qm} (h : Fg 1461501637330902918203684832716283019655932542976 M0 M) : qP (qf_X18_told_J131 N M) (fun r => Fg 1461501637330902918203684832716283019655932542976 M0 r.2) := by
  unfold qf_X18_told_J131
  refine qP_pure (fun r1 => ?_)
  refine qP_ite ?_ ?_
  · exact qP_some h
  · exact qP_some h
theorem fr_X18_told {N : Nat} {i1 : Int} {M M0 : qm} (h : Fg 1461501637330902918203684832716283019655932542976 M0 M) : qP (qf_X18_told N i1 M) (fun r => Fg 1461501637330902918203684832716283019655932542976 M0 r.2) := by
  unfold qf_X18_told
  refine qP_pure (fun r1 => ?_)
  refine qP_bind (fr_X18_goes Fg_refl) (fun r2 k2 => ?_)
  have h2 := Fg_tr h (Fg_mono k2 rfl)
  refine qP_ite ?_ ?_
  · exact qP_some h2
  · refine qP_ite ?_ ?_
    · exact qP_some h2
    · refine qP_ite ?_ ?_
      · refine qP_pure (fun r3 => ?_)
        exact qP_some h2
      · refine qP_ite ?_ ?_
        · exact (fr_X18_told_J78 h2)
        · refine qP_ite ?_ ?_
          · exact (fr_X18_told_J87 h2)
          · refine qP_ite ?_ ?_
            · exact (fr_X18_told_J93 h2)
            · refine qP_ite ?_ ?_
              · exact (fr_X18_told_J101 h2)
              · refine qP_ite ?_ ?_
                · exact (fr_X18_told_J114 h2)
                · refine qP_ite ?_ ?_
                  · exact (fr_X18_told_J131 h2)
                  · exact qP_some h2
