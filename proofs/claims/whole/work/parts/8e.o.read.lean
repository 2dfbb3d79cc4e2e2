/-! ===== the matrix text: it is read ===== -/
section MTl
variable {M K A W Z A' Z' X Y B : qm} {T bg en : Int → Int} {L p q e k i j x y z c n w s v C D r lo hi t P a J V i1 i2 i3 i4 : Int} {m N G : Nat}
/-- the reference's latch bits are bits -/
def LAT (K : qm) : Prop := ∀ i, 20 ≤ i → i < 40 → K 2223 i 0 = 0 ∨ K 2223 i 0 = 1
theorem lat_fr (f : Fg G Z Y) (hg : G.testBit 279 = false) (h : LAT Z) : LAT Y := fun i i0 i1 => by
  rw [f 2223 i 0 (by rw [show ky 2223 i = 279 from rfl]; exact hg)]
  exact h i i0 i1
theorem lat_call {α : Type} {x : Option (α × qm)} (hx : qP x (fun r => Fg G Z r.2)) (hg : G.testBit 279 = false) (h : LAT Z) : qP x (fun r => LAT r.2) := qP_mono hx (fun _ z => lat_fr z hg h)
theorem lat_w {b : Nat} (h : LAT Z) (n : b ≠ 2223) : LAT (qw Z b x y v) := fun i i0 i1 => by
  rw [qw_a (Ne.symm n)]
  exact h i i0 i1
theorem lat_s (h : LAT Z) (hv : v = 0 ∨ v = 1) : LAT (qw Z 2223 x 0 v) := fun i i0 i1 => by
  rw [qw_ap]
  by_cases g : 2223 = 2223 ∧ i = x ∧ (0 : Int) = 0
  · rw [if_pos g]
    exact hv
  · rw [if_neg g]
    exact h i i0 i1
theorem lat_a33 (h : LAT Z) : qP (qf_X14_readAct_J33 20000 i1 t Z) (fun r => LAT r.2) := by
  unfold qf_X14_readAct_J33 qbnd
  refine qP_bind (lat_call (fr_X14_want Fg_refl) rfl h) (fun r1 h1 => qP_ite (qP_some h1) ?_)
  refine qP_bind (lat_call (fr_X14_take Fg_refl) rfl (lat_w h1 (by decide))) (fun r2 h2 => ?_)
  refine qP_bind (lat_call (fr_X14_takeNumber Fg_refl) rfl h2) (fun r3 h3 => qP_ite ?_ qP_none)
  refine qP_bind (lat_call (fr_X14_take Fg_refl) rfl (lat_w h3 (by decide))) (fun r4 h4 => ?_)
  refine qP_bind (lat_call (fr_X14_takeNumber Fg_refl) rfl h4) (fun r5 h5 => qP_ite ?_ qP_none)
  refine qP_bind (lat_call (fr_X14_take Fg_refl) rfl (lat_w h5 (by decide))) (fun r6 h6 => ?_)
  refine qP_bind (lat_call (fr_X14_takeNumber Fg_refl) rfl h6) (fun r7 h7 => qP_ite ?_ qP_none)
  refine qP_bind (lat_call (fr_X14_takeStop Fg_refl) rfl (lat_w h7 (by decide))) (fun r8 h8 => qP_ite (qP_ite (qP_some ?_) qP_none) qP_none)
  exact lat_s (lat_w h8 (by decide)) (Or.inl rfl)
theorem lat_act (h : LAT Z) : qP (qf_X14_readAct 20000 Z) (fun r => LAT r.2) := by
  unfold qf_X14_readAct
  exact qP_bind (lat_call (fr_X14_look Fg_refl) rfl h) (fun r1 h1 => qP_ite (qP_some h1) (qP_ite (qP_ite (lat_a33 h1) (lat_a33 h1)) qP_none))
theorem lat_h61 (h : LAT Z) : qP (qf_X14_readHold_J61 20000 i1 Z) (fun r => LAT r.2) := by
  unfold qf_X14_readHold_J61 qbnd
  exact qP_bind (lat_call (fr_X14_takeStop Fg_refl) rfl h) (fun r1 h1 => qP_ite (qP_some h1) (qP_ite (qP_some (lat_s h1 (Or.inr rfl))) qP_none))
theorem lat_h45 (h : LAT Z) : qP (qf_X14_readHold_J45 20000 i1 t Z) (fun r => LAT r.2) := by
  unfold qf_X14_readHold_J45 qbnd
  exact qP_bind (lat_call (fr_X14_want Fg_refl) rfl h) (fun r1 h1 => qP_ite (lat_h61 h1) (lat_h61 (lat_w h1 (by decide))))
theorem lat_hold (h : LAT Z) : qP (qf_X14_readHold 20000 Z) (fun r => LAT r.2) := by
  unfold qf_X14_readHold qf_X14_readHold_J44
  exact qP_bind (lat_call (fr_X14_look Fg_refl) rfl h) (fun r1 h1 => qP_ite (lat_h61 h1) (qP_ite (qP_ite (lat_h45 h1) (qP_ite (qP_ite (lat_h45 h1) (lat_h45 h1)) qP_none)) qP_none))
theorem lat_s73 (h : LAT Z) : qP (qf_X14_readSentence_J73 20000 t Z) (fun r => LAT r.2) := by
  unfold qf_X14_readSentence_J73 qbnd
  exact qP_bind (lat_call (fr_X14_want Fg_refl) rfl h) (fun r1 h1 => qP_ite (qP_some h1) (qP_bind (lat_call (fr_X14_readRow Fg_refl) rfl (lat_w h1 (by decide))) (fun r2 h2 => qP_some h2)))
theorem lat_sent (h : LAT Z) : qP (qf_X14_readSentence 20000 Z) (fun r => LAT r.2) := by
  unfold qf_X14_readSentence qbnd
  refine qP_pure (fun l => ?_)
  refine qP_ite (qP_bind (lat_call (fr_X14_readZone Fg_refl) rfl (lat_w h (by decide))) (fun r2 h2 => qP_some h2)) (qP_ite (qP_bind (lat_act (lat_w h (by decide))) (fun r2 h2 => qP_some h2)) (qP_ite (qP_ite (lat_s73 h) (lat_s73 h)) ?_))
  exact qP_bind (lat_call (fr_X14_take Fg_refl) rfl h) (fun r1 h1 => qP_ite (qP_some h1) (qP_bind (lat_hold h1) (fun r2 h2 => qP_some h2)))
theorem lat_l48 (h : LAT Z) : qP (qf_X14_read_L48 20000 m Z) (pU (fun r => LAT r.2) (fun r => LAT r.2)) := by
  unfold qf_X14_read_L48
  refine qP_loop (I := LAT) (fun s hs => ?_) m Z h
  unfold qf_X14_read_L48_b
  exact qP_ite (qP_some hs) (qP_ite (qP_some hs) (qP_bind (lat_sent hs) (fun r2 h2 => qP_some h2)))
theorem forget_C : ∃ B, qf_X5_forgetTables 20000 A = some ((), B) ∧ B 908 12 0 = 0 ∧ (∀ z y, 0 ≤ z → z < 20 → 0 ≤ y → y < 14 → B 910 z y = 0) ∧ (∀ z y, 0 ≤ z → z < 20 → 0 ≤ y → y < 5 → B 931 z y = 0) ∧ ∀ b x y, ¬ (b = 908 ∧ x = 12) → b ≠ 910 → b ≠ 931 → B b x y = A b x y := by
  obtain ⟨X, hX⟩ : ∃ X, qw A 908 12 0 0 = X := ⟨_, rfl⟩
  have fX : ∀ b x y, ¬ (b = 908 ∧ x = 12) → X b x y = A b x y := fun b x y z => by rw [← hX, qw_ap, if_neg (by omega)]
  have X12 : X 908 12 0 = 0 := by rw [← hX]; exact qw_s
  obtain ⟨o, e1, Y, rfl, y1, y2⟩ : qW (qf_X5_forgetTables_L7 20000 20000 0 X) (fun o => ∃ W, o = .inr ((), W) ∧ (∀ z y, 0 ≤ z → z < 20 → 0 ≤ y → y < 14 → W 910 z y = 0) ∧ ∀ b x y, b ≠ 910 → W b x y = X b x y) := by
    unfold qf_X5_forgetTables_L7
    refine qW_for 20 (fun i s => ∃ W, s = (i, W) ∧ (∀ z y, 0 ≤ z → z < i → 0 ≤ y → y < 14 → W 910 z y = 0) ∧ ∀ b x y, b ≠ 910 → W b x y = X b x y) ?_ ?_ ⟨X, rfl, fun z y z0 z1 => by omega, fun _ _ _ _ => rfl⟩ (by omega) (by omega)
    · rintro i _ i0 i1 ⟨W, rfl, h1, h2⟩
      unfold qf_X5_forgetTables_L7_b qbnd
      (try dsimp only)
      rw [if_neg (by omega), if_pos ⟨i0, i1⟩, w32_id (x := i + 1) (by omega) (by omega)]
      refine qW_some ⟨_, rfl, fun z y z0 z1 y0 y1 => ?_, fun b x y z => ?_⟩
      · rw [qfl2_ap]
        by_cases ez : z = i
        · rw [if_pos (by omega)]
        · rw [if_neg (by omega)]
          exact h1 z y z0 (by omega) y0 y1
      · rw [qfl2_ap, if_neg (by omega)]
        exact h2 b x y z
    · rintro _ ⟨W, rfl, h1, h2⟩
      unfold qf_X5_forgetTables_L7_b
      (try dsimp only)
      rw [if_pos (by omega)]
      exact qW_some ⟨W, rfl, h1, h2⟩
  obtain ⟨o, e2, B, rfl, b1, b2⟩ : qW (qf_X5_forgetTables_L31 20000 20000 0 Y) (fun o => ∃ W, o = .inr ((), W) ∧ (∀ z y, 0 ≤ z → z < 20 → 0 ≤ y → y < 5 → W 931 z y = 0) ∧ ∀ b x y, b ≠ 931 → W b x y = Y b x y) := by
    unfold qf_X5_forgetTables_L31
    refine qW_for 20 (fun i s => ∃ W, s = (i, W) ∧ (∀ z y, 0 ≤ z → z < i → 0 ≤ y → y < 5 → W 931 z y = 0) ∧ ∀ b x y, b ≠ 931 → W b x y = Y b x y) ?_ ?_ ⟨Y, rfl, fun z y z0 z1 => by omega, fun _ _ _ _ => rfl⟩ (by omega) (by omega)
    · rintro i _ i0 i1 ⟨W, rfl, h1, h2⟩
      unfold qf_X5_forgetTables_L31_b qbnd
      (try dsimp only)
      rw [if_neg (by omega), if_pos ⟨i0, i1⟩, w32_id (x := i + 1) (by omega) (by omega)]
      refine qW_some ⟨_, rfl, fun z y z0 z1 y0 y1 => ?_, fun b x y z => ?_⟩
      · rw [qfl2_ap]
        by_cases ez : z = i
        · rw [if_pos (by omega)]
        · rw [if_neg (by omega)]
          exact h1 z y z0 (by omega) y0 y1
      · rw [qfl2_ap, if_neg (by omega)]
        exact h2 b x y z
    · rintro _ ⟨W, rfl, h1, h2⟩
      unfold qf_X5_forgetTables_L31_b
      (try dsimp only)
      rw [if_pos (by omega)]
      exact qW_some ⟨W, rfl, h1, h2⟩
  refine ⟨B, ?_, ?_, fun z y z0 z1 y0 y9 => ?_, b1, fun b x y z1 z2 z3 => ?_⟩
  · unfold qf_X5_forgetTables qbnd
    rw [hX]
    (try dsimp only)
    rw [e1]
    simp only [Option.bind_some]
    rw [e2]
    rfl
  · rw [b2 _ _ _ (by omega), y2 _ _ _ (by omega)]
    exact X12
  · rw [b2 _ _ _ (by omega)]
    exact y1 z y z0 z1 y0 y9
  · rw [b2 b x y z3, y2 b x y z2]
    exact fX b x y z1
theorem l22_K : ∃ Y, qf_X14_read_L22 20000 20000 20 Z = some (.inr ((), Y)) ∧ (∀ i, 20 ≤ i → i < 40 → Y 2215 i 0 = 0 ∧ Y 2219 i 0 = 0) ∧ ∀ b x y, ¬ ((b = 2215 ∨ b = 2219) ∧ 20 ≤ x) → Y b x y = Z b x y := by
  obtain ⟨o, e1, Y, rfl, y1, y2⟩ : qW (qf_X14_read_L22 20000 20000 20 Z) (fun o => ∃ W, o = .inr ((), W) ∧ (∀ i, 20 ≤ i → i < 40 → W 2215 i 0 = 0 ∧ W 2219 i 0 = 0) ∧ ∀ b x y, ¬ ((b = 2215 ∨ b = 2219) ∧ 20 ≤ x) → W b x y = Z b x y) := by
    unfold qf_X14_read_L22
    refine qW_for 20 (fun i s => ∃ W, s = (20 + i, W) ∧ (∀ k, 20 ≤ k → k < 20 + i → W 2215 k 0 = 0 ∧ W 2219 k 0 = 0) ∧ ∀ b x y, ¬ ((b = 2215 ∨ b = 2219) ∧ 20 ≤ x) → W b x y = Z b x y) ?_ ?_ ⟨Z, rfl, fun k k0 k1 => by omega, fun _ _ _ _ => rfl⟩ (by omega) (by omega)
    · rintro i _ i0 i1 ⟨W, rfl, h1, h2⟩
      unfold qf_X14_read_L22_b qbnd
      (try dsimp only)
      rw [if_neg (by omega)]
      simp only [if_pos (show 0 ≤ 20 + i ∧ 20 + i < 40 by omega)]
      rw [w32_id (x := 20 + i + 1) (by omega) (by omega), show 20 + i + 1 = 20 + (i + 1) by omega]
      refine qW_some ⟨_, rfl, fun k k0 k1 => ?_, fun b x y z => ?_⟩
      · by_cases ek : k = 20 + i
        · rw [ek]
          exact ⟨(qw_a (by decide)).trans qw_s, qw_s⟩
        · rw [qw_a (by decide), qw_i ek, qw_i ek, qw_a (by decide)]
          exact h1 k k0 (by omega)
      · rw [qw_ap, if_neg (by omega), qw_ap, if_neg (by omega)]
        exact h2 b x y z
    · rintro _ ⟨W, rfl, h1, h2⟩
      unfold qf_X14_read_L22_b
      (try dsimp only)
      rw [if_pos (by omega)]
      exact qW_some ⟨W, rfl, fun k k0 k1 => h1 k k0 (by omega), h2⟩
  exact ⟨Y, e1, y1, y2⟩
def MRC (M A : qm) : Prop := ∀ b x y, ¬ (b = 908 ∧ ((3 ≤ x ∧ x ≤ 8) ∨ x = 12)) → b ≠ 910 → b ≠ 931 → b ≠ 952 → A b x y = M b x y
def MRK (K Z : qm) : Prop := ∀ b x y, ¬ (b = 2208 ∧ (x = 7 ∨ x = 10 ∨ x = 11 ∨ x = 22)) → b ≠ 2213 → b ≠ 2214 → ¬ ((b = 2215 ∨ b = 2216 ∨ b = 2217 ∨ (2219 ≤ b ∧ b ≤ 2223)) ∧ 20 ≤ x) → ¬ (b = 2218 ∧ 240 ≤ x) → ¬ (2224 ≤ b ∧ b ≤ 2226 ∧ 50 ≤ x) → Z b x y = K b x y
theorem read_both (h_mtextn : R_mtextn M K) (h_mtext : R_mtext M K) (hP : K 2208 0 0 = P) (P0 : 0 ≤ P) (P1 : P ≤ 50) (hL : LAT K) : ∃ A Z, MRC M A ∧ MRK K Z ∧ LAT Z ∧ qf_X14_read 20000 K = qf_X14_read_J73 20000 Z ∧ ((qf_X5_readSentences 20000 P M = some (0, A) ∧ ∃ w, 0 ≤ w ∧ A 908 4 0 = w ∧ Z 2208 11 0 = w) ∨ (qf_X5_readSentences 20000 P M = some (1, A) ∧ Z 2208 11 0 = -1 ∧ TBL P A Z)) := by
  obtain ⟨L0, L1, hS, _⟩ := h_mtextn
  obtain ⟨L, eL⟩ : ∃ L, M 908 1 0 = L := ⟨_, rfl⟩
  rw [eL] at L0 L1 hS
  have hT : ∀ i, 0 ≤ i → i < L → K 2212 i 0 = (fun i => M 909 i 0) i := fun i i0 i1 => (h_mtext i i0 (by rw [eL]; exact i1)).1
  obtain ⟨W, n, e1, fW, w7, hw⟩ := list_K hS hT L0 L1
  -- the reference's start
  obtain ⟨Y, hY⟩ : ∃ Y, qw (qw (qw W 2208 10 0 0) 2208 11 0 (-1)) 2208 22 0 0 = Y := ⟨_, rfl⟩
  have fY : ∀ b x y, ¬ (b = 2208 ∧ (x = 10 ∨ x = 11 ∨ x = 22)) → Y b x y = W b x y := fun b x y z => by
    rw [← hY, qw_ap, if_neg (by omega), qw_ap, if_neg (by omega), qw_ap, if_neg (by omega)]
  have Y22 : Y 2208 22 0 = 0 := by rw [← hY]; exact qw_s
  have Y11 : Y 2208 11 0 = -1 := by rw [← hY, qw_i (by decide)]; exact qw_s
  have Y10 : Y 2208 10 0 = 0 := by rw [← hY, qw_i (by decide), qw_i (by decide)]; exact qw_s
  obtain ⟨Z, e2, z1, z2⟩ := l22_K (Z := Y)
  have fZ : ∀ b x y, ¬ (b = 2208 ∧ (x = 7 ∨ x = 10 ∨ x = 11 ∨ x = 22)) → b ≠ 2213 → b ≠ 2214 → ¬ ((b = 2215 ∨ b = 2219) ∧ 20 ≤ x) → Z b x y = K b x y := fun b x y q1 q2 q3 q4 => by
    rw [z2 b x y q4, fY b x y (by omega)]
    exact fW b x y (by omega) q2 q3
  have lZ : LAT Z := fun i i0 i1 => by
    rw [fZ 2223 i 0 (by omega) (by omega) (by omega) (by omega)]
    exact hL i i0 i1
  have n0 := hw.2.2.1
  have nL := hw.2.2.2.1
  have kZ : KSX (fun i => M 909 i 0) L n (fun j => W 2213 j 0) (fun j => W 2214 j 0) 0 (-1) Z := by
    refine ⟨?_, ?_, ?_, Int.le_refl _, n0, fun i i0 i1 => ⟨?_, ?_⟩, fun i i0 i1 => ?_⟩
    · rw [z2 _ _ _ (by omega), fY _ _ _ (by omega)]
      exact w7
    · rw [z2 _ _ _ (by omega)]
      exact Y10
    · rw [z2 _ _ _ (by omega)]
      exact Y11
    · rw [z2 _ _ _ (by omega), fY _ _ _ (by omega)]
    · rw [z2 _ _ _ (by omega), fY _ _ _ (by omega)]
    · rw [fZ _ _ _ (by omega) (by omega) (by omega) (by omega)]
      exact hT i i0 i1
  -- the class's start
  obtain ⟨M1, hM1⟩ : ∃ M1, qw M 908 3 0 P = M1 := ⟨_, rfl⟩
  have fM1 : ∀ b x y, ¬ (b = 908 ∧ x = 3) → M1 b x y = M b x y := fun b x y z => by rw [← hM1, qw_ap, if_neg (by omega)]
  obtain ⟨B, e3, b1, b2, b3, b4⟩ := forget_C (A := M1)
  obtain ⟨C, hC⟩ : ∃ C, qw (qw B 908 4 0 (-1)) 908 7 0 0 = C := ⟨_, rfl⟩
  have fC : ∀ b x y, ¬ (b = 908 ∧ (x = 4 ∨ x = 7)) → C b x y = B b x y := fun b x y z => by rw [← hC, qw_ap, if_neg (by omega), qw_ap, if_neg (by omega)]
  have fMC : ∀ b x y, ¬ (b = 908 ∧ (x = 3 ∨ x = 4 ∨ x = 7 ∨ x = 12)) → b ≠ 910 → b ≠ 931 → C b x y = M b x y := fun b x y q1 q2 q3 => by
    rw [fC b x y (by omega), b4 b x y (by omega) q2 q3]
    exact fM1 b x y (by omega)
  have C3 : C 908 3 0 = P := by
    rw [fC _ _ _ (by omega), b4 _ _ _ (by omega) (by omega) (by omega), ← hM1]
    exact qw_s
  obtain ⟨D, e4, fD, mD⟩ := mst_nx (j := -1) (A := C) hw (by rw [fMC _ _ _ (by omega) (by omega) (by omega)]; exact eL) (fun i => fMC _ _ _ (by omega) (by omega) (by omega)) (by omega) (by omega) (by rw [← hC, qw_i (by decide)]; exact qw_s) (by rw [if_pos (by decide), ← hC]; exact qw_s)
  rw [show (-1 : Int) + 1 = 0 by decide] at mD
  have tD : TBL P D Z := by
    have D12 : D 908 12 0 = 0 := by rw [fD _ _ _ (by omega), fC _ _ _ (by omega)]; exact b1
    have Z22 : Z 2208 22 0 = 0 := by rw [z2 _ _ _ (by omega)]; exact Y22
    refine ⟨by rw [fD _ _ _ (by omega)]; exact C3, by rw [fZ _ _ _ (by omega) (by omega) (by omega) (by omega)]; exact hP, P0, P1, fun z q0 q1 => Or.inl ⟨?_, ?_, (z1 _ (by omega) (by omega)).1⟩, fun a q0 q1 => Or.inl ⟨?_, ?_, (z1 _ (by omega) (by omega)).2⟩, by rw [D12, Z22], by omega, by omega, fun r r0 r1 => by omega⟩
    · rw [fD _ _ _ (by omega), fC _ _ _ (by omega)]
      exact b2 z 0 q0 q1 (by decide) (by decide)
    · rw [fD _ _ _ (by omega), fC _ _ _ (by omega)]
      exact b2 z 1 q0 q1 (by decide) (by decide)
    · rw [fD _ _ _ (by omega), fC _ _ _ (by omega)]
      exact b3 a 0 q0 q1 (by decide) (by decide)
    · rw [fD _ _ _ (by omega), fC _ _ _ (by omega)]
      exact b3 a 4 q0 q1 (by decide) (by decide)
  obtain ⟨A', Z', r1, r2, r3, r4⟩ := sents_both hw 2000 0 0 D Z 20000 20000 (by omega) (by omega) (by omega) (by omega) (by omega) mD kZ tD
  have lZ' : LAT Z' := lat_l48 lZ _ r1
  refine ⟨A', Z', fun b x y q1 q2 q3 q4 => ?_, fun b x y q1 q2 q3 q4 q5 q6 => ?_, lZ', ?_, ?_⟩
  · rw [r2 b x y (by omega) q2 q3 q4, fD b x y (by omega)]
    exact fMC b x y (by omega) q2 q3
  · rw [r3 b x y (by omega) (by omega) q5 q6]
    exact fZ b x y q1 q2 q3 (by omega)
  · unfold qf_X14_read qbnd
    rw [e1]
    simp only [Option.bind_some]
    rw [hY, e2]
    simp only [Option.bind_some]
    rw [r1]
    rfl
  · have st : ∀ r, qf_X5_readSentences_L25 20000 20000 0 D = some r → qf_X5_readSentences 20000 P M = (match r with | .inl o => some o | .inr (_, M11) => some (1, M11)) := fun r hr => by
      unfold qf_X5_readSentences qbnd
      rw [hM1]
      (try dsimp only)
      rw [e3]
      simp only [Option.bind_some]
      rw [hC, e4]
      simp only [Option.bind_some]
      rw [hr]
      rfl
    rcases r4 with ⟨q1, q2⟩ | ⟨q1, q2, q3⟩
    · exact Or.inl ⟨st _ q1, q2⟩
    · exact Or.inr ⟨st _ q1, q2, q3⟩
end MTl
