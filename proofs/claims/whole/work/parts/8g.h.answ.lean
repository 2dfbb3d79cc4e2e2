/-! ===== the bus: answers begin ===== -/
section BUh
variable {M K M' K' Ka Z A : qm} {a b i j k v w x y s t I β R u : Int} {n m r : Nat} {q p : Int → Int}
/-- the latest telegram is right -/
def RGP (M : qm) : Prop := M 1139 15 0 = 8 + M 1170 5 0 % 128 ∧ M 1170 (M 1139 15 0 - 1) 0 = xrF (fun k => M 1170 k 0) (M 1139 15 0 - 1).toNat
theorem isRight_C (l0 : 8 ≤ M 1139 15 0) (l1 : M 1139 15 0 ≤ 600) (hb : ∀ i, 0 ≤ i → i < M 1139 15 0 → 0 ≤ M 1170 i 0 ∧ M 1170 i 0 < 256) : qf_X1_isLatestRight 20000 M = some (b01 (RGP M)) := by
  obtain ⟨L, hL⟩ : ∃ L, M 1139 15 0 = L := ⟨_, rfl⟩
  rw [hL] at l0 l1 hb
  obtain ⟨o, e1, ho⟩ : qW (qf_X1_isLatestRight_L6 20000 20000 255 0 M) (fun o => o = .inr (xrF (fun k => M 1170 k 0) (L - 1).toNat)) := by
    unfold qf_X1_isLatestRight_L6
    refine qW_for (L - 1) (fun i r => r = (xrF (fun k => M 1170 k 0) i.toNat, i)) ?_ ?_ rfl (by omega) (by omega)
    · intro i r i0 i1 hr
      rw [hr]
      show qW (qf_X1_isLatestRight_L6_b 20000 (xrF (fun k => M 1170 k 0) i.toNat) i M) _
      unfold qf_X1_isLatestRight_L6_b
      rw [hL, w32_id (x := L - 1) (by omega) (by omega), if_neg (show ¬ L - 1 ≤ i by omega), if_pos (show 0 ≤ i ∧ i < 600 by omega), w32_id (x := i + 1) (by omega) (by omega)]
      have ex : xrF (fun k => M 1170 k 0) (i + 1).toNat = bX (xrF (fun k => M 1170 k 0) i.toNat) (M 1170 i 0) := by
        rw [show (i + 1).toNat = i.toNat + 1 by omega]
        show bX (xrF (fun k => M 1170 k 0) i.toNat) (M 1170 ((i.toNat : Nat) : Int) 0) = _
        rw [show ((i.toNat : Nat) : Int) = i by omega]
      rw [← ex]
      exact qW_some rfl
    · intro r hr
      rw [hr]
      show qW (qf_X1_isLatestRight_L6_b 20000 (xrF (fun k => M 1170 k 0) (L - 1).toNat) (L - 1) M) _
      unfold qf_X1_isLatestRight_L6_b
      rw [hL, w32_id (x := L - 1) (by omega) (by omega), if_pos (Int.le_refl _)]
      exact qW_some rfl
  have h5 := hb 5 (by omega) (by omega)
  unfold qf_X1_isLatestRight
  rw [e1, ho]
  simp only [Option.bind_some]
  rw [hL, tm_e h5.1, w32_id (x := 8 + M 1170 5 0 % 128) (by omega) (by omega), w32_id (x := L - 1) (by omega) (by omega)]
  by_cases g : L = 8 + M 1170 5 0 % 128
  · rw [if_pos g, if_pos (show 0 ≤ L - 1 ∧ L - 1 < 600 by omega)]
    by_cases g2 : M 1170 (L - 1) 0 = xrF (fun k => M 1170 k 0) (L - 1).toNat
    · rw [if_pos g2]
      refine congrArg some (b01_t ?_).symm
      unfold RGP
      rw [hL]
      exact ⟨g, g2⟩
    · rw [if_neg g2]
      refine congrArg some (b01_f ?_).symm
      unfold RGP
      rw [hL]
      exact fun z => g2 z.2
  · rw [if_neg g]
    refine congrArg some (b01_f ?_).symm
    unfold RGP
    rw [hL]
    exact fun z => g z.1
/-- the latest telegram on both sides -/
def LTT (M K : qm) (t : Int) : Prop := (0 ≤ M 1139 15 0 ∧ M 1139 15 0 ≤ 600) ∧ K 2252 21 0 = M 1139 15 0 ∧ K 2252 26 0 = M 1139 18 0 ∧ (∀ i, 0 ≤ i → i < M 1139 15 0 → K 2268 i 0 = M 1170 i 0 ∧ 0 ≤ M 1170 i 0 ∧ M 1170 i 0 < 256) ∧ ((M 1139 16 0 = -1000 ∧ K 2252 24 0 = 0 ∧ M 1139 17 0 = 0) ∨ (K 2252 24 0 = M 1139 16 0 ∧ 1 ≤ M 1139 16 0 ∧ M 1139 16 0 ≤ t ∧ 8 ≤ M 1139 15 0 ∧ ((M 1139 17 0 = 1 ∧ K 2252 25 0 = 0) ∨ (M 1139 17 0 = 0 ∧ K 2252 25 0 = 1)) ∧ K 2252 23 0 = b01 (RGP M)))
theorem ltt_o (h : LTT M K t) (e1 : ∀ x, 15 ≤ x → x ≤ 18 → M' 1139 x 0 = M 1139 x 0) (e2 : ∀ x, M' 1170 x 0 = M 1170 x 0) (e3 : ∀ x, 21 ≤ x → x ≤ 26 → K' 2252 x 0 = K 2252 x 0) (e4 : ∀ x, K' 2268 x 0 = K 2268 x 0) (tu : t ≤ u) : LTT M' K' u := by
  unfold LTT RGP at h ⊢
  rw [e1 15 (by decide) (by decide), e1 16 (by decide) (by decide), e1 17 (by decide) (by decide), e1 18 (by decide) (by decide), e3 21 (by decide) (by decide), e3 23 (by decide) (by decide), e3 24 (by decide) (by decide), e3 25 (by decide) (by decide), e3 26 (by decide) (by decide), show (fun k => M' 1170 k 0) = (fun k => M 1170 k 0) from funext e2, e2, e2]
  obtain ⟨h1, h2, h3, h4, h5⟩ := h
  refine ⟨h1, h2, h3, fun i i0 i1 => ?_, h5.elim Or.inl (fun z => Or.inr ⟨z.1, z.2.1, by omega, z.2.2.2⟩)⟩
  rw [e4, e2]
  exact h4 i i0 i1
def aimV (M : qm) : Int := 256 * M 1170 3 0 + M 1170 4 0
/-- the telegram is meant for the station -/
def MNT (M : qm) (s : Int) : Prop := (128 ≤ M 1170 5 0 ∧ aimV M < 256 ∧ M 1167 (256 * s + aimV M) 0 ≠ 0) ∨ (M 1170 5 0 < 128 ∧ M 1140 s 6 = aimV M)
theorem meant_C (s0 : 0 ≤ s) (s1 : s < 8) (a0 : 0 ≤ M 1170 3 0) (a1 : M 1170 3 0 < 256) (b0 : 0 ≤ M 1170 4 0) (b1 : M 1170 4 0 < 256) : qf_X1_isMeantFor 20000 s M = some (b01 (MNT M s)) := by
  unfold qf_X1_isMeantFor qf_X1_latestAim
  simp only [Option.bind_some]
  rw [w32_id (x := M 1170 3 0 * 256) (by omega) (by omega), w32_id (x := M 1170 3 0 * 256 + M 1170 4 0) (by omega) (by omega)]
  have ea : M 1170 3 0 * 256 + M 1170 4 0 = aimV M := by
    unfold aimV
    omega
  have ab : 0 ≤ aimV M ∧ aimV M < 65536 := by omega
  rw [ea, w32_id (x := s * 256) (by omega) (by omega), w32_id (x := s * 256 + aimV M) (by omega) (by omega), show s * 256 + aimV M = 256 * s + aimV M by omega]
  by_cases g : 128 ≤ M 1170 5 0
  · rw [if_pos g]
    by_cases g2 : 256 ≤ aimV M
    · rw [if_pos g2]
      refine congrArg some (b01_f ?_).symm
      unfold MNT
      omega
    · rw [if_neg g2, if_pos (show 0 ≤ 256 * s + aimV M ∧ 256 * s + aimV M < 2048 by omega)]
      by_cases g3 : M 1167 (256 * s + aimV M) 0 = 0
      · rw [if_pos g3]
        refine congrArg some (b01_f ?_).symm
        unfold MNT
        omega
      · rw [if_neg g3]
        refine congrArg some (b01_t ?_).symm
        unfold MNT
        omega
  · rw [if_neg g, if_pos (show 0 ≤ s ∧ s < 8 from ⟨s0, s1⟩)]
    by_cases g3 : M 1140 s 6 = aimV M
    · rw [if_pos g3]
      refine congrArg some (b01_t ?_).symm
      unfold MNT
      omega
    · rw [if_neg g3]
      refine congrArg some (b01_f ?_).symm
      unfold MNT
      omega
/-- a station begins to answer -/
theorem ans_one (h : STN M K s) (s0 : 0 ≤ s) (s1 : s < 8) (hl : ∀ i, 0 ≤ i → i < 8 → K 2268 i 0 = M 1170 i 0 ∧ 0 ≤ M 1170 i 0 ∧ M 1170 i 0 < 256) (hli : ∀ i, 0 ≤ i → i < 2048 → K 2256 i 0 = M 1167 i 0) (hr : K 2252 23 0 = R) (r01 : R = 0 ∨ R = 1) : ∃ M1 K1, qf_X1_beginAnswers_L7_b 20000 R s M = some (.inr (R, s + 1, M1)) ∧ qf_X12_answers_L49_b 20000 (aimV M) s K = some (.inr (aimV M, s + 1, K1)) ∧ STN M1 K1 s ∧ (∀ e x y, ¬ (e = 1140 ∧ x = s ∧ (y = 8 ∨ y = 9)) → M1 e x y = M e x y) ∧ (∀ e x y, ¬ ((e = 2262 ∨ e = 2263) ∧ x = s) → K1 e x y = K e x y) ∧ (M1 1140 s 9 = M 1140 s 9 ∨ M1 1140 s 9 = 0) := by
  have sr : 0 ≤ s ∧ s < 8 := ⟨s0, s1⟩
  have h3 := hl 3 (by decide) (by decide)
  have h4 := hl 4 (by decide) (by decide)
  have h5 := hl 5 (by decide) (by decide)
  have ab : 0 ≤ aimV M ∧ aimV M < 65536 := by
    unfold aimV
    omega
  have hs0 := h.s0
  have hw0 := h.w0
  have sy := h.sy
  have wt := h.wt
  have cm := meant_C (M := M) s0 s1 h3.2.1 h3.2.2 h4.2.1 h4.2.2
  have w1 : w32 (s + 1) = s + 1 := w32_id (by omega) (by omega)
  have kk : qf_X12_answers_L49_b 20000 (aimV M) s K = qf_X12_answers_J116 20000 (aimV M) s (b01 (MNT M s)) K := by
    unfold qf_X12_answers_L49_b qf_X12_answers_J115
    rw [if_neg (show ¬ (8 : Int) ≤ s by omega), h5.1, tm_e ab.1, w32_id (x := 256 * s) (by omega) (by omega), w32_id (x := 256 * s + aimV M % 256) (by omega) (by omega), if_pos sr, h.ad.1]
    by_cases g : 128 ≤ M 1170 5 0
    · rw [if_pos g]
      by_cases g2 : 256 ≤ aimV M
      · rw [if_pos g2, b01_f (show ¬ MNT M s by unfold MNT; omega)]
      · rw [if_neg g2, show aimV M % 256 = aimV M by omega, if_pos (show 0 ≤ 256 * s + aimV M ∧ 256 * s + aimV M < 2048 by omega), hli _ (by omega) (by omega)]
        by_cases g3 : M 1167 (256 * s + aimV M) 0 = 0
        · rw [if_pos g3, b01_f (show ¬ MNT M s by unfold MNT; omega)]
        · rw [if_neg g3, b01_t (show MNT M s by unfold MNT; omega)]
    · rw [if_neg g]
      by_cases g3 : aimV M = M 1140 s 6
      · rw [if_pos g3, b01_t (show MNT M s by unfold MNT; omega)]
      · rw [if_neg g3, b01_f (show ¬ MNT M s by unfold MNT; omega)]
  rw [kk]
  have stay : qf_X1_beginAnswers_L7_b 20000 R s M = some (.inr (R, s + 1, M)) → qf_X12_answers_J116 20000 (aimV M) s (b01 (MNT M s)) K = some (.inr (aimV M, s + 1, K)) → ∃ M1 K1, qf_X1_beginAnswers_L7_b 20000 R s M = some (.inr (R, s + 1, M1)) ∧ qf_X12_answers_J116 20000 (aimV M) s (b01 (MNT M s)) K = some (.inr (aimV M, s + 1, K1)) ∧ STN M1 K1 s ∧ (∀ e x y, ¬ (e = 1140 ∧ x = s ∧ (y = 8 ∨ y = 9)) → M1 e x y = M e x y) ∧ (∀ e x y, ¬ ((e = 2262 ∨ e = 2263) ∧ x = s) → K1 e x y = K e x y) ∧ (M1 1140 s 9 = M 1140 s 9 ∨ M1 1140 s 9 = 0) := fun e1 e2 => ⟨M, K, e1, e2, h, fun _ _ _ _ => rfl, fun _ _ _ _ => rfl, Or.inl rfl⟩
  have cc : qf_X1_beginAnswers_L7_b 20000 R s M = (if b01 (MNT M s) = 0 then some (.inr (R, s + 1, M)) else if M 1140 s 1 = -1 then if M 1140 s 2 = -1 then if M 1140 s 7 = 0 then qf_X1_beginAnswers_J58 20000 R s s 204 M else qf_X1_beginAnswers_J58 20000 R s s 192 M else some (.inr (R, s + 1, M)) else some (.inr (R, s + 1, M))) := by
    unfold qf_X1_beginAnswers_L7_b
    rw [if_neg (show ¬ (8 : Int) ≤ s by omega), if_pos sr, cm, w1]
    rfl
  by_cases gm : MNT M s
  · rw [b01_t gm, if_neg (by decide)] at cc
    have k1 : qf_X12_answers_J116 20000 (aimV M) s (b01 (MNT M s)) K = (if 0 ≤ M 1140 s 1 then some (.inr (aimV M, s + 1, K)) else if 0 ≤ M 1140 s 2 then some (.inr (aimV M, s + 1, K)) else if R = 0 then qf_X12_answers_J174 20000 (aimV M) s s 12 K else if M 1140 s 7 = 0 then qf_X12_answers_J174 20000 (aimV M) s s 204 K else qf_X12_answers_J174 20000 (aimV M) s s 192 K) := by
      unfold qf_X12_answers_J116
      rw [b01_t gm, if_neg (by decide)]
      simp only [if_pos sr]
      rw [sy, wt, hr, h.bs.1, w1]
    by_cases g1 : M 1140 s 1 = -1
    · rw [if_pos g1] at cc
      rw [if_neg (show ¬ 0 ≤ M 1140 s 1 by omega)] at k1
      by_cases g2 : M 1140 s 2 = -1
      · rw [if_pos g2] at cc
        rw [if_neg (show ¬ 0 ≤ M 1140 s 2 by omega)] at k1
        have go : ∀ z, 0 ≤ z → z < 256 → qf_X1_beginAnswers_L7_b 20000 R s M = qf_X1_beginAnswers_J74 20000 R s s s 8 z M → qf_X12_answers_J116 20000 (aimV M) s (b01 (MNT M s)) K = qf_X12_answers_J174 20000 (aimV M) s s z K → ∃ M1 K1, qf_X1_beginAnswers_L7_b 20000 R s M = some (.inr (R, s + 1, M1)) ∧ qf_X12_answers_J116 20000 (aimV M) s (b01 (MNT M s)) K = some (.inr (aimV M, s + 1, K1)) ∧ STN M1 K1 s ∧ (∀ e x y, ¬ (e = 1140 ∧ x = s ∧ (y = 8 ∨ y = 9)) → M1 e x y = M e x y) ∧ (∀ e x y, ¬ ((e = 2262 ∨ e = 2263) ∧ x = s) → K1 e x y = K e x y) ∧ (M1 1140 s 9 = M 1140 s 9 ∨ M1 1140 s 9 = 0) := fun z z0 z1 e1 e2 => by
          obtain ⟨M1, hM1⟩ : ∃ X, qw (qw M 1140 s 8 z) 1140 s 9 0 = X := ⟨_, rfl⟩
          obtain ⟨K1, hK1⟩ : ∃ X, qw (qw K 2262 s 0 z) 2263 s 0 0 = X := ⟨_, rfl⟩
          have fM1 : ∀ e x y, ¬ (e = 1140 ∧ x = s ∧ (y = 8 ∨ y = 9)) → M1 e x y = M e x y := fun e x y z => by rw [← hM1, qw_ap, if_neg (by omega), qw_ap, if_neg (by omega)]
          have fK1 : ∀ e x y, ¬ ((e = 2262 ∨ e = 2263) ∧ x = s) → K1 e x y = K e x y := fun e x y z => by rw [← hK1, qw_ap, if_neg (by omega), qw_ap, if_neg (by omega)]
          have m9 : M1 1140 s 9 = 0 := by rw [← hM1]; exact qw_s
          have m8 : M1 1140 s 8 = z := by rw [← hM1, qw_ap, if_neg (by omega)]; exact qw_s
          have k62 : K1 2262 s 0 = z := by rw [← hK1, qw_a (by decide)]; exact qw_s
          have k63 : K1 2263 s 0 = 0 := by rw [← hK1]; exact qw_s
          refine ⟨M1, K1, ?_, ?_, stn_upd h (fun j _ _ j8 j9 => fM1 _ _ _ (by omega)) (fun _ => fM1 _ _ _ (by omega)) (fun _ => fM1 _ _ _ (by omega)) (fun b hb => fK1 _ _ _ (by omega)) (fun i _ _ => fK1 _ _ _ (by omega)) ?_ ?_ ?_ (Or.inr ⟨by omega, by omega, by omega, by omega, by omega, by omega⟩) ?_, fM1, fK1, Or.inr m9⟩
          · rw [e1]
            unfold qf_X1_beginAnswers_J74 qbnd
            rw [if_pos (by decide), w1]
            (try dsimp only)
            rw [hM1]
          · rw [e2]
            unfold qf_X12_answers_J174 qbnd
            rw [if_pos sr]
            (try dsimp only)
            rw [if_pos sr, hK1, w1]
          · rw [fK1 _ _ _ (by omega), fM1 _ _ _ (by omega)]
            exact sy
          · rw [fM1 _ _ _ (by omega)]
            exact hs0
          · rw [fK1 _ _ _ (by omega), fM1 _ _ _ (by omega)]
            exact h.ct.2.2
          · rw [fM1 _ _ _ (by omega)]
            intro z
            omega
        by_cases gr : R = 0
        · rw [if_pos gr] at k1
          refine go 12 (by decide) (by decide) ?_ k1
          rw [cc]
          unfold qf_X1_beginAnswers_J58
          rw [if_pos gr, if_pos gr]
          by_cases g7 : M 1140 s 7 = 0
          · rw [if_pos g7]
          · rw [if_neg g7]
        · rw [if_neg gr] at k1
          by_cases g7 : M 1140 s 7 = 0
          · rw [if_pos g7] at k1 cc
            refine go 204 (by decide) (by decide) ?_ k1
            rw [cc]
            unfold qf_X1_beginAnswers_J58
            rw [if_neg gr]
          · rw [if_neg g7] at k1 cc
            refine go 192 (by decide) (by decide) ?_ k1
            rw [cc]
            unfold qf_X1_beginAnswers_J58
            rw [if_neg gr]
      · rw [if_neg g2] at cc
        rw [if_pos (show 0 ≤ M 1140 s 2 by omega)] at k1
        exact stay cc k1
    · rw [if_neg g1] at cc
      rw [if_pos (show 0 ≤ M 1140 s 1 by omega)] at k1
      exact stay cc k1
  · rw [b01_f gm, if_pos rfl] at cc
    refine stay cc ?_
    unfold qf_X12_answers_J116
    rw [b01_f gm, if_pos rfl, w1]
end BUh
