/-! ===== rules: the call of both ===== -/
section WDu
variable {M K A Z D W W' Z2 A' Z' B : qm} {T kd vl pl : Int → Int} {L p q e k v i j x y z c d f n w t s a u ns g o b cl o' b' c1 cl0 rr ro ro' day r : Int} {N m mo : Nat}
theorem wd2_num (h : WD2 T L q 48 v e) : 0 ≤ v ∧ v < 1000000000 := by
  unfold WD2 at h
  rcases h with ⟨a, b, c⟩ | ⟨a, b, c⟩ | ⟨a, b, c⟩
  · rcases c with ⟨c1, _, c3⟩ | c
    · rw [c3]
      have b1 := b.1
      refine dgv_9 (by omega) (fun i i0 i1 => b.2.2.1 i i0 (by omega))
    · omega
  · omega
  · rcases c with ⟨d, e1, s⟩ | ⟨d, e1, s⟩
    · omega
    · unfold isG at s
      unfold isD at a
      omega
theorem rules_both (h_textn : R_textn M K) (h_textc : R_textc M K) (h_rulen : R_rulen M K) (h_answers : R_answers M K) (hR : RLS M K) : ∃ v M' K', qf_X11_rules 20000 M = some (v, M') ∧ qf_X18_rules 20000 K = some (v, K') ∧ R_textn M' K' ∧ R_textc M' K' ∧ R_rulen M' K' ∧ R_answers M' K' ∧ RLS M' K' ∧ K' 2156 0 0 = 0 := by
  unfold R_textn at h_textn
  unfold R_textc at h_textc
  obtain ⟨L0, L1, LK⟩ := h_textn
  obtain ⟨L, hL⟩ : ∃ L, M 727 1 0 = L := ⟨_, rfl⟩
  rw [hL] at L0 L1 LK h_textc
  obtain ⟨T, hT⟩ : ∃ T : Int → Int, T = fun i => M 728 i 0 := ⟨_, rfl⟩
  -- the class splits its text
  obtain ⟨A, n, eA, fA, hA⟩ := words_C hL L0 L1
  rw [← hT] at hA
  have hW := wds_of hA L0 L1
  obtain ⟨kd, hkd⟩ : ∃ kd : Int → Int, kd = fun j => A 729 j 0 := ⟨_, rfl⟩
  obtain ⟨vl, hvl⟩ : ∃ vl : Int → Int, vl = fun j => A 730 j 0 := ⟨_, rfl⟩
  obtain ⟨pl, hpl⟩ : ∃ pl : Int → Int, pl = fun j => A 731 j 0 := ⟨_, rfl⟩
  rw [← hkd, ← hvl, ← hpl] at hW
  have hl : LSW kd n := ⟨hW.2.2.1, hW.2.2.2.1, by rcases hW.2.2.2.2.2.2 with h | h <;> omega⟩
  have n0 := hl.1
  have n1 := hl.2.1
  have num : ∀ j, 0 ≤ j → j ≤ n → kd j = 48 → 0 ≤ vl j ∧ vl j < 1000000000 := fun j j0 j1 h => by
    have jn := lst_lt hl j1 (by omega) (by omega)
    obtain ⟨x0, x1, x2, e, x3, x4⟩ := hW.2.2.2.2.2.1 j j0 jn
    rw [h] at x3
    exact wd2_num x3
  obtain ⟨A0, hA0⟩ : ∃ X, qw (qw A 727 5 0 0) 727 6 0 0 = X := ⟨_, rfl⟩
  have fA0 : ∀ b x y, ¬ (b = 727 ∧ (x = 5 ∨ x = 6)) → A0 b x y = A b x y := fun b x y z => by rw [← hA0, qw_ap, if_neg (by omega), qw_ap, if_neg (by omega)]
  have A05 : A0 727 5 0 = 0 := by rw [← hA0, qw_i (by decide)]; exact qw_s
  have A06 : A0 727 6 0 = 0 := by rw [← hA0]; exact qw_s
  have kA0 : KDS A0 kd := fun j _ _ => by rw [hkd]; exact fA0 _ _ _ (by omega)
  have vA0 : ∀ j, 0 ≤ j → j ≤ 120 → A0 730 j 0 = vl j := fun j _ _ => by rw [hvl]; exact fA0 _ _ _ (by omega)
  -- the reference takes its first word
  obtain ⟨X, hX⟩ : ∃ X, qw (qw (qw (qw (qw (qw (qw K 2156 0 0 0) 2184 27 0 0) 2184 30 0 0) 2184 31 0 0) 2184 32 0 0) 2184 33 0 0) 2184 34 0 0 = X := ⟨_, rfl⟩
  have fX : ∀ b x y, ¬ (b = 2156 ∧ x = 0) → ¬ (b = 2184 ∧ (x = 27 ∨ (30 ≤ x ∧ x ≤ 34))) → X b x y = K b x y := fun b x y z z2 => by
    rw [← hX, qw_ap, if_neg (by omega), qw_ap, if_neg (by omega), qw_ap, if_neg (by omega), qw_ap, if_neg (by omega), qw_ap, if_neg (by omega), qw_ap, if_neg (by omega), qw_ap, if_neg (by omega)]
  have X27 : X 2184 27 0 = 0 := by rw [← hX, qw_i (by decide), qw_i (by decide), qw_i (by decide), qw_i (by decide), qw_i (by decide)]; exact qw_s
  have X30 : X 2184 30 0 = 0 := by rw [← hX, qw_i (by decide), qw_i (by decide), qw_i (by decide), qw_i (by decide)]; exact qw_s
  have X31 : X 2184 31 0 = 0 := by rw [← hX, qw_i (by decide), qw_i (by decide), qw_i (by decide)]; exact qw_s
  have X32 : X 2184 32 0 = 0 := by rw [← hX, qw_i (by decide), qw_i (by decide)]; exact qw_s
  have X33 : X 2184 33 0 = 0 := by rw [← hX, qw_i (by decide)]; exact qw_s
  have X34 : X 2184 34 0 = 0 := by rw [← hX]; exact qw_s
  have X00 : X 2156 0 0 = 0 := by rw [← hX, qw_a (by decide), qw_a (by decide), qw_a (by decide), qw_a (by decide), qw_a (by decide), qw_a (by decide)]; exact qw_s
  obtain ⟨Z, eZ, fZ, rZ⟩ := word_K (K := X) (p := 0) (w := 0) hW ((fX _ _ _ (by omega) (by omega)).trans LK) (fun i i0 i1 => by rw [hT]; exact (fX _ _ _ (by omega) (by omega)).trans (h_textc i i0 i1).1) X27 (Int.le_refl _) L0 X30 (Int.le_refl _) n0 X31 hW.2.2.2.2.1
  have Z32 : Z 2184 32 0 = 0 := (fZ _ _ _ (by omega)).trans X32
  have Z33 : Z 2184 33 0 = 0 := (fZ _ _ _ (by omega)).trans X33
  have Z34 : Z 2184 34 0 = 0 := (fZ _ _ _ (by omega)).trans X34
  have ri : RIV kd vl n 0 0 A0 Z := ⟨A06, A05, Z32, Int.le_refl _, by decide, kA0, vA0, fun r r0 r1 => by omega, by omega, by omega, by omega, by omega, fun x x0 x1 => by omega⟩
  obtain ⟨A1, Z1, res, e1, e2, fA1, fZ1, hres⟩ := all_both hW hl 13 20000 20000 0 0 A0 Z (by decide) (by decide) (by decide) ri rZ
  have rr : qf_X6_readRules 20000 M = some (res, A1) := by
    unfold qf_X6_readRules qbnd
    rw [eA]
    simp only [Option.bind_some]
    rw [hA0, e1]
    rfl
  have fMA : ∀ b x y, ¬ (b = 727 ∧ (x = 5 ∨ x = 6)) → ¬ (729 ≤ b ∧ b ≤ 734) → A1 b x y = M b x y := fun b x y z1 z2 => by
    rw [fA1 b x y z1 (by omega), fA0 b x y z1]
    exact fA b x y (by omega) (by omega) (by omega)
  have fKZ : ∀ b x y, ¬ (b = 2156 ∧ x = 0) → ¬ (b = 2184 ∧ 26 ≤ x ∧ x ≤ 36) → ¬ b = 2205 → ¬ ((b = 2196 ∨ b = 2197) ∧ 400 ≤ x) → ¬ (2192 ≤ b ∧ b ≤ 2195 ∧ 60 ≤ x) → ¬ (2188 ≤ b ∧ b ≤ 2191 ∧ 12 ≤ x) → Z1 b x y = K b x y := fun b x y z0 z1 z2 z3 z4 z5 => by
    rw [fZ1 b x y z1 z2 z3 z4 z5, fZ b x y (by omega)]
    exact fX b x y z0 (by omega)
  have Z100 : Z1 2156 0 0 = 0 := by
    rw [fZ1 _ _ _ (by omega) (by omega) (by omega) (by omega) (by omega), fZ _ _ _ (by omega)]
    exact X00
  have rd : qf_X18_rules 20000 K = (qf_X15_read_J91 20000 Z1).bind (fun r4 => some (r4.1, r4.2)) := by
    unfold qf_X18_rules qf_X15_read qbnd
    (try dsimp only)
    rw [hX, eZ]
    simp only [Option.bind_some]
    obtain ⟨⟨_, Y⟩, hY⟩ : ∃ Y, qf_X15_rule 20000 Z = some Y := by
      rcases hq : qf_X15_rule 20000 Z with _ | Y
      · rw [hq] at e2
        cases e2
      · exact ⟨Y, rfl⟩
    rw [hY] at e2 ⊢
    simp only [Option.bind_some] at e2 ⊢
    rw [e2]
    rfl
  rw [rd]
  unfold qf_X11_rules
  rw [rr]
  simp only [Option.bind_some]
  have s_rulen := h_rulen
  unfold R_rulen at s_rulen
  rcases hres with ⟨rfl, w0, ρ, c, ri1, cn⟩ | ⟨rfl, w1, c', at1, cA1, c0, cn⟩
  · obtain ⟨a1, a2, a3, a4, a5, a6, a7, a8, a9, a10, a11, a12, a13⟩ := ri1
    obtain ⟨B, eB, B5, fB, cB1, cB2, cB3⟩ := adopt_K a3 rfl rfl a4 a5 a9 (by omega) a11 (by omega)
    obtain ⟨Y, hY⟩ : ∃ Y, qw (qw B 2184 1 0 0) 2184 18 0 (-1) = Y := ⟨_, rfl⟩
    have fY : ∀ b x y, ¬ (b = 2184 ∧ (x = 1 ∨ x = 18)) → Y b x y = B b x y := fun b x y z => by rw [← hY, qw_ap, if_neg (by omega), qw_ap, if_neg (by omega)]
    have Y1 : Y 2184 1 0 = 0 := by rw [← hY, qw_i (by decide)]; exact qw_s
    have Y18 : Y 2184 18 0 = -1 := by rw [← hY]; exact qw_s
    have Y5 : Y 2184 5 0 = ρ := (fY _ _ _ (by omega)).trans B5
    have eJ : qf_X15_read_J91 20000 Z1 = some (ρ, Y) := by
      unfold qf_X15_read_J91 qbnd
      rw [if_pos w0, eB]
      simp only [Option.bind_some]
      rw [hY, Y5]
    obtain ⟨C, hC⟩ : ∃ C, qw (qw (qw (qcp1 (qcp1 (qcp1 (qcp1 A1 729 0 736 0 121) 730 0 737 0 121) 733 0 738 0 12) 734 0 739 0 12) 735 0 0 ρ) 735 1 0 0) 727 1 0 0 = C := ⟨_, rfl⟩
    have fC : ∀ b x y, ¬ (b = 727 ∧ x = 1) → ¬ (b = 735 ∧ x ≤ 1) → ¬ (736 ≤ b ∧ b ≤ 739) → C b x y = A1 b x y := fun b x y z1 z2 z3 => by
      rw [← hC, qw_ap, if_neg (by omega), qw_ap, if_neg (by omega), qw_ap, if_neg (by omega), qcp1_ap, if_neg (by omega), qcp1_ap, if_neg (by omega), qcp1_ap, if_neg (by omega), qcp1_ap, if_neg (by omega)]
    have C1 : C 727 1 0 = 0 := by rw [← hC]; exact qw_s
    have C0 : C 735 0 0 = ρ := by rw [← hC, qw_a (by decide), qw_i (by decide)]; exact qw_s
    have C11 : C 735 1 0 = 0 := by rw [← hC, qw_a (by decide)]; exact qw_s
    have C736 : ∀ j, 0 ≤ j → j ≤ 120 → C 736 j 0 = kd j := fun j j0 j1 => by
      rw [← hC, qw_a (by decide), qw_a (by decide), qw_a (by decide), qcp1_ap, if_neg (by omega), qcp1_ap, if_neg (by omega), qcp1_ap, if_neg (by omega), qcp1_ap, if_pos (by omega), show j - 0 + 0 = j by omega]
      exact a6 j j0 j1
    have C737 : ∀ j, 0 ≤ j → j ≤ 120 → C 737 j 0 = vl j := fun j j0 j1 => by
      rw [← hC, qw_a (by decide), qw_a (by decide), qw_a (by decide), qcp1_ap, if_neg (by omega), qcp1_ap, if_neg (by omega), qcp1_ap, if_pos (by omega), show j - 0 + 0 = j by omega, qcp1_ap, if_neg (by omega)]
      exact a7 j j0 j1
    have C738 : ∀ r, 0 ≤ r → r < 12 → C 738 r 0 = A1 733 r 0 := fun j j0 j1 => by
      rw [← hC, qw_a (by decide), qw_a (by decide), qw_a (by decide), qcp1_ap, if_neg (by omega), qcp1_ap, if_pos (by omega), show j - 0 + 0 = j by omega, qcp1_ap, if_neg (by omega), qcp1_ap, if_neg (by omega)]
    have C739 : ∀ r, 0 ≤ r → r < 12 → C 739 r 0 = A1 734 r 0 := fun j j0 j1 => by
      rw [← hC, qw_a (by decide), qw_a (by decide), qw_a (by decide), qcp1_ap, if_pos (by omega), show j - 0 + 0 = j by omega, qcp1_ap, if_neg (by omega), qcp1_ap, if_neg (by omega), qcp1_ap, if_neg (by omega)]
    have eT : (qf_X7_takeRules 20000 A1).bind (fun r7 => qbnd (qw r7.2 727 1 0 0) (fun M9 => some ((M9 735 0 0), M9))) = some (ρ, C) := by
      unfold qf_X7_takeRules qbnd
      (try dsimp only)
      simp only [Option.bind_some]
      rw [show (qcp1 (qcp1 (qcp1 (qcp1 A1 729 0 736 0 121) 730 0 737 0 121) 733 0 738 0 12) 734 0 739 0 12) 727 6 0 = ρ by rw [qcp1_ap, if_neg (by omega), qcp1_ap, if_neg (by omega), qcp1_ap, if_neg (by omega), qcp1_ap, if_neg (by omega)]; exact a1, hC, C0]
    rw [if_neg (by decide), eT, eJ]
    refine ⟨ρ, C, Y, rfl, rfl, ?_, fun i i0 i1 => ?_, ?_, fun h => ?_, ?_, ?_⟩
    · unfold R_textn
      rw [C1, Y1]
      exact ⟨Int.le_refl _, by decide, rfl⟩
    · rw [C1] at i1
      omega
    · unfold R_rulen
      rw [C0, C11, Y5, Y18]
      exact ⟨a4, a5, rfl, Or.inl ⟨rfl, rfl⟩⟩
    · rw [C11] at h
      omega
    · refine ⟨kd, vl, n, hl, fun _ j j0 j1 => ⟨C736 j j0 j1, C737 j j0 j1⟩, num, fun r r0 r1 => ?_⟩
      rw [C0] at r1
      obtain ⟨_, mo, b2, b3⟩ := a8 r r0 r1
      have q0 := b2.2.1
      have e9 : Y 2189 (0 + r) 0 = Z1 2189 (12 + r) 0 := by
        rw [Int.zero_add, fY _ _ _ (by omega)]
        exact cB1 2189 r (by decide) (by decide) r0 r1
      rw [C738 r r0 (by omega), C739 r r0 (by omega)]
      refine ⟨mo, rul1_tr b2 (fun bb z1 z2 => ?_) (fun bb q z1 z2 z3 z4 => ?_) (fun q i z1 z2 z3 z4 => ?_), by omega⟩
      · rw [Int.zero_add, fY _ _ _ (by omega)]
        exact cB1 bb r (by omega) z2 r0 r1
      · rw [Int.zero_add, fY _ _ _ (by omega)]
        exact cB2 bb q z1 z2 (by omega) (by omega)
      · have := a13 q (by omega) (by omega)
        rw [Int.zero_add, fY _ _ _ (by omega), fY _ _ _ (by omega)]
        exact ⟨cB3 2196 i (by decide) (by decide) z3 (by omega), cB3 2197 i (by decide) (by decide) z3 (by omega)⟩
    · rw [fY _ _ _ (by omega), fB _ _ _ (by omega) (by omega)]
      exact Z100
  · have eW : qf_X6_wrongPlace 20000 A1 = some (pl c') := by
      unfold qf_X6_wrongPlace
      rw [cA1, if_pos (show 0 ≤ c' ∧ c' < 121 by omega), fA1 731 _ _ (by omega) (by omega), fA0 731 _ _ (by omega), hpl]
    have eJ : qf_X15_read_J91 20000 Z1 = some (w32 (-1 - pl c'), Z1) := by
      unfold qf_X15_read_J91
      rw [if_neg (show ¬ Z1 2184 31 0 = 0 by omega), at1]
    rw [if_pos rfl, eW, eJ]
    refine ⟨w32 (-1 - pl c'), A1, Z1, rfl, rfl, ?_, fun i i0 i1 => ?_, ?_, fun h r r0 r1 => ?_, ?_, Z100⟩
    · unfold R_textn
      rw [fMA 727 1 0 (by omega) (by omega), fKZ 2184 1 0 (by omega) (by omega) (by omega) (by omega) (by omega) (by omega), hL]
      exact ⟨L0, L1, LK⟩
    · rw [fMA 727 1 0 (by omega) (by omega), hL] at i1
      rw [fMA 728 _ _ (by omega) (by omega), fKZ 2185 _ _ (by omega) (by omega) (by omega) (by omega) (by omega) (by omega)]
      exact h_textc i i0 i1
    · unfold R_rulen
      rw [fMA 735 0 0 (by omega) (by omega), fMA 735 1 0 (by omega) (by omega), fKZ 2184 5 0 (by omega) (by omega) (by omega) (by omega) (by omega) (by omega), fKZ 2184 18 0 (by omega) (by omega) (by omega) (by omega) (by omega) (by omega)]
      exact s_rulen
    · rw [fMA 735 1 0 (by omega) (by omega)] at h
      rw [fMA 735 0 0 (by omega) (by omega)] at r1
      have q := h_answers h r r0 r1
      rw [fMA 740 _ _ (by omega) (by omega), fMA 740 _ _ (by omega) (by omega), fMA 740 _ _ (by omega) (by omega), fMA 740 _ _ (by omega) (by omega), fMA 740 _ _ (by omega) (by omega), fMA 740 _ _ (by omega) (by omega), fMA 740 _ _ (by omega) (by omega), fKZ 2198 _ _ (by omega) (by omega) (by omega) (by omega) (by omega) (by omega), fKZ 2199 _ _ (by omega) (by omega) (by omega) (by omega) (by omega) (by omega), fKZ 2200 _ _ (by omega) (by omega) (by omega) (by omega) (by omega) (by omega), fKZ 2201 _ _ (by omega) (by omega) (by omega) (by omega) (by omega) (by omega), fKZ 2202 _ _ (by omega) (by omega) (by omega) (by omega) (by omega) (by omega), fKZ 2203 _ _ (by omega) (by omega) (by omega) (by omega) (by omega) (by omega), fKZ 2204 _ _ (by omega) (by omega) (by omega) (by omega) (by omega) (by omega)]
      exact q
    · exact RLS_o hR s_rulen.2.1 (fun b x y h => fMA b x y (by omega) (by omega)) (fun b x y h => fKZ b x y (by omega) (by omega) (by omega) (by omega) (by omega) (by omega))
end WDu
