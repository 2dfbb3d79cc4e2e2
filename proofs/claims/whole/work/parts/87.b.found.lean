section FP
variable {M K A B C D D0 E F G H T V K0 M0 : qm} {a b c d k n m p r q' s t x y h i R S : Int} {ow ob : Int → Int → Int} {q stt cnt stt' cnt' : Int → Int}
theorem zero_e (hT : True) : ∃ W, qf_X16_run_L140 20000 20000 0 V = some (.inr ((), W)) ∧ ofr 2172 V W ∧ ∀ s, 0 ≤ s → s < 400 → (W 2172 s 0) = 0 := by
  have q : qW (qf_X16_run_L140 20000 20000 0 V) (fun o => ∃ W, o = .inr ((), W) ∧ ofr 2172 V W ∧ ∀ s, 0 ≤ s → s < 400 → (W 2172 s 0) = 0) := by
    unfold qf_X16_run_L140
    refine qW_for 400 (fun i u => ∃ W, u = (i, W) ∧ ofr 2172 V W ∧ ∀ s, 0 ≤ s → s < i → (W 2172 s 0) = 0) ?_ ?_ ⟨V, rfl, ofr_r, fun s a b => by omega⟩ (by omega) (by omega)
    · rintro i _ i0 i1 ⟨W, rfl, w1, w2⟩
      unfold qf_X16_run_L140_b
      (try dsimp only)
      rw [if_neg (by omega), if_pos ⟨i0, i1⟩, w32_id (x := i + 1) (by omega) (by omega)]
      refine qW_bnd (qW_some ⟨_, rfl, ofr_w w1, fun s s0 s1 => ?_⟩)
      by_cases g : s = i
      · rw [g]
        exact qw_s
      · rw [qw_i g]
        exact w2 s s0 (by omega)
    · rintro _ ⟨W, rfl, w1, w2⟩
      unfold qf_X16_run_L140_b
      (try dsimp only)
      rw [if_pos (by decide)]
      exact qW_some ⟨W, rfl, w1, w2⟩
  obtain ⟨o, e, W, rfl, h⟩ := q
  exact ⟨W, e, h⟩
theorem steps_e (hs : (V 2157 17 0) = S) (S0 : 0 ≤ S) (S1 : S ≤ 100) : ∃ W, qf_X16_carry_L2 20000 20000 0 V = some (.inr ((), W)) ∧ ofr 2183 V W ∧ ∀ s, 0 ≤ s → s < S → (W 2183 s 0) = 0 := by
  have q : qW (qf_X16_carry_L2 20000 20000 0 V) (fun o => ∃ W, o = .inr ((), W) ∧ ofr 2183 V W ∧ ∀ s, 0 ≤ s → s < S → (W 2183 s 0) = 0) := by
    unfold qf_X16_carry_L2
    refine qW_for S (fun i u => ∃ W, u = (i, W) ∧ ofr 2183 V W ∧ ∀ s, 0 ≤ s → s < i → (W 2183 s 0) = 0) ?_ ?_ ⟨V, rfl, ofr_r, fun s a b => by omega⟩ S0 (by omega)
    · rintro i _ i0 i1 ⟨W, rfl, w1, w2⟩
      have e := (w1 2157 17 0 (by decide)).trans hs
      unfold qf_X16_carry_L2_b
      (try dsimp only)
      rw [if_neg (by omega), if_pos (by omega), w32_id (x := i + 1) (by omega) (by omega)]
      refine qW_bnd (qW_some ⟨_, rfl, ofr_w w1, fun s s0 s1 => ?_⟩)
      by_cases g : s = i
      · rw [g]
        exact qw_s
      · rw [qw_i g]
        exact w2 s s0 (by omega)
    · rintro _ ⟨W, rfl, w1, w2⟩
      have e := (w1 2157 17 0 (by decide)).trans hs
      unfold qf_X16_carry_L2_b
      (try dsimp only)
      rw [if_pos (by omega)]
      exact qW_some ⟨W, rfl, w1, w2⟩
  obtain ⟨o, e, W, rfl, h⟩ := q
  exact ⟨W, e, h⟩
/-- what a finding changes -/
def CFF (M N : qm) : Prop := ∀ b i j, (b < 51 ∨ 62 < b) → b ≠ 283 → (b < 724 ∨ 726 < b) → N b i j = M b i j
def CFG (M N : qm) : Prop := ∀ i j, (i < 1 ∨ (3 < i ∧ i ≠ 12 ∧ i ≠ 14)) → N 51 i j = M 51 i j
def KFF (K N : qm) : Prop := ∀ b i j, (b < 2166 ∨ 2183 < b) → ¬ (b = 2157 ∧ 9 ≤ i) → N b i j = K b i j
theorem run_both (h_lines : R_lines M K) (h_ends : R_ends M K) (h_find0 : R_find0 M K) (h_spaces : R_spaces M K) (h_names : R_names M K) (h_alone : R_alone M K) (hf : (M 51 1 0) < 60) (hD : FND M K) : qW (qf_X2_findSpaces 20000 M) (fun r => qW (qf_X16_run 20000 K) (fun s => r.1 = s.1 ∧ FND r.2 s.2 ∧ R_spaces r.2 s.2 ∧ R_names r.2 s.2 ∧ R_find0 r.2 s.2 ∧ CFF M r.2 ∧ CFG M r.2 ∧ KFF K s.2)) := by
  have s_find := h_find0
  unfold R_find0 at s_find
  have s_spaces := h_spaces
  unfold R_spaces at s_spaces
  -- the reference begins
  have eran : (K 2157 9 0) = 0 ∨ (K 2157 9 0) = 1 := by
    rw [s_find.2.2.2.2.2]
    split
    · exact Or.inl rfl
    · exact Or.inr rfl
  obtain ⟨T, eT, t1, t2, t3, t4, t5, t6, t7, t8, t9⟩ := turn_e (K := qw K 2157 11 0 (w32 ((K 2157 11 0) + 1))) (by
    have e : qw K 2157 11 0 (w32 ((K 2157 11 0) + 1)) 2157 9 0 = (K 2157 9 0) := qw_i (by decide)
    rw [e]
    exact eran)
  obtain ⟨K6, hK6⟩ : ∃ K6, qw (qw T 2157 12 0 0) 2157 13 0 0 = K6 := ⟨_, rfl⟩
  have k6 : ∀ b i j, (b < 2166 ∨ 2173 < b) → ¬ (b = 2157 ∧ 9 ≤ i) → K6 b i j = K b i j := fun b i j hb hn => by
    rw [← hK6, qw_ap, if_neg (by omega), qw_ap, if_neg (by omega), t9 b i j hb (by omega), qw_ap, if_neg (by omega)]
  have l6 : R_lines (qsw (qsw M 57 56) 59 58) K6 := by
    have e : K6 2157 0 0 = K 2157 0 0 := k6 _ _ _ (by omega) (by omega)
    unfold R_lines
    rw [e]
    exact h_lines
  have e6 : R_ends (qsw (qsw M 57 56) 59 58) K6 := by
    intro l l0 l1
    have a1 : K6 2158 l 0 = K 2158 l 0 := k6 _ _ _ (by omega) (by omega)
    have a2 : K6 2159 l 0 = K 2159 l 0 := k6 _ _ _ (by omega) (by omega)
    have a3 : K6 2160 l 0 = K 2160 l 0 := k6 _ _ _ (by omega) (by omega)
    have a4 : K6 2161 l 0 = K 2161 l 0 := k6 _ _ _ (by omega) (by omega)
    rw [a1, a2, a3, a4]
    exact h_ends l l0 l1
  have a6 : R_alone (qsw (qsw M 57 56) 59 58) K6 := by
    intro k l k0 k1 l0 l1 ne
    have a1 : ∀ l, K6 2158 l 0 = K 2158 l 0 := fun l => k6 _ _ _ (by omega) (by omega)
    have a2 : ∀ l, K6 2159 l 0 = K 2159 l 0 := fun l => k6 _ _ _ (by omega) (by omega)
    have a3 : ∀ l, K6 2160 l 0 = K 2160 l 0 := fun l => k6 _ _ _ (by omega) (by omega)
    have a4 : ∀ l, K6 2161 l 0 = K 2161 l 0 := fun l => k6 _ _ _ (by omega) (by omega)
    have w := h_alone k l k0 k1 l0 l1 ne
    unfold crsN at w ⊢
    rw [a1, a1, a2, a2, a3, a3, a4, a4]
    exact w
  have c6 : K6 2157 12 0 = 0 := by rw [← hK6, qw_i (by decide)]; exact qw_s
  have r6 : K6 2157 13 0 = 0 := by rw [← hK6]; exact qw_s
  obtain ⟨M0, hM0⟩ : ∃ M0, qsw (qsw M 57 56) 59 58 = M0 := ⟨_, rfl⟩
  have eM : ∀ b i j, b ≠ 56 → b ≠ 57 → b ≠ 58 → b ≠ 59 → M0 b i j = M b i j := fun b i j b1 b2 b3 b4 => by
    rw [← hM0]
    unfold qsw
    rw [if_neg (by omega), if_neg (by omega), if_neg (by omega), if_neg (by omega)]
  have e57 : ∀ i, M0 57 i 0 = M 56 i 0 := fun i => by rw [← hM0]; rfl
  have e59 : ∀ i, M0 59 i 0 = M 58 i 0 := fun i => by rw [← hM0]; rfl
  rw [hM0] at l6 e6 a6
  have n7 : M0 7 0 0 = (M 7 0 0) := eM _ _ _ (by decide) (by decide) (by decide) (by decide)
  obtain ⟨_, eE, E, rfl, pE, fE, xE⟩ := axes_r (E := K6) l6 e6 PLS_r (fun _ _ _ _ _ _ => rfl) c6 r6
  have C5 := SRx_n xE.1
  have R5 := SRy_n xE.2.1
  obtain ⟨⟨_, F⟩, eF, hF⟩ := rfill_r (E := E) l6 e6 pE ⟨xE.1.1, C5, xE.2.1.1, R5⟩
  (try dsimp only at hF)
  have pF := PLS_c pE hF.1
  obtain ⟨⟨_, G⟩, eG, m, p, hG⟩ := findPoints_r l6 e6 a6 pF
  (try dsimp only at hG)
  have pG : PLS K6 G := ⟨fun i => (hG.1 _ i 0 (Or.inl (by decide)) (by omega)).trans (pF.1 i), fun i => (hG.1 _ i 0 (Or.inl (by decide)) (by omega)).trans (pF.2.1 i), fun i => (hG.1 _ i 0 (Or.inl (by decide)) (by omega)).trans (pF.2.2.1 i), fun i => (hG.1 _ i 0 (Or.inl (by decide)) (by omega)).trans (pF.2.2.2.1 i), (hG.1 _ 0 0 (Or.inl (by decide)) (by omega)).trans pF.2.2.2.2⟩
  -- the class
  obtain ⟨⟨_, A⟩, eA, hA⟩ := draw_r l6 e6
  (try dsimp only at hA)
  obtain ⟨⟨_, D0⟩, eD0, fD0, pD0⟩ := mark_r l6 e6 (A := A) (fun l i => hA.1 _ _ _ (by decide)) (hA.1 _ _ _ (by decide))
  (try dsimp only at fD0 pD0)
  obtain ⟨⟨_, D⟩, eD, q, hS⟩ := fillSpaces_r l6 e6 hA (D0 := D0) (fun i j => fD0 _ _ _ (by decide))
  (try dsimp only at hS)
  have hB : CBS M0 A D (M0 7 0 0) := ⟨fun i j => (hS.1 _ _ _ (by decide) (by decide) (by decide) (by omega)).trans (fD0 _ _ _ (by decide)), fun x y x0 x1 y0 y1 => (hS.1 _ _ _ (by decide) (by decide) (by decide) (by omega)).trans (pD0 x y x0 x1 y0 y1), hS.2.1, fun v v0 v1 => by
    have w := hS.2.2.1 v v0 v1
    have w2 := hS.2.2.2.2.2.2.2
    exact ⟨w.1, by unfold oF; omega⟩⟩
  obtain ⟨⟨_, H⟩, eH, R, stt0, cnt0, hH, cH⟩ := rrings_r l6 e6 a6 hA (PFL_p pG) hG
  (try dsimp only at hH)
  obtain ⟨⟨_, C⟩, eC, R', stt, cnt, hC, cC⟩ := crings_r l6 e6 a6 hA (PFL_p pF) hG hB
  (try dsimp only at hC)
  have one := rng_one (skey_inj l6 e6 a6 hA (PFL_p pF) hG) hH.2.2.2.2.2 hC.2.2.2.2.2.2.2.2 hH.2.1 cH hC.2.1 cC
  have hH' : RIN A G H p R' stt cnt := RIN_c hH one.1 one.2
  have hR : RCH M0 A E F G H (M0 7 0 0) m p R' stt cnt := ⟨xE, hF, hG, hH', cC⟩
  have hFNS : FNS M0 K6 A D0 D E F G H C q m p R' stt cnt := ⟨l6, e6, a6, hA, fD0, pE, hR, hS, hB, hC⟩
  obtain ⟨⟨_, V1⟩, eV1, fV1, sV1, cV1⟩ := number_r l6 e6 a6 hA pE hR hS hB
  (try dsimp only at fV1 sV1 cV1)
  obtain ⟨V2, eV2, fV2, zV2⟩ := zero_e (V := V1) trivial
  -- the frames
  obtain ⟨S, hSd⟩ : ∃ S, D 51 3 0 = S := ⟨_, rfl⟩
  have S0 : 0 ≤ S := by have := hS.2.2.2.2.2.2.1; omega
  have S1 : S ≤ 100 := by have := hS.2.2.2.2.2.2.2; omega
  have fK : ∀ b i j, (b < 2166 ∨ (2168 < b ∧ b < 2174 ∧ b ≠ 2172) ∨ 2182 < b) → ¬ (b = 2157 ∧ (i = 12 ∨ i = 13 ∨ i = 17 ∨ i = 27 ∨ i = 30 ∨ i = 35)) → V2 b i j = K6 b i j := fun b i j hb hn => by
    rw [fV2 b i j (by omega), fV1 b i j (by omega) (by omega) (by omega), hH.1 b i j (by omega) (by omega) (by omega) (by omega), hG.1 b i j (by omega) (by omega), hF.1 b i j (by omega), fE b i j (by omega) (by omega) (by omega)]
  have cA : ∀ b i j, (b < 51 ∨ 62 < b ∨ b = 57 ∨ b = 58 ∨ b = 59) → b ≠ 283 → (b < 724 ∨ 725 < b) → C b i j = M0 b i j := fun b i j b1 b2 b3 => by
    rw [hC.1 b i j (by omega) (by omega) (by omega) (by omega) (by omega), hS.1 b i j (by omega) (by omega) (by omega) (by omega), fD0 b i j (by omega), hA.1 b i j (by omega)]
  have cA51 : ∀ i j, (i < 3 ∨ (3 < i ∧ i ≠ 12 ∧ i ≠ 14)) → C 51 i j = M0 51 i j := fun i j hi => by
    rw [hC.1 51 i j (by decide) (by decide) (by decide) (by decide) (by omega), hS.1 51 i j (by decide) (by decide) (by decide) (by omega), fD0 51 i j (by decide), hA.1 51 i j (by decide)]
  have sC : C 51 3 0 = S := (hC.1 51 3 0 (by decide) (by decide) (by decide) (by decide) (by omega)).trans hSd
  -- names of the class, to begin
  obtain ⟨C2, hC2⟩ : ∃ C2, qfl1 (qfl1 C 58 0 100 0) 726 0 100 0 = C2 := ⟨_, rfl⟩
  have f2 : ∀ b i j, b ≠ 58 → b ≠ 726 → C2 b i j = C b i j := fun b i j b1 b2 => by
    rw [← hC2, qfl1_ap, if_neg (fun z => b2 z.1), qfl1_ap, if_neg (fun z => b1 z.1)]
  have z2 : ∀ s, 0 ≤ s → s < 100 → C2 58 s 0 = 0 ∧ C2 726 s 0 = 0 := fun s s0 s1 => by
    rw [← hC2, qfl1_ap, if_neg (fun z => absurd z.1 (by decide)), qfl1_ap, if_pos ⟨rfl, s0, s1, rfl⟩, qfl1_ap, if_pos ⟨rfl, s0, s1, rfl⟩]
    exact ⟨rfl, rfl⟩
  have hX : OWX C2 (own D) (own M) := fun x y x0 x1 y0 y1 => by
    have i : 0 ≤ x ∧ x < 24 ∧ 0 ≤ y ∧ y < 24 := ⟨x0, x1, y0, y1⟩
    refine ⟨?_, ?_⟩
    · rw [f2 _ _ _ (by decide) (by decide), hC.1 _ _ _ (by decide) (by decide) (by decide) (by decide) (by omega)]
      exact (if_pos i).symm
    · rw [f2 _ _ _ (by decide) (by decide), cA _ _ _ (by omega) (by decide) (by omega), e57]
      exact (if_pos i).symm
  have hb : ∀ x y, 0 ≤ x → x < 24 → 0 ≤ y → y < 24 → -1 ≤ own D x y ∧ own D x y < S := fun x y x0 x1 y0 y1 => by
    have i : 0 ≤ x ∧ x < 24 ∧ 0 ≤ y ∧ y < 24 := ⟨x0, x1, y0, y1⟩
    have w := hS.2.2.1 (24 * x + y) (by omega) (by omega)
    have e : own D x y = D 56 (24 * x + y) 0 := if_pos i
    omega
  have sV2 : V2 2157 17 0 = S := (fV2 _ _ _ (by decide)).trans (sV1.trans hSd)
  have axV : AXE E V2 := by
    have ax := rch_axe hR
    exact ⟨fun i => by rw [fV2 _ _ _ (by decide), fV1 _ _ _ (by decide) (by decide) (by omega)]; exact ax.1 i, fun i => by rw [fV2 _ _ _ (by decide), fV1 _ _ _ (by decide) (by decide) (by omega)]; exact ax.2.1 i, by rw [fV2 _ _ _ (by decide), fV1 _ _ _ (by decide) (by decide) (by omega)]; exact ax.2.2.1, by rw [fV2 _ _ _ (by decide), fV1 _ _ _ (by decide) (by decide) (by omega)]; exact ax.2.2.2⟩
  have rcV : RCX V2 (own D) := by
    have w := AXS_o xE axV
    refine ⟨w.1, w.2.1, fun x y x0 x1 y0 y1 => ?_, fun x y z => ext_out z⟩
    rw [kuf_o axV, fV2 _ _ _ (by decide)]
    exact cV1 x y x0 x1 y0 y1
  have hadV : V2 2157 18 0 = (K 2157 9 0) := by
    rw [fK _ _ _ (by omega) (by omega), ← hK6, qw_i (by decide), qw_i (by decide), t8]
    exact qw_i (by decide)
  -- the end, on both sides
  have fin : ∀ Cn Vn : qm, CNA C2 Cn → TNA V2 Vn → (∀ s, 0 ≤ s → s < 100 → Vn 2172 s 0 = Cn 58 s 0 ∧ 0 ≤ Cn 58 s 0 ∧ Cn 58 s 0 ≤ 1000) → FND (qw (qw Cn 51 1 0 (w32 (Cn 51 1 0 + 1))) 51 2 0 1) (qw (qw Vn 2157 9 0 1) 2157 10 0 1) ∧ R_spaces (qw (qw Cn 51 1 0 (w32 (Cn 51 1 0 + 1))) 51 2 0 1) (qw (qw Vn 2157 9 0 1) 2157 10 0 1) ∧ R_names (qw (qw Cn 51 1 0 (w32 (Cn 51 1 0 + 1))) 51 2 0 1) (qw (qw Vn 2157 9 0 1) 2157 10 0 1) ∧ R_find0 (qw (qw Cn 51 1 0 (w32 (Cn 51 1 0 + 1))) 51 2 0 1) (qw (qw Vn 2157 9 0 1) 2157 10 0 1) ∧ CFF M (qw (qw Cn 51 1 0 (w32 (Cn 51 1 0 + 1))) 51 2 0 1) ∧ CFG M (qw (qw Cn 51 1 0 (w32 (Cn 51 1 0 + 1))) 51 2 0 1) ∧ KFF K (qw (qw Vn 2157 9 0 1) 2157 10 0 1) ∧ Cn 51 3 0 = S ∧ Vn 2157 17 0 = S := by
    intro Cn Vn g1 g2 g3
    have c51 : ∀ i j, Cn 51 i j = C 51 i j := fun i j => by rw [g1 _ _ _ (by decide) (by decide) (by decide), f2 _ _ _ (by decide) (by decide)]
    have cf : Cn 51 1 0 = (M 51 1 0) := by rw [c51, cA51 _ _ (by omega)]; exact eM _ _ _ (by decide) (by decide) (by decide) (by decide)
    have w1 : w32 (Cn 51 1 0 + 1) = (M 51 1 0) + 1 := by rw [cf]; exact w32_id (by omega) (by omega)
    rw [w1]
    obtain ⟨N, hN⟩ : ∃ N, qw (qw Cn 51 1 0 ((M 51 1 0) + 1)) 51 2 0 1 = N := ⟨_, rfl⟩
    obtain ⟨W, hW⟩ : ∃ W, qw (qw Vn 2157 9 0 1) 2157 10 0 1 = W := ⟨_, rfl⟩
    have nN : ∀ b i j, ¬ (b = 51 ∧ (i = 1 ∨ i = 2)) → N b i j = Cn b i j := fun b i j hn => by
      rw [← hN, qw_ap, if_neg (by omega), qw_ap, if_neg (by omega)]
    have nW : ∀ b i j, ¬ (b = 2157 ∧ (i = 9 ∨ i = 10)) → W b i j = Vn b i j := fun b i j hn => by
      rw [← hW, qw_ap, if_neg (by omega), qw_ap, if_neg (by omega)]
    have n1 : N 51 1 0 = (M 51 1 0) + 1 := by rw [← hN, qw_i (by decide)]; exact qw_s
    have n2 : N 51 2 0 = 1 := by rw [← hN]; exact qw_s
    have w9 : W 2157 9 0 = 1 := by rw [← hW, qw_i (by decide)]; exact qw_s
    have w10 : W 2157 10 0 = 1 := by rw [← hW]; exact qw_s
    have n3 : N 51 3 0 = S := by rw [nN _ _ _ (by omega), c51]; exact sC
    have w17 : W 2157 17 0 = S := by rw [nW _ _ _ (by omega), g2 _ _ _ (by decide) (by decide)]; exact sV2
    have runs : W 2157 11 0 = (K 2157 11 0) + 1 := by
      rw [nW _ _ _ (by omega), g2 _ _ _ (by decide) (by decide), fK _ _ _ (by omega) (by omega), ← hK6, qw_i (by decide), qw_i (by decide), t9 _ _ _ (by omega) (by omega), qw_s]
      exact w32_id (by omega) (by omega)
    rw [hN, hW]
    refine ⟨Or.inr ⟨by rw [n1]; omega, M0, K6, A, D0, D, E, F, G, H, C, q, m, p, R', stt, cnt, hFNS, fun b i j hb => ?_, ⟨fun b i hb => ?_, fun l l0 l1 => ?_⟩, fun x y x0 x1 y0 y1 => ?_, ?_, fun _ => ⟨?_, fun l j l0 l1 => ?_⟩⟩, ?_, fun s s0 s1 => ?_, ?_, fun b i j b1 b2 b3 => ?_, fun i j hi => ?_, fun b i j hb hn => ?_, ?_, ?_⟩
    · rw [nN b i j (by omega), g1 b i j (by omega) (by omega) (by omega), f2 b i j (by omega) (by omega)]
    · rw [nW b i 0 (by omega), g2 b i 0 (by omega) (by omega), fV2 b i 0 (by omega), fV1 b i 0 (by omega) (by omega) (by omega)]
    · rw [nW _ _ _ (by omega), g2 _ _ _ (by decide) (by decide), fV2 _ _ _ (by decide), fV1 _ _ _ (by decide) (by decide) (by omega)]
    · rw [nW _ _ _ (by omega), g2 _ _ _ (by decide) (by decide), fV2 _ _ _ (by decide)]
      exact cV1 x y x0 x1 y0 y1
    · rw [nN _ _ _ (by omega), g1 _ _ _ (by decide) (by decide) (by decide), f2 _ _ _ (by decide) (by decide), cA _ _ _ (by omega) (by decide) (by omega)]
      exact Int.le_refl _
    · rw [nN _ _ _ (by omega), g1 _ _ _ (by decide) (by decide) (by decide), f2 _ _ _ (by decide) (by decide), cA _ _ _ (by omega) (by decide) (by omega)]
    · rw [nN _ _ _ (by omega), g1 _ _ _ (by decide) (by decide) (by decide), f2 _ _ _ (by decide) (by decide), cA _ _ _ (by omega) (by decide) (by omega)]
    · unfold R_spaces
      rw [n3, w17, n1]
      exact ⟨S0, S1, rfl, fun z => by omega⟩
    · rw [n3] at s1
      rw [nN _ _ _ (by omega), nW _ _ _ (by omega)]
      exact g3 s s0 (by omega)
    · unfold R_find0
      rw [n1, n2, w9, w10, runs]
      exact ⟨by omega, by omega, by omega, Or.inr rfl, rfl, by rw [if_neg (by omega)]⟩
    · rw [nN b i j (by omega), g1 b i j (by omega) (by omega) (by omega), f2 b i j (by omega) (by omega), cA b i j (by omega) b2 (by omega)]
      exact eM b i j (by omega) (by omega) (by omega) (by omega)
    · rw [nN _ _ _ (by omega), c51, cA51 _ _ (by omega)]
      exact eM _ _ _ (by decide) (by decide) (by decide) (by decide)
    · rw [nW b i j (by omega), g2 b i j (by omega) (by omega), fK b i j (by omega) (by omega)]
      exact k6 b i j (by omega) hn
    · rw [c51]
      exact sC
    · rw [g2 _ _ _ (by decide) (by decide)]
      exact sV2
  have goC : ∀ (P : Int × qm → Prop), qW (qf_X2_giveNamesOn_L18 20000 20000 ((M 51 3 0)) 0 C2) (fun o => ∃ Cn, o = .inr ((), Cn) ∧ P (Cn 51 3 0, qw (qw Cn 51 1 0 (w32 (Cn 51 1 0 + 1))) 51 2 0 1)) → qW (qf_X2_findSpaces 20000 M) P := by
    intro P hP
    unfold qf_X2_findSpaces qf_X2_swapBefore
    refine qW_bind (qW_some ?_)
    (try dsimp only)
    rw [hM0]
    refine qW_eq eA ?_
    refine qW_eq eD0 ?_
    refine qW_eq eD ?_
    refine qW_eq eC ?_
    (try dsimp only)
    unfold qf_X2_giveNamesOn
    obtain ⟨o, eo, Cn, rfl, hp⟩ := hP
    have e : (qbnd (qfl1 C 58 0 100 0) (fun M3 => qbnd (qfl1 M3 726 0 100 0) (fun M6 => (qf_X2_giveNamesOn_L18 20000 20000 ((M 51 3 0)) 0 M6).bind (fun r => (match r with | .inl o => some o | .inr (_, M11) => some ((), M11)))))) = some ((), Cn) := by
      show (qf_X2_giveNamesOn_L18 20000 20000 ((M 51 3 0)) 0 (qfl1 (qfl1 C 58 0 100 0) 726 0 100 0)).bind _ = _
      rw [hC2, eo]
      rfl
    refine qW_eq e ?_
    refine qW_bnd (qW_bnd (qW_some ?_))
    (try dsimp only)
    rw [qw_i (by decide), qw_i (by decide)]
    exact hp
  have goK : ∀ (P : Int × qm → Prop), (if (K 2157 9 0) = 0 then P (V2 2157 17 0, qw (qw V2 2157 9 0 1) 2157 10 0 1) else qW (qf_X16_carry 20000 V2) (fun r => P (r.2 2157 17 0, qw (qw r.2 2157 9 0 1) 2157 10 0 1))) → qW (qf_X16_run 20000 K) P := by
    intro P hP
    unfold qf_X16_run
    refine qW_bnd ?_
    refine qW_eq eT ?_
    (try dsimp only)
    refine qW_bnd (qW_bnd ?_)
    rw [hK6]
    refine qW_eq eE ?_
    (try dsimp only)
    refine qW_eq eF ?_
    refine qW_eq eG ?_
    refine qW_eq eH ?_
    refine qW_eq eV1 ?_
    refine qW_eq eV2 ?_
    (try dsimp only)
    unfold qf_X16_run_J171
    by_cases g : (K 2157 9 0) = 0
    · rw [if_pos g] at hP
      rw [if_pos (by omega)]
      refine qW_bnd (qW_bnd (qW_some ?_))
      rw [qw_i (by decide), qw_i (by decide)]
      exact hP
    · rw [if_neg g] at hP
      rw [if_neg (by omega)]
      refine qW_call hP ?_
      rintro r hr
      refine qW_bnd (qW_bnd (qW_some ?_))
      rw [qw_i (by decide), qw_i (by decide)]
      exact hr
  by_cases g0 : (M 51 1 0) = 0
  · have hr0 : (K 2157 9 0) = 0 := by rw [s_find.2.2.2.2.2, if_pos g0]
    have hs0 := s_spaces.2.2.2 g0
    refine goC _ ⟨.inr ((), C2), ?_, C2, rfl, ?_⟩
    · rw [hs0]
      unfold qf_X2_giveNamesOn_L18
      refine qloop_r (N := 19999) ?_
      unfold qf_X2_giveNamesOn_L18_b
      rw [if_pos (Int.le_refl _)]
    · refine goK _ ?_
      rw [if_pos hr0]
      have w := fin C2 V2 (fun _ _ _ _ _ _ => rfl) (fun _ _ _ _ _ => rfl) (fun s s0 s1 => by
        rw [(z2 s s0 s1).1, zV2 s s0 (by omega)]
        decide)
      obtain ⟨w1, w2, w3, w4, w5, w6, w7, w8, w9⟩ := w
      exact ⟨by (try dsimp only); rw [w8, w9], w1, w2, w3, w4, w5, w6, w7⟩
  · have hr1 : ¬ (K 2157 9 0) = 0 := by
      rw [s_find.2.2.2.2.2, if_neg g0]
      decide
    obtain ⟨V3, eV3, fV3, zV3⟩ := steps_e (V := V2) sV2 S0 S1
    have hO := fnd_rcx hD g0
    have rc3 : RCX V3 (own D) := RCX_o rcV ⟨fun i => fV3 _ _ _ (by decide), fun i => fV3 _ _ _ (by decide), fV3 _ _ _ (by decide), fV3 _ _ _ (by decide)⟩ (fun i => fV3 _ _ _ (by decide))
    have o6 : ∀ b i, (b = 2169 ∨ b = 2170 ∨ b = 2171 ∨ b = 2173 ∨ (b = 2157 ∧ (i = 19 ∨ i = 20 ∨ i = 24))) → V3 b i 0 = T b i 0 := fun b i hb => by
      rw [fV3 b i 0 (by omega), fK b i 0 (by omega) (by omega), ← hK6, qw_ap, if_neg (by omega), qw_ap, if_neg (by omega)]
    have hOld : OLD V3 K := by
      refine ⟨fun i => ?_, fun i => ?_, fun i => ?_, ?_, ?_⟩
      · rw [o6 _ i (Or.inl rfl), t1]
        exact qw_a (by decide)
      · rw [o6 _ i (Or.inr (Or.inl rfl)), t2]
        exact qw_a (by decide)
      · rw [o6 _ i (Or.inr (Or.inr (Or.inl rfl))), t3]
        exact qw_a (by decide)
      · rw [o6 _ _ (Or.inr (Or.inr (Or.inr (Or.inr ⟨rfl, Or.inl rfl⟩)))), t5]
        exact qw_i (by decide)
      · rw [o6 _ _ (Or.inr (Or.inr (Or.inr (Or.inr ⟨rfl, Or.inr (Or.inl rfl)⟩)))), t6]
        exact qw_i (by decide)
    have hsp : V3 2157 24 0 = (M 51 3 0) := by
      rw [o6 _ _ (Or.inr (Or.inr (Or.inr (Or.inr ⟨rfl, Or.inr (Or.inr rfl)⟩)))), t7, qw_i (by decide)]
      exact s_spaces.2.2.1
    have both := names_both (C := C2) (T := V3) (K0 := K) (n := (M 51 3 0)) hX hb ((f2 _ _ _ (by decide) (by decide)).trans sC) S0 S1 rc3 hO hOld ((fV3 _ _ _ (by decide)).trans sV2) s_spaces.1 s_spaces.2.1 hsp (fun t a b => by
      have w := h_names t a b
      rw [o6 _ t (Or.inr (Or.inr (Or.inr (Or.inl rfl)))), t4, f2 _ _ _ (by decide) (by decide), cA _ _ _ (by omega) (by decide) (by omega), e59, qw_a (by decide)]
      exact w) (fun s s0 s1 => by
      have w := z2 s s0 s1
      exact ⟨w.1, w.2, (fV3 _ _ _ (by decide)).trans (zV2 s s0 (by omega))⟩) zV3
    obtain ⟨o, eo, o2, eo2, Cn, Vn, rfl, rfl, hn⟩ := both
    refine goC _ ⟨.inr ((), Cn), eo, Cn, rfl, ?_⟩
    refine goK _ ?_
    rw [if_neg hr1]
    have ec : qf_X16_carry 20000 V2 = some ((), Vn) := by
      unfold qf_X16_carry
      rw [eV3]
      show (qf_X16_carry_L25 20000 20000 0 V3).bind _ = _
      rw [eo2]
      rfl
    refine ⟨_, ec, ?_⟩
    have w := fin Cn Vn hn.1 (fun b i j b1 b2 => (hn.2.1 b i j b1 b2).trans (fV3 b i j b2)) (fun s s0 s1 => by
      have z := hn.2.2.1 s s0 s1
      exact ⟨z.1, z.2.1, z.2.2.1⟩)
    obtain ⟨w1, w2, w3, w4, w5, w6, w7, w8, w9⟩ := w
    exact ⟨by (try dsimp only); rw [w8, w9], w1, w2, w3, w4, w5, w6, w7⟩
end FP
