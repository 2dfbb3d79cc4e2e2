/-! ===== the bus: stations go on ===== -/
section BUf
variable {M K M' K' Ka Z A : qm} {a b i j k v w x y s t I β : Int} {n m r : Nat} {q p : Int → Int}
theorem qOK_x (h : ∀ i, 0 ≤ i → i < 7 → p i = q i) (ok : qOK q) : qOK p := by
  unfold qOK at ok ⊢
  rw [h 0 (by decide) (by decide), h 1 (by decide) (by decide), h 2 (by decide) (by decide), h 3 (by decide) (by decide), h 4 (by decide) (by decide), h 5 (by decide) (by decide), h 6 (by decide) (by decide)]
  exact ok
def GNC (M Z : qm) (s : Int) : Prop := ∀ e x y, ¬ (e = 1140 ∧ x = s ∧ (y = 1 ∨ y = 2 ∨ y = 5)) → ¬ (e = 1149 ∧ x = s ∧ y = 6) → Z e x y = M e x y
def GNK (K Z : qm) (s : Int) : Prop := ∀ e x y, ¬ ((e = 2260 ∨ e = 2261 ∨ e = 2266) ∧ x = s) → ¬ (e = 2259 ∧ 144 * s ≤ x ∧ x < 144 * s + 24) → Z e x y = K e x y
/-- whatever is done to the answer: it is a station again -/
def BLD (M1 K1 : qm) (s : Int) : Prop := ∀ Z W : qm, (∀ e x y, ¬ (e = 1140 ∧ x = s ∧ (y = 8 ∨ y = 9)) → Z e x y = M1 e x y) → (∀ e x y, ¬ ((e = 2262 ∨ e = 2263) ∧ x = s) → W e x y = K1 e x y) → ANB Z W s → STN Z W s
theorem bld_upd (h : STN M K s) (hKa : ∀ e x y, ¬ ((e = 2262 ∨ e = 2263) ∧ x = s) → Ka e x y = K e x y) (e1 : ∀ j, j ≠ 1 → j ≠ 5 → M' 1140 s j = M 1140 s j) (e2 : ∀ j, M' 1149 s j = M 1149 s j) (e3 : ∀ j, M' 1158 s j = M 1158 s j) (e4 : ∀ b, b = 2255 ∨ b = 2257 ∨ b = 2258 ∨ b = 2261 ∨ b = 2264 ∨ b = 2265 → K' b s 0 = Ka b s 0) (e5 : ∀ i, K' 2259 i 0 = Ka 2259 i 0) (sy : K' 2260 s 0 = M' 1140 s 1) (s0 : -1 ≤ M' 1140 s 1) (ct : K' 2266 s 0 = M' 1140 s 5) (sp : 0 ≤ M' 1140 s 1 → 0 ≤ M 1140 s 1 ∧ M' 1140 s 1 < 13 * (qC M s 0 4 + 7) - 2) : BLD M' K' s := fun Z W hZ hW an => by
  have z1 : Z 1140 s 1 = M' 1140 s 1 := hZ _ _ _ (by omega)
  have w60 : W 2260 s 0 = K' 2260 s 0 := hW _ _ _ (by omega)
  refine stn_upd h (fun j j1 j5 j8 j9 => (hZ _ _ _ (by omega)).trans (e1 j j1 j5)) (fun j => (hZ _ _ _ (by omega)).trans (e2 j)) (fun j => (hZ _ _ _ (by omega)).trans (e3 j)) (fun b hb => ((hW _ _ _ (by omega)).trans (e4 b hb)).trans (hKa _ _ _ (by omega))) (fun i _ _ => ((hW _ _ _ (by omega)).trans (e5 i)).trans (hKa _ _ _ (by omega))) ?_ ?_ ?_ an ?_
  · rw [z1, w60]
    exact sy
  · rw [z1]
    exact s0
  · rw [hW _ _ _ (by omega), hZ _ _ _ (by omega)]
    exact ct
  · rw [z1]
    exact sp
/-- a station goes on saying -/
theorem say_go (h : STN M K s) (s0 : 0 ≤ s) (s1 : s < 8) (hKa : ∀ e x y, ¬ ((e = 2262 ∨ e = 2263) ∧ x = s) → Ka e x y = K e x y) (hn : M 1139 5 0 = t) (hk : Ka 2252 0 0 = t) (hb : Ka 2253 t 0 = β) (b01 : β = 0 ∨ β = 1) (t1 : 1 ≤ t) (t2 : t ≤ 180000) : ∃ M1 K1, qf_X1_goOnSaying 20000 s β M = some ((), M1) ∧ qf_X12_goOn_J46 20000 s Ka = some ((), K1) ∧ GNC M M1 s ∧ GNK Ka K1 s ∧ (M1 1140 s 1 = -1 ∨ (M 1140 s 1 ≠ -1 ∧ M1 1140 s 1 = M 1140 s 1 + 1)) ∧ BLD M1 K1 s := by
  have sr : 0 ≤ s ∧ s < 8 := ⟨s0, s1⟩
  have ka60 : Ka 2260 s 0 = M 1140 s 1 := (hKa _ _ _ (by omega)).trans h.sy
  have ka66 : Ka 2266 s 0 = M 1140 s 5 := (hKa _ _ _ (by omega)).trans h.ct.2.2
  have hs0 := h.s0
  by_cases g : M 1140 s 1 = -1
  · refine ⟨M, Ka, ?_, ?_, fun _ _ _ _ _ => rfl, fun _ _ _ _ _ => rfl, Or.inl g, bld_upd h hKa (fun _ _ _ => rfl) (fun _ => rfl) (fun _ => rfl) (fun _ _ => rfl) (fun _ => rfl) ka60 hs0 ka66 (fun z => by omega)⟩
    · unfold qf_X1_goOnSaying
      rw [if_pos sr, if_pos g]
    · unfold qf_X12_goOn_J46
      rw [if_pos sr, if_neg (show ¬ 0 ≤ Ka 2260 s 0 by omega)]
  · have k0 : 0 ≤ M 1140 s 1 := by omega
    obtain ⟨γ, c1, c2, c3⟩ := said_both h s0 s1 k0
    rw [← tel_o (K' := Ka) (fun i => hKa _ _ _ (by omega))] at c3
    obtain ⟨p1, p2, p3, p4⟩ := h.sp k0
    have qu := h.qu 0 (by omega) p1
    obtain ⟨q, hq⟩ : ∃ q, qC M s 0 = q := ⟨_, rfl⟩
    rw [hq] at p3 p4 qu
    have ok := qu.1
    have o := ok
    unfold qOK at o
    obtain ⟨k, hkk⟩ : ∃ k, M 1140 s 1 = k := ⟨_, rfl⟩
    rw [hkk] at k0 c3 ka60 p3 g
    have eq : ∀ i, M 1149 s i = q i := fun i => by
      rw [← hq]
      exact qC_0.symm
    -- it is stopped
    by_cases gs : β = 0 ∧ γ = 1
    · refine ⟨qw (qw M 1140 s 1 (-1)) 1140 s 5 (w32 (M 1140 s 5 + 1)), qw (qw Ka 2260 s 0 (-1)) 2266 s 0 (w32 (M 1140 s 5 + 1)), ?_, ?_, fun e x y z1 z2 => by rw [qw_ap, if_neg (by omega), qw_ap, if_neg (by omega)], fun e x y z1 z2 => by rw [qw_ap, if_neg (by omega), qw_ap, if_neg (by omega)], Or.inl ?_, bld_upd h hKa (fun j z1 z2 => by rw [qw_ap, if_neg (by omega), qw_ap, if_neg (by omega)]) (fun j => by rw [qw_a (by decide), qw_a (by decide)]) (fun j => by rw [qw_a (by decide), qw_a (by decide)]) (fun b hb => by rw [qw_a (by omega), qw_a (by omega)]) (fun i => by rw [qw_a (by decide), qw_a (by decide)]) ?_ ?_ ?_ ?_⟩
      · unfold qf_X1_goOnSaying qbnd
        rw [if_pos sr, hkk, if_neg g, if_pos gs.1, c2]
        simp only [Option.bind_some]
        rw [if_pos gs.2, show qw M 1140 s 1 (-1) 1140 s 5 = M 1140 s 5 by rw [qw_ap, if_neg (by omega)]]
      · unfold qf_X12_goOn_J46 qbnd
        rw [if_pos sr, ka60, if_pos k0, if_pos sr, c3]
        simp only [Option.bind_some]
        rw [if_neg (show ¬ γ = 0 by omega), hk, if_pos (show 0 ≤ t ∧ t < 180001 by omega), hb, if_pos gs.1, if_pos sr, if_pos sr, if_pos sr, show qw Ka 2260 s 0 (-1) 2266 s 0 = M 1140 s 5 from (qw_a (by decide)).trans ka66]
      · rw [qw_ap, if_neg (by omega)]
        exact qw_s
      · rw [qw_a (by decide), qw_ap (b := 1140) (a := 1140), if_neg (by omega)]
        exact qw_s.trans qw_s.symm
      · rw [qw_ap, if_neg (by omega)]
        exact Int.le_of_eq (Eq.symm qw_s)
      · exact qw_s.trans qw_s.symm
      · intro z
        rw [qw_ap, if_neg (by omega)] at z
        have e : qw M 1140 s 1 (-1) 1140 s 1 = -1 := qw_s
        omega
    · -- it goes on
      have cC : qf_X1_goOnSaying 20000 s β M = qf_X1_goOnSaying_J40 20000 s s M := by
        unfold qf_X1_goOnSaying
        rw [if_pos sr, hkk, if_neg g]
        by_cases gb : β = 0
        · rw [if_pos gb, c2]
          simp only [Option.bind_some]
          rw [if_neg (show ¬ γ = 1 by omega)]
        · rw [if_neg gb]
      have cK : qf_X12_goOn_J46 20000 s Ka = qf_X12_goOn_J106 20000 s (144 * s) Ka := by
        unfold qf_X12_goOn_J46
        rw [if_pos sr, ka60, if_pos k0, if_pos sr, c3]
        simp only [Option.bind_some]
        rw [w32_id (x := 144 * s) (by omega) (by omega)]
        by_cases gc : γ = 0
        · rw [if_pos gc]
        · rw [if_neg gc, hk, if_pos (show 0 ≤ t ∧ t < 180001 by omega), hb, if_neg (show ¬ β = 0 by omega)]
      rw [cC, cK]
      obtain ⟨M5, hM5⟩ : ∃ X, qw M 1140 s 1 (k + 1) = X := ⟨_, rfl⟩
      obtain ⟨K5, hK5⟩ : ∃ X, qw Ka 2260 s 0 (k + 1) = X := ⟨_, rfl⟩
      have m5 : M5 1140 s 1 = k + 1 := by rw [← hM5]; exact qw_s
      have k5 : K5 2260 s 0 = k + 1 := by rw [← hK5]; exact qw_s
      have m54 : M5 1149 s 4 = q 4 := by rw [← hM5, qw_a (by decide)]; exact eq 4
      have ti := qu.2.2
      rw [show 144 * s + 24 * 0 = 144 * s by omega] at ti
      have k21 : K5 2259 (144 * s + 21) 0 = q 4 + 7 := by
        rw [← hK5, qw_a (by decide), hKa _ _ _ (by omega)]
        exact ti.2.1
      by_cases ge : k + 1 < 13 * (q 4 + 7) - 2
      · refine ⟨M5, K5, ?_, ?_, fun e x y z1 z2 => by rw [← hM5, qw_ap, if_neg (by omega)], fun e x y z1 z2 => by rw [← hK5, qw_ap, if_neg (by omega)], Or.inr ⟨by omega, by omega⟩, bld_upd h hKa (fun j z1 z2 => by rw [← hM5, qw_ap, if_neg (by omega)]) (fun j => by rw [← hM5, qw_a (by decide)]) (fun j => by rw [← hM5, qw_a (by decide)]) (fun b hb => by rw [← hK5, qw_a (by omega)]) (fun i => by rw [← hK5, qw_a (by decide)]) (by omega) (by omega) (by rw [← hK5, qw_a (by decide), ← hM5, qw_ap, if_neg (by omega)]; exact ka66) (fun _ => ⟨by omega, by rw [hq, m5]; exact ge⟩)⟩
        · unfold qf_X1_goOnSaying_J40 qbnd
          rw [hkk, w32_id (x := k + 1) (by omega) (by omega)]
          (try dsimp only)
          rw [hM5, if_pos sr, m5, m54, w32_id (x := 7 + q 4) (by omega) (by omega), w32_id (x := (7 + q 4) * 13) (by omega) (by omega), w32_id (x := (7 + q 4) * 13 - 2) (by omega) (by omega), if_pos (show k + 1 < (7 + q 4) * 13 - 2 by omega)]
        · unfold qf_X12_goOn_J106 qbnd
          rw [if_pos sr, if_pos sr, ka60, w32_id (x := k + 1) (by omega) (by omega)]
          (try dsimp only)
          rw [hK5, if_pos sr, w32_id (x := 144 * s + 21) (by omega) (by omega), if_pos (show 0 ≤ 144 * s + 21 ∧ 144 * s + 21 < 1152 by omega), k5, k21, w32_id (x := 13 * (q 4 + 7)) (by omega) (by omega), w32_id (x := 13 * (q 4 + 7) - 2) (by omega) (by omega), if_neg (show ¬ k + 1 = 13 * (q 4 + 7) - 2 by omega)]
      · -- it is at its end
        obtain ⟨M6, hM6⟩ : ∃ X, qw (qw M5 1140 s 1 (-1)) 1140 s 2 (t + 28) = X := ⟨_, rfl⟩
        obtain ⟨K6, hK6⟩ : ∃ X, qw (qw K5 2260 s 0 (-1)) 2261 s 0 (t + 28) = X := ⟨_, rfl⟩
        have fM6 : ∀ e x y, ¬ (e = 1140 ∧ x = s ∧ (y = 1 ∨ y = 2)) → M6 e x y = M e x y := fun e x y z => by rw [← hM6, qw_ap, if_neg (by omega), qw_ap, if_neg (by omega), ← hM5, qw_ap, if_neg (by omega)]
        have fK6 : ∀ e x y, ¬ ((e = 2260 ∨ e = 2261) ∧ x = s) → K6 e x y = Ka e x y := fun e x y z => by rw [← hK6, qw_ap, if_neg (by omega), qw_ap, if_neg (by omega), ← hK5, qw_ap, if_neg (by omega)]
        have m61 : M6 1140 s 1 = -1 := by rw [← hM6, qw_ap, if_neg (by omega)]; exact qw_s
        have m62 : M6 1140 s 2 = t + 28 := by rw [← hM6]; exact qw_s
        have k61 : K6 2260 s 0 = -1 := by rw [← hK6, qw_a (by decide)]; exact qw_s
        have k62 : K6 2261 s 0 = t + 28 := by rw [← hK6]; exact qw_s
        have q63 := h.tm p2 p1
        rw [hq] at q63
        have ti6 : tgIn K6 q (144 * s) := tgIn_x ti (fun i _ _ => (fK6 _ _ _ (by omega)).trans (hKa _ _ _ (by omega))) (fun _ _ _ => rfl) ok
        obtain ⟨Y, eY, tY, fY⟩ := told_on ok q63 ti6 (by omega) (by omega)
        obtain ⟨M7, hM7⟩ : ∃ X, qw M6 1149 s 6 (q 6 + 1) = X := ⟨_, rfl⟩
        have fM7 : ∀ e x y, ¬ (e = 1149 ∧ x = s ∧ y = 6) → M7 e x y = M6 e x y := fun e x y z => by rw [← hM7, qw_ap, if_neg (by omega)]
        refine ⟨M7, Y, ?_, ?_, fun e x y z1 z2 => (fM7 e x y z2).trans (fM6 e x y (by omega)), fun e x y z1 z2 => (fY e x y z2).trans (fK6 e x y (by omega)), Or.inl ((fM7 _ _ _ (by omega)).trans m61), fun Z W hZ hW an => ?_⟩
        · unfold qf_X1_goOnSaying_J40 qbnd
          rw [hkk, w32_id (x := k + 1) (by omega) (by omega)]
          (try dsimp only)
          rw [hM5, if_pos sr, m5, m54, w32_id (x := 7 + q 4) (by omega) (by omega), w32_id (x := (7 + q 4) * 13) (by omega) (by omega), w32_id (x := (7 + q 4) * 13 - 2) (by omega) (by omega), if_neg (show ¬ k + 1 < (7 + q 4) * 13 - 2 by omega), show qw M5 1140 s 1 (-1) 1139 5 0 = t from (qw_a (by decide)).trans (by rw [← hM5, qw_a (by decide)]; exact hn), w32_id (x := t + 28) (by omega) (by omega), hM6, if_pos sr, show M6 1149 s 6 = q 6 from (fM6 _ _ _ (by omega)).trans (eq 6), w32_id (x := q 6 + 1) (by omega) (by omega), hM7]
        · have e52 : qw K5 2260 s 0 (-1) 2252 0 0 = t := by
            rw [qw_a (by decide), ← hK5, qw_a (by decide)]
            exact hk
          unfold qf_X12_goOn_J106 qbnd
          rw [if_pos sr, if_pos sr, ka60, w32_id (x := k + 1) (by omega) (by omega)]
          (try dsimp only)
          rw [hK5, if_pos sr, w32_id (x := 144 * s + 21) (by omega) (by omega), if_pos (show 0 ≤ 144 * s + 21 ∧ 144 * s + 21 < 1152 by omega), k5, k21, w32_id (x := 13 * (q 4 + 7)) (by omega) (by omega), w32_id (x := 13 * (q 4 + 7) - 2) (by omega) (by omega), if_pos (show k + 1 = 13 * (q 4 + 7) - 2 by omega), if_pos sr, if_pos sr, e52, w32_id (x := t + 28) (by omega) (by omega), hK6, w32_id (x := 144 * s + 23) (by omega) (by omega), if_pos (show 0 ≤ 144 * s + 23 ∧ 144 * s + 23 < 1152 by omega)]
          exact eY
        · have gZ : ∀ e x y, ¬ (e = 1140 ∧ x = s ∧ (y = 1 ∨ y = 2 ∨ y = 8 ∨ y = 9)) → ¬ (e = 1149 ∧ x = s ∧ y = 6) → Z e x y = M e x y := fun e x y z1 z2 => ((hZ e x y (by omega)).trans (fM7 e x y z2)).trans (fM6 e x y (by omega))
          have gW : ∀ e x y, ¬ ((e = 2260 ∨ e = 2261 ∨ e = 2262 ∨ e = 2263) ∧ x = s) → ¬ (e = 2259 ∧ 144 * s ≤ x ∧ x < 144 * s + 24) → W e x y = K e x y := fun e x y z1 z2 => (((hW e x y (by omega)).trans (fY e x y z2)).trans (fK6 e x y (by omega))).trans (hKa e x y (by omega))
          have z1 : Z 1140 s 1 = -1 := ((hZ _ _ _ (by omega)).trans (fM7 _ _ _ (by omega))).trans m61
          have z2 : Z 1140 s 2 = t + 28 := ((hZ _ _ _ (by omega)).trans (fM7 _ _ _ (by omega))).trans m62
          have w1 : W 2260 s 0 = -1 := ((hW _ _ _ (by omega)).trans (fY _ _ _ (by omega))).trans k61
          have w2 : W 2261 s 0 = t + 28 := ((hW _ _ _ (by omega)).trans (fY _ _ _ (by omega))).trans k62
          have z6 : Z 1149 s 6 = q 6 + 1 := by
            rw [hZ _ _ _ (by omega), ← hM7]
            exact qw_s
          have zq0 : qC Z s 0 = (fun j => if j = 6 then q 6 + 1 else q j) := funext fun i => by
            rw [qC_0]
            by_cases e : i = 6
            · rw [if_pos e, e]
              exact z6
            · rw [if_neg e, gZ 1149 s i (by omega) (by omega)]
              exact eq i
          refine ⟨?_, ?_, ?_, ?_, ?_, ?_, ?_, ?_, ?_, ?_, an, fun k' k0' k1' => ?_, fun z => ?_, fun _ => ?_, fun z => ?_⟩
          · rw [gW 2258 s 0 (by omega) (by omega), gZ 1140 s 0 (by omega) (by omega)]
            exact h.qd
          · rw [gZ 1140 s 0 (by omega) (by omega)]
            exact h.q0
          · rw [gZ 1140 s 0 (by omega) (by omega)]
            exact h.q6
          · rw [w1, z1]
          · rw [z1]
            decide
          · rw [w2, z2]
          · rw [z2]
            omega
          · rw [gW 2264 s 0 (by omega) (by omega), gW 2265 s 0 (by omega) (by omega), gW 2266 s 0 (by omega) (by omega), gZ 1140 s 3 (by omega) (by omega), gZ 1140 s 4 (by omega) (by omega), gZ 1140 s 5 (by omega) (by omega)]
            exact h.ct
          · rw [gW 2255 s 0 (by omega) (by omega), gZ 1140 s 6 (by omega) (by omega)]
            exact h.ad
          · rw [gW 2257 s 0 (by omega) (by omega), gZ 1140 s 7 (by omega) (by omega)]
            exact h.bs
          · rw [gZ 1140 s 0 (by omega) (by omega)] at k1'
            by_cases e : k' = 0
            · rw [e, zq0, show 144 * s + 24 * 0 = 144 * s by omega]
              refine ⟨?_, fun z => by omega, tgIn_x tY (fun i i0 i1 => hW _ _ _ (by omega)) (fun _ _ _ => rfl) ?_⟩
              · unfold qOK
                (try dsimp only)
                rw [if_pos rfl, if_neg (by decide), if_neg (by decide), if_neg (by decide), if_neg (by decide), if_neg (by decide), if_neg (by decide)]
                omega
              · unfold qOK
                (try dsimp only)
                rw [if_pos rfl, if_neg (by decide), if_neg (by decide), if_neg (by decide), if_neg (by decide), if_neg (by decide), if_neg (by decide)]
                omega
            · obtain ⟨h1, h2, h3⟩ := h.qu k' k0' k1'
              have sm : ∀ i, 0 ≤ i → i < 7 → qC Z s k' i = qC M s k' i := fun i i0 i1 => gZ 1149 s (7 * k' + i) (by omega) (by omega)
              have h6 := h.q6
              refine ⟨qOK_x sm h1, fun z => (sm 6 (by decide) (by decide)).trans (h2 z), tgIn_x h3 (fun i i0 i1 => gW _ _ _ (by omega) (by omega)) sm h1⟩
          · rw [z1] at z
            omega
          · rw [gZ 1140 s 0 (by omega) (by omega)]
            exact p1
          · rw [z2] at z
            omega
end BUf
