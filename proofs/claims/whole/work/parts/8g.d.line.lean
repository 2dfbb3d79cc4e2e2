/-! ===== the bus: idle; the bit that a station says; the line ===== -/
section BUd
variable {M K M' K' Z A : qm} {a b i j k v w x y s t I : Int} {n m r : Nat} {q : Int → Int}
theorem beg_id_C (hI : M 1139 6 0 < 50) : qf_X1_runBitTime_L37 20000 20000 0 M = some (.inr ((), M)) := by
  obtain ⟨o, e1, ho⟩ : qW (qf_X1_runBitTime_L37 20000 20000 0 M) (fun o => o = .inr ((), M)) := by
    unfold qf_X1_runBitTime_L37
    refine qW_for 8 (fun i r => r = (i, M)) ?_ ?_ rfl (by omega) (by omega)
    · rintro i _ i0 i1 rfl
      have e : qf_X1_beginSaying 20000 i M = some ((), M) := by
        unfold qf_X1_beginSaying qf_X1_beginSaying_J54 qf_X1_beginSaying_J56
        rw [if_pos (show 0 ≤ i ∧ i < 8 from ⟨i0, i1⟩), if_pos (show 0 ≤ i ∧ i < 8 from ⟨i0, i1⟩), if_pos hI, if_pos (show M 1139 6 0 < 53 by omega)]
        by_cases g1 : M 1140 i 1 = -1
        · rw [if_pos g1]
          by_cases g2 : M 1140 i 2 = -1
          · rw [if_pos g2]
            by_cases g3 : M 1140 i 0 = 0
            · rw [if_pos g3]
            · rw [if_neg g3]
              by_cases g4 : M 1149 i 0 < 2
              · rw [if_pos g4]
              · rw [if_neg g4]
                by_cases g5 : M 1149 i 6 = 0
                · rw [if_pos g5]
                · rw [if_neg g5]
          · rw [if_neg g2]
        · rw [if_neg g1]
      show qW (qf_X1_runBitTime_L37_b 20000 i M) _
      unfold qf_X1_runBitTime_L37_b
      rw [if_neg (show ¬ (8 : Int) ≤ i by omega), e, w32_id (x := i + 1) (by omega) (by omega)]
      exact qW_some rfl
    · rintro _ rfl
      show qW (qf_X1_runBitTime_L37_b 20000 8 M) _
      unfold qf_X1_runBitTime_L37_b
      rw [if_pos (Int.le_refl _)]
      exact qW_some rfl
  rw [e1, ho]
theorem beg_id_K (hI : v < 50) (hs : ∀ s, 0 ≤ s → s < 8 → -1 ≤ K 2260 s 0) : qf_X12_bitTime_L17 20000 20000 v 0 K = some (.inr ((), K)) := by
  obtain ⟨o, e1, ho⟩ : qW (qf_X12_bitTime_L17 20000 20000 v 0 K) (fun o => o = .inr ((), K)) := by
    unfold qf_X12_bitTime_L17
    refine qW_for 8 (fun i r => r = (v, i, K)) ?_ ?_ rfl (by omega) (by omega)
    · rintro i _ i0 i1 rfl
      have ir : 0 ≤ i ∧ i < 8 := ⟨i0, i1⟩
      have e : qf_X12_begin 20000 i v K = some ((), K) := by
        by_cases g1 : 0 ≤ K 2260 i 0
        · unfold qf_X12_begin
          rw [if_pos ir, if_pos g1]
        · have k1 : K 2260 i 0 = -1 := by
            have := hs i i0 i1
            omega
          have self : qw K 2260 i 0 (-1) = K := by
            rw [← k1]
            exact qw_self
          unfold qf_X12_begin qf_X12_begin_J64 qf_X12_begin_J65 qf_X12_begin_J83 qbnd
          rw [if_pos ir, if_neg g1, if_pos ir]
          by_cases g2 : 0 ≤ K 2261 i 0
          · rw [if_pos g2]
          · rw [if_neg g2, if_pos ir]
            by_cases g3 : K 2258 i 0 ≤ 0
            · rw [if_pos g3]
            · rw [if_neg g3, w32_id (x := 144 * i) (by omega) (by omega), w32_id (x := 144 * i + 22) (by omega) (by omega), w32_id (x := 144 * i + 23) (by omega) (by omega), if_pos (show 0 ≤ 144 * i + 22 ∧ 144 * i + 22 < 1152 by omega), if_pos (show 0 ≤ 144 * i + 23 ∧ 144 * i + 23 < 1152 by omega), if_pos (show (0 : Int) = 0 from rfl), if_neg (show ¬ (1 : Int) = 0 by decide), if_pos hI, if_pos (show v < 53 by omega), if_pos ir, self]
              (try dsimp only)
              by_cases g4 : K 2259 (144 * i + 22) 0 ≤ 1
              · rw [if_pos g4]
              · rw [if_neg g4]
                by_cases g5 : K 2259 (144 * i + 23) 0 = 0
                · rw [if_pos g5]
                · rw [if_neg g5]
      show qW (qf_X12_bitTime_L17_b 20000 v i K) _
      unfold qf_X12_bitTime_L17_b
      rw [if_neg (show ¬ (8 : Int) ≤ i by omega), e, w32_id (x := i + 1) (by omega) (by omega)]
      exact qW_some rfl
    · rintro _ rfl
      show qW (qf_X12_bitTime_L17_b 20000 v 8 K) _
      unfold qf_X12_bitTime_L17_b
      rw [if_pos (Int.le_refl _)]
      exact qW_some rfl
  rw [e1, ho]
/-- how long the line has been idle, behind the bit time t -/
def IDR (K : qm) (t I : Int) : Prop := 0 ≤ I ∧ (∀ j, 0 ≤ j → j < I → 1 ≤ t - j → K 2253 (t - j) 0 = 1) ∧ ((1 ≤ t - I ∧ K 2253 (t - I) 0 = 0) ∨ I = 1000 + t)
theorem idle_K (h : IDR K (t - 1) I) (t1 : 1 ≤ t) (t2 : t ≤ 180000) (hn : K 2252 0 0 = t) : qf_X12_idle 20000 K = some (min 60 I) := by
  obtain ⟨h0, h1, h2⟩ := h
  obtain ⟨o, e1, ho⟩ : qW (qf_X12_idle_L2 20000 20000 0 K) (fun o => o = .inr (min 60 I)) := by
    unfold qf_X12_idle_L2
    refine qW_for (min 60 I) (fun i r => r = i) ?_ ?_ rfl (by omega) (by omega)
    · intro i r i0 i1 hr
      rw [hr]
      unfold qf_X12_idle_L2_b
      rw [if_neg (show ¬ (60 : Int) ≤ i by omega), hn, w32_id (x := t - 1) (by omega) (by omega), w32_id (x := t - 1 - i) (by omega) (by omega), w32_id (x := i + 1) (by omega) (by omega)]
      by_cases g : t - 1 - i < 1
      · rw [if_pos g]
        exact qW_some rfl
      · rw [if_neg g, if_pos (show 0 ≤ t - 1 - i ∧ t - 1 - i < 180001 by omega), if_neg (show ¬ K 2253 (t - 1 - i) 0 = 0 by rw [h1 i i0 (by omega) (by omega)]; decide)]
        exact qW_some rfl
    · intro r hr
      rw [hr]
      unfold qf_X12_idle_L2_b
      by_cases g : 60 ≤ I
      · rw [if_pos (show (60 : Int) ≤ min 60 I by omega)]
        exact qW_some rfl
      · rw [if_neg (show ¬ (60 : Int) ≤ min 60 I by omega), show min 60 I = I by omega, hn, w32_id (x := t - 1) (by omega) (by omega), w32_id (x := t - 1 - I) (by omega) (by omega)]
        rcases h2 with ⟨z1, z2⟩ | z
        · rw [if_neg (show ¬ t - 1 - I < 1 by omega), if_pos (show 0 ≤ t - 1 - I ∧ t - 1 - I < 180001 by omega), if_pos z2]
          exact qW_some rfl
        · omega
  unfold qf_X12_idle
  rw [e1, ho]
  rfl
theorem tgA_b (ok : qOK q) (j0 : 0 ≤ j) (j1 : j < q 4 + 7) : 0 ≤ tgA q j ∧ tgA q j < 256 := by
  have o := ok
  unfold qOK at o
  obtain ⟨o0, o1, o2, o3, o4, o5, o6, o7, o8, o9, o10, o11, o12⟩ := o
  have hB : ∀ j, 0 ≤ j → 0 ≤ tgB q j ∧ tgB q j < 256 := fun j j0 => by
    unfold tgB
    by_cases g0 : j = 0
    · rw [if_pos g0]
      by_cases z : 0 < q 6
      · rw [if_pos z]
        omega
      · rw [if_neg z]
        omega
    · rw [if_neg g0]
      by_cases g1 : j = 1
      · rw [if_pos g1]
        omega
      · rw [if_neg g1]
        by_cases g2 : j = 2
        · rw [if_pos g2]
          omega
        · rw [if_neg g2]
          by_cases g3 : j = 3
          · rw [if_pos g3]
            omega
          · rw [if_neg g3]
            by_cases g4 : j = 4
            · rw [if_pos g4]
              omega
            · rw [if_neg g4]
              by_cases g5 : j = 5
              · rw [if_pos g5]
                by_cases z : q 3 = 0
                · rw [if_pos z]
                  omega
                · rw [if_neg z]
                  omega
              · rw [if_neg g5]
                omega
  unfold tgA
  by_cases g : j < q 4 + 6
  · rw [if_pos g]
    exact hB j j0
  · rw [if_neg g]
    exact xrF_b _ (fun k k0 k1 => hB k k0)
/-- the bit that a station says -/
theorem said_both (h : STN M K s) (s0 : 0 ≤ s) (s1 : s < 8) (hk : 0 ≤ M 1140 s 1) : ∃ β, (β = 0 ∨ β = 1) ∧ qf_X1_saidBit 20000 s M = some β ∧ qf_X12_telegramBit 20000 s (M 1140 s 1) K = some β := by
  obtain ⟨p1, p2, p3, p4⟩ := h.sp hk
  have qu := h.qu 0 (by omega) p1
  have ok := qu.1
  have o := ok
  unfold qOK at o
  obtain ⟨k, hkk⟩ : ∃ k, M 1140 s 1 = k := ⟨_, rfl⟩
  rw [hkk] at hk p3 ⊢
  obtain ⟨n, hn⟩ : ∃ n, qC M s 0 4 = n := ⟨_, rfl⟩
  rw [hn] at p3 p4 o
  obtain ⟨j, hj⟩ : ∃ j, k / 13 = j := ⟨_, rfl⟩
  obtain ⟨b, hb⟩ : ∃ b, k % 13 = b := ⟨_, rfl⟩
  have j0 : 0 ≤ j := by omega
  have j1 : j < n + 7 := by omega
  have b0 : 0 ≤ b := by omega
  have b1 : b < 13 := by omega
  have vb := tgA_b ok j0 (by rw [hn]; exact j1)
  have tj := qu.2.2.1 j j0 (by rw [hn]; exact j1)
  rw [show 144 * s + 24 * 0 + j = 144 * s + j by omega] at tj
  have sj := p4 j j0 j1
  rw [tj] at sj
  obtain ⟨v, hv⟩ : ∃ v, tgA (qC M s 0) j = v := ⟨_, rfl⟩
  rw [hv] at vb tj sj
  have cC : qf_X1_characterBit 20000 v b M = some (chB v.toNat b.toNat) := by
    have q := chB_C (n := v.toNat) (s := b.toNat) (Z := M) (by omega) (by omega)
    rw [show ((v.toNat : Nat) : Int) = v by omega, show ((b.toNat : Nat) : Int) = b by omega] at q
    exact q
  have c01 := chB_b (n := v.toNat) (s := b.toNat) (by omega) (by omega)
  refine ⟨chB v.toNat b.toNat, c01, ?_, ?_⟩
  · unfold qf_X1_saidBit
    rw [hkk, td_e hk, tm_e hk, hj, hb, if_pos (show 0 ≤ s ∧ s < 8 from ⟨s0, s1⟩), if_pos (show 0 ≤ s ∧ s < 8 from ⟨s0, s1⟩), if_pos (show 0 ≤ j ∧ j < 22 by omega), sj, cC]
    rfl
  · unfold qf_X12_telegramBit
    rw [td_e hk, tm_e hk, hj, hb]
    by_cases g : 10 < b
    · rw [if_pos g]
      have e : chB v.toNat b.toNat = 1 := by
        unfold chB
        rw [if_neg (show ¬ b.toNat = 0 by omega), if_neg (show ¬ b.toNat ≤ 8 by omega), if_neg (show ¬ b.toNat = 9 by omega)]
      rw [e]
    · have cK : qf_X12_letterBit 20000 v b K = some (chB v.toNat b.toNat) := by
        have q := chB_K (n := v.toNat) (s := b.toNat) (Z := K) (by omega) (by omega)
        rw [show ((v.toNat : Nat) : Int) = v by omega, show ((b.toNat : Nat) : Int) = b by omega] at q
        exact q
      rw [if_neg g, w32_id (x := 144 * s) (by omega) (by omega), w32_id (x := 144 * s + j) (by omega) (by omega), if_pos (show 0 ≤ 144 * s + j ∧ 144 * s + j < 1152 by omega), tj, cK]
      simp only [Option.bind_some]
      rcases c01 with z | z
      · rw [z, if_pos rfl]
      · rw [z, if_neg (by decide)]
/-- the bit of a station's answer -/
theorem answ_both (h : STN M K s) (hk : M 1140 s 9 ≠ -1) : ∃ β, (β = 0 ∨ β = 1) ∧ qf_X1_characterBit 20000 (M 1140 s 8) (M 1140 s 9) M = some β ∧ qf_X12_letterBit 20000 (K 2262 s 0) (K 2263 s 0) K = some β ∧ 0 ≤ K 2262 s 0 := by
  rcases h.an with ⟨_, z⟩ | ⟨a1, a2, a3, a4, a5, a6⟩
  · exact absurd z hk
  · obtain ⟨v, hv⟩ : ∃ v, M 1140 s 8 = v := ⟨_, rfl⟩
    obtain ⟨b, hb⟩ : ∃ b, M 1140 s 9 = b := ⟨_, rfl⟩
    rw [hv] at a1 a2 a3
    rw [hb] at a4 a5 a6
    have q := chB_C (n := v.toNat) (s := b.toNat) (Z := M) (by omega) (by omega)
    have q2 := chB_K (n := v.toNat) (s := b.toNat) (Z := K) (by omega) (by omega)
    rw [show ((v.toNat : Nat) : Int) = v by omega, show ((b.toNat : Nat) : Int) = b by omega] at q q2
    refine ⟨_, chB_b (n := v.toNat) (s := b.toNat) (by omega) (by omega), ?_, ?_, by omega⟩
    · rw [hv, hb]
      exact q
    · rw [a1, a4]
      exact q2
/-- the line's bit, of all stations -/
theorem line_all (h : ∀ s, 0 ≤ s → s < 8 → STN M K s) (hv : v = 0 ∨ v = 1) : ∃ β, (β = 0 ∨ β = 1) ∧ qf_X1_lineNow_L43 20000 20000 v 0 M = some (.inr β) ∧ qf_X12_bitTime_L85 20000 20000 v 0 K = some (.inr β) ∧ (β = 0 → v = 0 ∨ ∃ s, 0 ≤ s ∧ s < 8 ∧ (M 1140 s 1 ≠ -1 ∨ M 1140 s 9 ≠ -1)) := by
  obtain ⟨r, r', e1, e2, β, rfl, rfl, h1, h2⟩ := two_loop (f := fun s => qf_X1_lineNow_L43_b 20000 s.1 s.2 M) (g := fun s => qf_X12_bitTime_L85_b 20000 s.1 s.2 K) (Q := fun (r : Int ⊕ Int) (r' : Unit ⊕ Int) => ∃ β, r = .inr β ∧ r' = .inr β ∧ (β = 0 ∨ β = 1) ∧ (β = 0 → v = 0 ∨ ∃ s, 0 ≤ s ∧ s < 8 ∧ (M 1140 s 1 ≠ -1 ∨ M 1140 s 9 ≠ -1))) 8 (fun i a b => ∃ (p β : Int), p = i ∧ a = (β, p) ∧ b = (β, p) ∧ (β = 0 ∨ β = 1) ∧ (β = 0 → v = 0 ∨ ∃ s, 0 ≤ s ∧ s < 8 ∧ (M 1140 s 1 ≠ -1 ∨ M 1140 s 9 ≠ -1))) (fun i a b i8 hI => by
      obtain ⟨p, β, hp, rfl, rfl, b1, b2⟩ := hI
      have p0 : 0 ≤ p := by omega
      have p8 : p < 8 := by omega
      have hs := h p p0 p8
      have w1 : w32 (p + 1) = p + 1 := w32_id (by omega) (by omega)
      -- what the station sends
      have snd : ∃ γ, (γ = 0 ∨ γ = 1) ∧ (∀ u, u = 0 ∨ u = 1 → qf_X1_lineNow_L43_b 20000 u p M = some (.inr ((if γ = 0 then 0 else u), p + 1))) ∧ qf_X12_sendsOne 20000 p K = some γ ∧ (γ = 0 → M 1140 p 1 ≠ -1 ∨ M 1140 p 9 ≠ -1) := by
        have an : ∃ δ, (δ = 0 ∨ δ = 1) ∧ (∀ u, qf_X1_lineNow_J75 20000 u p p M = some (.inr ((if δ = 0 then 0 else u), p + 1))) ∧ qf_X12_sendsOne_J28 20000 p 1 K = some δ ∧ (δ = 0 → M 1140 p 9 ≠ -1) := by
          by_cases g : M 1140 p 9 = -1
          · have k62 : K 2262 p 0 < 0 := by
              rcases hs.an with ⟨z, _⟩ | ⟨_, _, _, _, z, _⟩
              · omega
              · omega
            refine ⟨1, Or.inr rfl, fun u => ?_, ?_, fun z => by omega⟩
            · unfold qf_X1_lineNow_J75
              rw [if_pos g, w1, if_neg (by decide)]
            · unfold qf_X12_sendsOne_J28
              rw [if_neg (by decide), if_pos (show 0 ≤ p ∧ p < 8 from ⟨p0, p8⟩), if_pos k62]
          · obtain ⟨δ, d1, d2, d3, d4⟩ := answ_both hs g
            refine ⟨δ, d1, fun u => ?_, ?_, fun _ => g⟩
            · unfold qf_X1_lineNow_J75
              rw [if_neg g, d2, w1]
              simp only [Option.bind_some]
              rcases d1 with z | z
              · rw [if_pos z, if_pos z]
              · rw [if_neg (by omega), if_neg (by omega)]
            · unfold qf_X12_sendsOne_J28
              rw [if_neg (by decide), if_pos (show 0 ≤ p ∧ p < 8 from ⟨p0, p8⟩), if_neg (by omega), if_pos (show 0 ≤ p ∧ p < 8 from ⟨p0, p8⟩), if_pos (show 0 ≤ p ∧ p < 8 from ⟨p0, p8⟩), d3]
              simp only [Option.bind_some]
              rcases d1 with z | z
              · rw [if_pos z, z]
              · rw [if_neg (by omega), z]
        obtain ⟨δ, d1, d2, d3, d4⟩ := an
        by_cases g : M 1140 p 1 = -1
        · refine ⟨δ, d1, fun u hu => ?_, ?_, fun z => Or.inr (d4 z)⟩
          · unfold qf_X1_lineNow_L43_b
            rw [if_neg (show ¬ (8 : Int) ≤ p by omega), if_pos (show 0 ≤ p ∧ p < 8 from ⟨p0, p8⟩), if_pos g, d2]
          · unfold qf_X12_sendsOne qf_X12_sendsOne_J23
            rw [if_pos (show 0 ≤ p ∧ p < 8 from ⟨p0, p8⟩), if_pos (show K 2260 p 0 < 0 by rw [hs.sy]; omega)]
            exact d3
        · have p1 : 0 ≤ M 1140 p 1 := by
            have := hs.s0
            omega
          obtain ⟨ε, c1, c2, c3⟩ := said_both hs p0 p8 p1
          have kk : qf_X12_sendsOne 20000 p K = (if ε = 0 then qf_X12_sendsOne_J28 20000 p 0 K else qf_X12_sendsOne_J28 20000 p 1 K) := by
            unfold qf_X12_sendsOne qf_X12_sendsOne_J23
            rw [if_pos (show 0 ≤ p ∧ p < 8 from ⟨p0, p8⟩), if_neg (show ¬ K 2260 p 0 < 0 by rw [hs.sy]; omega), if_pos (show 0 ≤ p ∧ p < 8 from ⟨p0, p8⟩), hs.sy, c3]
            rfl
          have cc : ∀ u, qf_X1_lineNow_L43_b 20000 u p M = (if ε = 0 then qf_X1_lineNow_J75 20000 0 p p M else qf_X1_lineNow_J75 20000 u p p M) := fun u => by
            unfold qf_X1_lineNow_L43_b
            rw [if_neg (show ¬ (8 : Int) ≤ p by omega), if_pos (show 0 ≤ p ∧ p < 8 from ⟨p0, p8⟩), if_neg g, c2]
            rfl
          rcases c1 with z | z
          · refine ⟨0, Or.inl rfl, fun u hu => ?_, ?_, fun _ => Or.inl g⟩
            · rw [cc, if_pos z, d2, if_pos (show (0 : Int) = 0 from rfl)]
              by_cases gd : δ = 0
              · rw [if_pos gd]
              · rw [if_neg gd]
            · rw [kk, if_pos z]
              unfold qf_X12_sendsOne_J28
              rw [if_pos rfl]
          · refine ⟨δ, d1, fun u hu => ?_, ?_, fun z => Or.inr (d4 z)⟩
            · rw [cc, if_neg (by omega), d2]
            · rw [kk, if_neg (by omega)]
              exact d3
      obtain ⟨γ, c1, c2, c3, c4⟩ := snd
      refine ⟨((if γ = 0 then 0 else β), p + 1), ((if γ = 0 then 0 else β), p + 1), c2 β b1, ?_, p + 1, (if γ = 0 then 0 else β), by omega, rfl, rfl, ?_, fun z => ?_⟩
      · show qf_X12_bitTime_L85_b 20000 β p K = _
        unfold qf_X12_bitTime_L85_b qf_X12_bitTime_J107
        rw [if_neg (show ¬ (8 : Int) ≤ p by omega), w1]
        by_cases g : β = 0
        · rw [if_pos g]
          by_cases g2 : γ = 0
          · rw [if_pos g2]
          · rw [if_neg g2, g]
        · rw [if_neg g, c3]
          simp only [Option.bind_some]
          by_cases g2 : γ = 0
          · rw [if_pos g2, if_pos g2]
          · rw [if_neg g2, if_neg g2]
            rcases b1 with z | z
            · exact absurd z g
            · rw [z]
      · by_cases g2 : γ = 0
        · rw [if_pos g2]
          exact Or.inl rfl
        · rw [if_neg g2]
          exact b1
      · by_cases g2 : γ = 0
        · exact Or.inr ⟨p, p0, p8, c4 g2⟩
        · rw [if_neg g2] at z
          exact b2 z) (fun a b hI => by
      obtain ⟨p, β, hp, rfl, rfl, b1, b2⟩ := hI
      refine ⟨.inr β, .inr β, ?_, ?_, β, rfl, rfl, b1, b2⟩
      · show qf_X1_lineNow_L43_b 20000 β p M = _
        unfold qf_X1_lineNow_L43_b
        rw [if_pos (show (8 : Int) ≤ p by omega)]
      · show qf_X12_bitTime_L85_b 20000 β p K = _
        unfold qf_X12_bitTime_L85_b
        rw [if_pos (show (8 : Int) ≤ p by omega)]) 8 0 20000 20000 (v, 0) (v, 0) rfl (by omega) (by omega) ⟨0, v, rfl, rfl, rfl, hv, fun z => Or.inl z⟩
  exact ⟨β, h1, e1, e2, h2⟩
end BUd
