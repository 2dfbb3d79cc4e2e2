/-! ===== the bus: all stations end their waiting; what holds between bit times ===== -/
section BUo
variable {M K M' K' M1 K1 Ka Z A W : qm} {a b i j k v w x y s t I β R u c E : Int} {n m r : Nat} {f g : Int → Int}
def CNT (K : qm) (t : Int) : Prop := ∀ s, 0 ≤ s → s < 8 → 0 ≤ K 2264 s 0 ∧ K 2264 s 0 ≤ t ∧ 0 ≤ K 2265 s 0 ∧ K 2265 s 0 ≤ t
theorem wait_all (h : ∀ s, 0 ≤ s → s < 8 → STN M K s) (hn : M 1139 5 0 = t) (hk : K 2252 0 0 = t) (t1 : 1 ≤ t) (t2 : t ≤ 180000) (ha : K 2252 26 0 = M 1139 18 0) (hc : CNT K (t - 1)) : ∃ M' K', qf_X1_runBitTime_L110 20000 20000 0 M = some (.inr ((), M')) ∧ qf_X12_bitTime_L150 20000 20000 0 K = some (.inr ((), K')) ∧ (∀ s, 0 ≤ s → s < 8 → STN M' K' s) ∧ CNT K' t ∧ (∀ e x y, ¬ (e = 1140 ∧ (y = 0 ∨ y = 2 ∨ y = 3 ∨ y = 4)) → e ≠ 1149 → M' e x y = M e x y) ∧ (∀ e x y, e ≠ 2258 → e ≠ 2261 → e ≠ 2264 → e ≠ 2265 → e ≠ 2259 → K' e x y = K e x y) := by
  obtain ⟨r, r', e1, e2, M', K', rfl, rfl, h1, h2, h3, h4⟩ := two_loop (f := fun s => qf_X1_runBitTime_L110_b 20000 s.1 s.2) (g := fun s => qf_X12_bitTime_L150_b 20000 s.1 s.2) (Q := fun (r : (Unit × qm) ⊕ (Unit × qm)) (r' : (Unit × qm) ⊕ (Unit × qm)) => ∃ M' K', r = .inr ((), M') ∧ r' = .inr ((), K') ∧ (∀ s, 0 ≤ s → s < 8 → STN M' K' s) ∧ CNT K' t ∧ (∀ e x y, ¬ (e = 1140 ∧ (y = 0 ∨ y = 2 ∨ y = 3 ∨ y = 4)) → e ≠ 1149 → M' e x y = M e x y) ∧ (∀ e x y, e ≠ 2258 → e ≠ 2261 → e ≠ 2264 → e ≠ 2265 → e ≠ 2259 → K' e x y = K e x y)) 8 (fun i a b => ∃ (p : Int) (Z W : qm), p = i ∧ a = (p, Z) ∧ b = (p, W) ∧ (∀ s, 0 ≤ s → s < 8 → STN Z W s ∧ 0 ≤ W 2264 s 0 ∧ 0 ≤ W 2265 s 0 ∧ W 2264 s 0 ≤ t ∧ W 2265 s 0 ≤ t ∧ (p ≤ s → W 2264 s 0 ≤ t - 1 ∧ W 2265 s 0 ≤ t - 1)) ∧ (∀ e x y, ¬ (e = 1140 ∧ (y = 0 ∨ y = 2 ∨ y = 3 ∨ y = 4)) → e ≠ 1149 → Z e x y = M e x y) ∧ (∀ e x y, e ≠ 2258 → e ≠ 2261 → e ≠ 2264 → e ≠ 2265 → e ≠ 2259 → W e x y = K e x y)) (fun i a b i8 hI => by
      obtain ⟨p, Z, W, hp, rfl, rfl, h1, h2, h3⟩ := hI
      have p0 : 0 ≤ p := by omega
      have p8 : p < 8 := by omega
      obtain ⟨q1, q2, q3, q4, q5, q6⟩ := h1 p p0 p8
      have q7 := q6 (Int.le_refl _)
      have zn : Z 1139 5 0 = t := (h2 _ _ _ (by omega) (by decide)).trans hn
      obtain ⟨X, Y, c1, c2, c3, c4, c5, c6, c7, c8, c9⟩ := wait_one (t := t) q1 p0 p8 zn ((h3 _ _ _ (by decide) (by decide) (by decide) (by decide) (by decide)).trans hk) t1 (by rw [h3 2252 26 0 (by decide) (by decide) (by decide) (by decide) (by decide), h2 1139 18 0 (by omega) (by decide)]; exact ha) q2 (by omega) q3 (by omega)
      refine ⟨(p + 1, X), (p + 1, Y), ?_, ?_, p + 1, X, Y, by omega, rfl, rfl, fun s s0 s1 => ?_, fun e x y z1 z2 => ?_, fun e x y z1 z2 z3 z4 z5 => ?_⟩
      · show qf_X1_runBitTime_L110_b 20000 p Z = _
        unfold qf_X1_runBitTime_L110_b
        rw [if_neg (show ¬ (8 : Int) ≤ p by omega), if_pos (show 0 ≤ p ∧ p < 8 from ⟨p0, p8⟩), w32_id (x := p + 1) (by omega) (by omega)]
        by_cases g : Z 1140 p 2 = Z 1139 5 0
        · rw [if_pos g] at c1 ⊢
          rw [c1]
          rfl
        · rw [if_neg g] at c1 ⊢
          have e : Z = X := congrArg Prod.snd (Option.some.inj c1)
          rw [e]
      · show qf_X12_bitTime_L150_b 20000 p W = _
        unfold qf_X12_bitTime_L150_b
        rw [if_neg (show ¬ (8 : Int) ≤ p by omega), c2, w32_id (x := p + 1) (by omega) (by omega)]
        rfl
      · by_cases e : s = p
        · rw [e]
          exact ⟨c3, by omega, by omega, by omega, by omega, fun z => by omega⟩
        · obtain ⟨r1, r2, r3, r4, r5, r6⟩ := h1 s s0 s1
          refine ⟨stn_o r1 (fun j => c4 _ _ _ (by omega) (by omega)) (fun j => c4 _ _ _ (by omega) (by omega)) (fun j => c4 _ _ _ (by omega) (by omega)) (fun b _ _ _ _ => c5 _ _ _ (by omega) (by omega)) (fun i i0 i1 => c5 _ _ _ (by omega) (by omega)), ?_⟩
          rw [c5 2264 s 0 (by omega) (by omega), c5 2265 s 0 (by omega) (by omega)]
          exact ⟨r2, r3, r4, r5, fun z => r6 (by omega)⟩
      · rw [c4 e x y (by omega) (by omega)]
        exact h2 e x y z1 z2
      · rw [c5 e x y (by omega) (by omega)]
        exact h3 e x y z1 z2 z3 z4 z5) (fun a b hI => by
      obtain ⟨p, Z, W, hp, rfl, rfl, h1, h2, h3⟩ := hI
      refine ⟨.inr ((), Z), .inr ((), W), ?_, ?_, Z, W, rfl, rfl, fun s s0 s1 => (h1 s s0 s1).1, fun s s0 s1 => ?_, h2, h3⟩
      · show qf_X1_runBitTime_L110_b 20000 p Z = _
        unfold qf_X1_runBitTime_L110_b
        rw [if_pos (show (8 : Int) ≤ p by omega)]
      · show qf_X12_bitTime_L150_b 20000 p W = _
        unfold qf_X12_bitTime_L150_b
        rw [if_pos (show (8 : Int) ≤ p by omega)]
      · obtain ⟨_, r2, r3, r4, r5, _⟩ := h1 s s0 s1
        exact ⟨r2, r4, r3, r5⟩) 8 0 20000 20000 (0, M) (0, K) rfl (by omega) (by omega) ⟨0, M, K, rfl, rfl, rfl, fun s s0 s1 => by
      have q := hc s s0 s1
      exact ⟨h s s0 s1, by omega, by omega, by omega, by omega, fun _ => ⟨by omega, by omega⟩⟩, fun _ _ _ _ _ => rfl, fun _ _ _ _ _ _ _ _ => rfl⟩
  exact ⟨M', K', e1, e2, h1, h2, h3, h4⟩
/-- between two bit times: the relations of the bus -/
def BUS (M K : qm) (t : Int) : Prop := (M 1139 5 0 = t ∧ K 2252 0 0 = t ∧ 0 ≤ t) ∧ (∀ s, 0 ≤ s → s < 8 → STN M K s) ∧ IDR K t (M 1139 6 0) ∧ (∀ u, 1 ≤ u → u ≤ t → K 2253 u 0 = 0 ∨ K 2253 u 0 = 1) ∧ SPB M K t ∧ (K 2252 3 0 = M 1139 8 0 ∧ -t ≤ M 1139 8 0 ∧ M 1139 8 0 ≤ 50) ∧ LTT M K t ∧ (∀ i, 0 ≤ i → i < 2048 → K 2256 i 0 = M 1167 i 0) ∧ HRG M K t ∧ HDR M K ∧ (0 ≤ K 2269 1 0 ∧ K 2269 1 0 ≤ t) ∧ CNT K t ∧ (∀ s, 0 ≤ s → s < 8 → M 1140 s 9 ≠ -1 → t = K 2252 24 0 + 13 + M 1140 s 9) ∧ (K 2252 16 0 ≠ 0 → ∀ s, 0 ≤ s → s < 8 → 0 ≤ M 1140 s 1 → t - K 2252 16 0 + 1 ≤ M 1140 s 1) ∧ (M 1139 9 0 ≠ -1 → M 1139 6 0 ≤ M 1139 9 0 - 1) ∧ (0 < K 2252 24 0 → M 1139 6 0 ≤ t - K 2252 24 0 + 10) ∧ msr M K ≤ 23 + sI (fun u => K 2254 u 0) (t + 1) ∧ (∀ u, 0 ≤ u → K 2254 u 0 = 0 ∨ K 2254 u 0 = 1) ∧ sI (fun u => K 2254 u 0) 182001 ≤ 512
theorem pch_b (h : PCH M1 K1 M' K') (e1 : ∀ x, M1 1135 x 0 = M 1135 x 0) (e2 : K1 2269 1 0 = K 2269 1 0) : PCH M K M' K' := by
  unfold PCH at h ⊢
  rw [e2] at h
  rcases h with ⟨h1, h2⟩ | ⟨h1, hb, h2⟩
  · exact Or.inl ⟨h1, fun x => (h2 x).trans (e1 x)⟩
  · refine Or.inr ⟨h1, hb, ?_⟩
    rcases h2 with ⟨a1, a2, a3, a4, a5⟩ | ⟨a1, a2⟩
    · exact Or.inl ⟨a1, a2, a3, a4, fun x z => (a5 x z).trans (e1 x)⟩
    · exact Or.inr ⟨a1, fun x => (a2 x).trans (e1 x)⟩
theorem hrg_o (h : HRG M K t) (e1 : ∀ x, 9 ≤ x → x ≤ 13 → M' 1139 x 0 = M 1139 x 0) (e2 : ∀ x, M' 1169 x 0 = M 1169 x 0) (e3 : ∀ x, 16 ≤ x → x ≤ 28 → K' 2252 x 0 = K 2252 x 0) (e4 : ∀ x, K' 2267 x 0 = K 2267 x 0) (e5 : ∀ x, x ≤ t → K' 2253 x 0 = K 2253 x 0) : HRG M' K' t := by
  unfold HRG at h ⊢
  rw [e1 9 (by decide) (by decide), e1 10 (by decide) (by decide), e1 11 (by decide) (by decide), e1 13 (by decide) (by decide), e3 16 (by decide) (by decide), e3 17 (by decide) (by decide), e3 19 (by decide) (by decide), e3 20 (by decide) (by decide), e3 24 (by decide) (by decide), e3 28 (by decide) (by decide)]
  rcases h with h | ⟨r1, r2, r3, r4, r5, r6, r7, r8⟩
  · exact Or.inl h
  · refine Or.inr ⟨r1, r2, r3, r4, r5, r6, fun i i0 i1 => ?_, ?_⟩
    · rw [e2, e4]
      exact r7 i i0 i1
    · rcases r8 with ⟨q1, q2, q3, q4, q5⟩ | q
      · refine Or.inl ⟨q1, q2, q3, q4, ?_⟩
        rw [q5]
        exact bin_c _ (fun k k0 k1 => (e5 _ (by omega)).symm)
      · exact Or.inr q
end BUo
