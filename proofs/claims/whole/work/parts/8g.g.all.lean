/-! ===== the bus: all stations go on; the line with what disturbs it; answers begin ===== -/
section BUg
variable {M K M' K' Ka Z A : qm} {a b i j k v w x y s t I β R : Int} {n m r : Nat} {q p : Int → Int}
theorem go_one (h : STN M K s) (s0 : 0 ≤ s) (s1 : s < 8) (hn : M 1139 5 0 = t) (hk : K 2252 0 0 = t) (hb : K 2253 t 0 = β) (b01 : β = 0 ∨ β = 1) (t1 : 1 ≤ t) (t2 : t ≤ 180000) : ∃ M1 M2 K1, qf_X1_goOnSaying 20000 s β M = some ((), M1) ∧ qf_X1_goOnAnswering 20000 s M1 = some ((), M2) ∧ qf_X12_goOn 20000 s K = some ((), K1) ∧ STN M2 K1 s ∧ (∀ e x y, ¬ (e = 1140 ∧ x = s ∧ (y = 1 ∨ y = 2 ∨ y = 5 ∨ y = 9)) → ¬ (e = 1149 ∧ x = s ∧ y = 6) → M2 e x y = M e x y) ∧ (∀ e x y, ¬ ((e = 2260 ∨ e = 2261 ∨ e = 2262 ∨ e = 2263 ∨ e = 2266) ∧ x = s) → ¬ (e = 2259 ∧ 144 * s ≤ x ∧ x < 144 * s + 24) → K1 e x y = K e x y) ∧ (M2 1140 s 1 = -1 ∨ (M 1140 s 1 ≠ -1 ∧ M2 1140 s 1 = M 1140 s 1 + 1)) ∧ (M2 1140 s 9 = -1 ∨ (M 1140 s 9 ≠ -1 ∧ M2 1140 s 9 = M 1140 s 9 + 1)) := by
  obtain ⟨v, Ka, a1, a2, a3, a4, a5⟩ := ans_go (M := M) (K := K) h.an s0 s1
  obtain ⟨M1, K1, c1, c2, c3, c4, c5, c6⟩ := say_go (Ka := Ka) (t := t) (β := β) h s0 s1 a3 hn ((a3 _ _ _ (by omega)).trans hk) ((a3 _ _ _ (by omega)).trans hb) b01 t1 t2
  have m9 : M1 1140 s 9 = M 1140 s 9 := c3 _ _ _ (by omega) (by omega)
  refine ⟨M1, qw M1 1140 s 9 v, K1, c1, a1 M1 m9, a2.trans c2, c6 _ _ (fun e x y z => by rw [qw_ap, if_neg (by omega)]) (fun _ _ _ _ => rfl) (a4 _ _ qw_s ?_ (c4 _ _ _ (by omega) (by omega)) (c4 _ _ _ (by omega) (by omega))), fun e x y z1 z2 => ?_, fun e x y z1 z2 => (c4 e x y (by omega) z2).trans (a3 e x y (by omega)), ?_, ?_⟩
  · rw [qw_ap, if_neg (by omega)]
    exact c3 _ _ _ (by omega) (by omega)
  · rw [qw_ap, if_neg (by omega)]
    exact c3 e x y (by omega) z2
  · rw [qw_ap, if_neg (by omega)]
    exact c5
  · have e : qw M1 1140 s 9 v 1140 s 9 = v := qw_s
    rw [e]
    exact a5
theorem go_all (h : ∀ s, 0 ≤ s → s < 8 → STN M K s) (hn : M 1139 5 0 = t) (hk : K 2252 0 0 = t) (hb : K 2253 t 0 = β) (b01 : β = 0 ∨ β = 1) (t1 : 1 ≤ t) (t2 : t ≤ 180000) : ∃ M' K', qf_X1_runBitTime_L61 20000 20000 β 0 M = some (.inr ((), M')) ∧ qf_X12_bitTime_L127 20000 20000 0 K = some (.inr ((), K')) ∧ (∀ s, 0 ≤ s → s < 8 → STN M' K' s ∧ (M' 1140 s 1 = -1 ∨ (M 1140 s 1 ≠ -1 ∧ M' 1140 s 1 = M 1140 s 1 + 1)) ∧ (M' 1140 s 9 = -1 ∨ (M 1140 s 9 ≠ -1 ∧ M' 1140 s 9 = M 1140 s 9 + 1))) ∧ (∀ e x y, ¬ (e = 1140 ∧ (y = 1 ∨ y = 2 ∨ y = 5 ∨ y = 9)) → ¬ (e = 1149 ∧ y = 6) → M' e x y = M e x y) ∧ (∀ e x y, e ≠ 2259 → e ≠ 2260 → e ≠ 2261 → e ≠ 2262 → e ≠ 2263 → e ≠ 2266 → K' e x y = K e x y) := by
  obtain ⟨r, r', e1, e2, M', K', rfl, rfl, h1, h2, h3⟩ := two_loop (f := fun s => qf_X1_runBitTime_L61_b 20000 s.1 s.2.1 s.2.2) (g := fun s => qf_X12_bitTime_L127_b 20000 s.1 s.2) (Q := fun (r : (Unit × qm) ⊕ (Unit × qm)) (r' : (Unit × qm) ⊕ (Unit × qm)) => ∃ M' K', r = .inr ((), M') ∧ r' = .inr ((), K') ∧ (∀ s, 0 ≤ s → s < 8 → STN M' K' s ∧ (M' 1140 s 1 = -1 ∨ (M 1140 s 1 ≠ -1 ∧ M' 1140 s 1 = M 1140 s 1 + 1)) ∧ (M' 1140 s 9 = -1 ∨ (M 1140 s 9 ≠ -1 ∧ M' 1140 s 9 = M 1140 s 9 + 1))) ∧ (∀ e x y, ¬ (e = 1140 ∧ (y = 1 ∨ y = 2 ∨ y = 5 ∨ y = 9)) → ¬ (e = 1149 ∧ y = 6) → M' e x y = M e x y) ∧ (∀ e x y, e ≠ 2259 → e ≠ 2260 → e ≠ 2261 → e ≠ 2262 → e ≠ 2263 → e ≠ 2266 → K' e x y = K e x y)) 8 (fun i a b => ∃ (p : Int) (Z W : qm), p = i ∧ a = (β, p, Z) ∧ b = (p, W) ∧ (∀ s, 0 ≤ s → s < 8 → STN Z W s ∧ ((p ≤ s ∧ Z 1140 s 1 = M 1140 s 1 ∧ Z 1140 s 9 = M 1140 s 9) ∨ (s < p ∧ (Z 1140 s 1 = -1 ∨ (M 1140 s 1 ≠ -1 ∧ Z 1140 s 1 = M 1140 s 1 + 1)) ∧ (Z 1140 s 9 = -1 ∨ (M 1140 s 9 ≠ -1 ∧ Z 1140 s 9 = M 1140 s 9 + 1))))) ∧ (∀ e x y, ¬ (e = 1140 ∧ (y = 1 ∨ y = 2 ∨ y = 5 ∨ y = 9)) → ¬ (e = 1149 ∧ y = 6) → Z e x y = M e x y) ∧ (∀ e x y, e ≠ 2259 → e ≠ 2260 → e ≠ 2261 → e ≠ 2262 → e ≠ 2263 → e ≠ 2266 → W e x y = K e x y)) (fun i a b i8 hI => by
      obtain ⟨p, Z, W, hp, rfl, rfl, h1, h2, h3⟩ := hI
      have p0 : 0 ≤ p := by omega
      have p8 : p < 8 := by omega
      obtain ⟨M1, M2, K1, c1, c2, c3, c4, c5, c6, c7, c8⟩ := go_one (t := t) (β := β) (h1 p p0 p8).1 p0 p8 ((h2 _ _ _ (by omega) (by omega)).trans hn) ((h3 _ _ _ (by decide) (by decide) (by decide) (by decide) (by decide) (by decide)).trans hk) ((h3 _ _ _ (by decide) (by decide) (by decide) (by decide) (by decide) (by decide)).trans hb) b01 t1 t2
      refine ⟨(β, p + 1, M2), (p + 1, K1), ?_, ?_, p + 1, M2, K1, by omega, rfl, rfl, fun s s0 s1 => ?_, fun e x y z1 z2 => ?_, fun e x y z1 z2 z3 z4 z5 z6 => ?_⟩
      · show qf_X1_runBitTime_L61_b 20000 β p Z = _
        unfold qf_X1_runBitTime_L61_b
        rw [if_neg (show ¬ (8 : Int) ≤ p by omega), c1]
        simp only [Option.bind_some]
        rw [c2, w32_id (x := p + 1) (by omega) (by omega)]
        rfl
      · show qf_X12_bitTime_L127_b 20000 p W = _
        unfold qf_X12_bitTime_L127_b
        rw [if_neg (show ¬ (8 : Int) ≤ p by omega), c3, w32_id (x := p + 1) (by omega) (by omega)]
        rfl
      · by_cases e : s = p
        · rw [e]
          have q := (h1 p p0 p8).2
          refine ⟨c4, Or.inr ⟨by omega, ?_⟩⟩
          rcases q with ⟨_, q1, q2⟩ | ⟨q1, _⟩
          · rw [q1] at c7
            rw [q2] at c8
            exact ⟨c7, c8⟩
          · omega
        · obtain ⟨q1, q2⟩ := h1 s s0 s1
          refine ⟨stn_o q1 (fun j => c5 _ _ _ (by omega) (by omega)) (fun j => c5 _ _ _ (by omega) (by omega)) (fun j => c5 _ _ _ (by omega) (by omega)) (fun b _ _ _ _ => c6 _ _ _ (by omega) (by omega)) (fun i i0 i1 => c6 _ _ _ (by omega) (by omega)), ?_⟩
          rw [c5 1140 s 1 (by omega) (by omega), c5 1140 s 9 (by omega) (by omega)]
          rcases q2 with ⟨z, q⟩ | ⟨z, q⟩
          · exact Or.inl ⟨by omega, q⟩
          · exact Or.inr ⟨by omega, q⟩
      · rw [c5 e x y (by omega) (by omega)]
        exact h2 e x y z1 z2
      · rw [c6 e x y (by omega) (by omega)]
        exact h3 e x y z1 z2 z3 z4 z5 z6) (fun a b hI => by
      obtain ⟨p, Z, W, hp, rfl, rfl, h1, h2, h3⟩ := hI
      refine ⟨.inr ((), Z), .inr ((), W), ?_, ?_, Z, W, rfl, rfl, fun s s0 s1 => ?_, h2, h3⟩
      · show qf_X1_runBitTime_L61_b 20000 β p Z = _
        unfold qf_X1_runBitTime_L61_b
        rw [if_pos (show (8 : Int) ≤ p by omega)]
      · show qf_X12_bitTime_L127_b 20000 p W = _
        unfold qf_X12_bitTime_L127_b
        rw [if_pos (show (8 : Int) ≤ p by omega)]
      · obtain ⟨q1, q2⟩ := h1 s s0 s1
        rcases q2 with ⟨z, q⟩ | ⟨z, q⟩
        · omega
        · exact ⟨q1, q⟩) 8 0 20000 20000 (β, 0, M) (0, K) rfl (by omega) (by omega) ⟨0, M, K, rfl, rfl, rfl, fun s s0 s1 => ⟨h s s0 s1, Or.inl ⟨s0, rfl, rfl⟩⟩, fun _ _ _ _ _ => rfl, fun _ _ _ _ _ _ _ _ _ => rfl⟩
  exact ⟨M', K', e1, e2, h1, h2, h3⟩
/-- what disturbs the line from now on -/
def SPB (M K : qm) (t : Int) : Prop := (∀ u, t < u → u ≤ t + 2000 → K 2254 u 0 = M 1168 (u % 2001) 0 ∧ (K 2254 u 0 = 0 ∨ K 2254 u 0 = 1)) ∧ (∀ u, t + 2000 < u → K 2254 u 0 = 0) ∧ M 1168 (t % 2001) 0 = 0
theorem lineNow_both (h : ∀ s, 0 ≤ s → s < 8 → STN M K s) (hn : M 1139 5 0 = t) (hs : SPB M K (t - 1)) (t1 : 1 ≤ t) (t2 : t ≤ 180000) (hd : K 2252 3 0 = M 1139 8 0) : ∃ β M', (β = 0 ∨ β = 1) ∧ qf_X1_lineNow 20000 M = some (β, M') ∧ (∀ w, qf_X12_bitTime_L85 20000 20000 (if K 2254 t 0 = 0 then 1 else 0) 0 (qw K 2252 3 0 w) = some (.inr β)) ∧ (K 2254 t 0 = 0 ∨ K 2254 t 0 = 1) ∧ SPB M' K t ∧ M' 1139 8 0 = (if K 2254 t 0 = 0 then M 1139 8 0 else w32 (M 1139 8 0 - 1)) ∧ (∀ e x y, e ≠ 1168 → ¬ (e = 1139 ∧ x = 8) → M' e x y = M e x y) ∧ (β = 0 → K 2254 t 0 = 1 ∨ ∃ s, 0 ≤ s ∧ s < 8 ∧ (M 1140 s 1 ≠ -1 ∨ M 1140 s 9 ≠ -1)) := by
  obtain ⟨u1, u2, u3⟩ := hs
  obtain ⟨c1, c2⟩ := u1 t (by omega) (by omega)
  have ix : 0 ≤ t % 2001 ∧ t % 2001 < 2001 := by omega
  have keep : ∀ V : qm, (∀ x, x ≠ t % 2001 → V 1168 x 0 = M 1168 x 0) → V 1168 (t % 2001) 0 = 0 → SPB V K t := fun V v1 v2 => by
    refine ⟨fun u u0 u4 => ?_, fun u u0 => u2 u (by omega), v2⟩
    rw [v1 _ (by omega)]
    by_cases e : u ≤ t - 1 + 2000
    · exact u1 u (by omega) e
    · have z := u2 u (by omega)
      have e2 : u % 2001 = (t - 1) % 2001 := by omega
      rw [z, e2, u3]
      exact ⟨rfl, Or.inl rfl⟩
  by_cases g : K 2254 t 0 = 0
  · obtain ⟨β, b1, b2, b3, b4⟩ := line_all (v := 1) h (Or.inr rfl)
    refine ⟨β, M, b1, ?_, fun w => ?_, c2, keep M (fun _ _ => rfl) (by omega), by rw [if_pos g], fun _ _ _ _ _ => rfl, fun z => (b4 z).elim (fun y => absurd y (by decide)) Or.inr⟩
    · unfold qf_X1_lineNow qf_X1_lineNow_J41
      rw [if_neg (by decide), hn, tm_e (show 0 ≤ t by omega), if_pos ix, if_pos (show M 1168 (t % 2001) 0 = 0 by omega), b2]
      rfl
    · rw [if_pos g]
      obtain ⟨β2, _, d2, d3, _⟩ := line_all (M := M) (K := qw K 2252 3 0 w) (v := 1) (fun s s0 s1 => stn_o (h s s0 s1) (fun _ => rfl) (fun _ => rfl) (fun _ => rfl) (fun b b0 _ _ _ => qw_a (by omega)) (fun i _ _ => qw_a (by decide))) (Or.inr rfl)
      rw [b2] at d2
      rw [d3, Sum.inr.inj (Option.some.inj d2)]
  · obtain ⟨M2, hM2⟩ : ∃ X, qw (qw M 1168 (t % 2001) 0 0) 1139 8 0 (w32 (M 1139 8 0 - 1)) = X := ⟨_, rfl⟩
    have fM2 : ∀ e x y, ¬ (e = 1168 ∧ x = t % 2001) → ¬ (e = 1139 ∧ x = 8) → M2 e x y = M e x y := fun e x y z1 z2 => by rw [← hM2, qw_ap, if_neg (by omega), qw_ap, if_neg (by omega)]
    have hst : ∀ s, 0 ≤ s → s < 8 → STN M2 K s := fun s s0 s1 => stn_o (h s s0 s1) (fun _ => fM2 _ _ _ (by omega) (by omega)) (fun _ => fM2 _ _ _ (by omega) (by omega)) (fun _ => fM2 _ _ _ (by omega) (by omega)) (fun _ _ _ _ _ => rfl) (fun _ _ _ => rfl)
    obtain ⟨β, b1, b2, b3, b4⟩ := line_all (v := 0) hst (Or.inl rfl)
    refine ⟨β, M2, b1, ?_, fun w => ?_, c2, keep M2 (fun x z => fM2 _ _ _ (by omega) (by omega)) ?_, ?_, fun e x y z1 z2 => fM2 e x y (fun z => z1 z.1) z2, fun _ => Or.inl (c2.resolve_left g)⟩
    · unfold qf_X1_lineNow qf_X1_lineNow_J41 qbnd
      rw [if_neg (by decide), hn, tm_e (show 0 ≤ t by omega), if_pos ix, if_neg (show ¬ M 1168 (t % 2001) 0 = 0 by omega), if_pos ix]
      (try dsimp only)
      rw [show qw M 1168 (t % 2001) 0 0 1139 8 0 = M 1139 8 0 from qw_a (by decide), hM2, b2]
      rfl
    · rw [if_neg g]
      obtain ⟨β2, _, d2, d3, _⟩ := line_all (M := M2) (K := qw K 2252 3 0 w) (v := 0) (fun s s0 s1 => stn_o (hst s s0 s1) (fun _ => rfl) (fun _ => rfl) (fun _ => rfl) (fun b b0 _ _ _ => qw_a (by omega)) (fun i _ _ => qw_a (by decide))) (Or.inl rfl)
      rw [b2] at d2
      rw [d3, Sum.inr.inj (Option.some.inj d2)]
    · rw [← hM2, qw_a (by decide)]
      exact qw_s
    · rw [if_neg g, ← hM2]
      exact qw_s
end BUg
