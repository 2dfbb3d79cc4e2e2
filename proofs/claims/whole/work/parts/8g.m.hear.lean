/-! ===== the bus: a bit is heard ===== -/
section BUm
variable {M K M' K' M1 K1 Ka Z A W : qm} {a b i j k v w x y s t I β R u c E : Int} {n m r : Nat} {f g : Int → Int}
/-- what is being heard -/
def HRG (M K : qm) (t : Int) : Prop := (M 1139 9 0 = -1 ∧ K 2252 16 0 = 0 ∧ K 2252 17 0 = 0) ∨ (1 ≤ K 2252 16 0 ∧ K 2252 24 0 < K 2252 16 0 ∧ 0 ≤ K 2252 17 0 ∧ M 1139 13 0 = K 2252 17 0 ∧ M 1139 11 0 = K 2252 19 0 ∧ (K 2252 19 0 = 0 ∨ K 2252 19 0 = 1) ∧ (∀ i, 0 ≤ i → i < K 2252 17 0 → M 1169 i 0 = K 2267 i 0 ∧ 0 ≤ M 1169 i 0 ∧ M 1169 i 0 < 256) ∧ ((1 ≤ M 1139 9 0 ∧ M 1139 9 0 ≤ 10 ∧ K 2252 28 0 = K 2252 16 0 + 13 * K 2252 17 0 ∧ t = K 2252 28 0 + M 1139 9 0 - 1 ∧ M 1139 10 0 = bin (fun k => K 2253 (K 2252 28 0 + k) 0) (M 1139 9 0).toNat) ∨ (11 ≤ M 1139 9 0 ∧ M 1139 9 0 ≤ 13 ∧ K 2252 28 0 = 0 ∧ 1 ≤ K 2252 17 0 ∧ K 2252 20 0 = K 2252 16 0 + 13 * (K 2252 17 0 - 1) + 10 ∧ t = K 2252 20 0 + M 1139 9 0 - 11)))
def msr (M K : qm) : Int := K 2252 17 0 + (if M 1139 9 0 ≤ 10 then 1 else 0)
/-- what hearing may change -/
def HFR (M M' K K' : qm) : Prop := (∀ e x y, e ≠ 1169 → e ≠ 1170 → e ≠ 1171 → e ≠ 1135 → ¬ (e = 1139 ∧ 9 ≤ x ∧ x ≤ 18) → M' e x y = M e x y) ∧ (∀ e x y, e ≠ 2267 → e ≠ 2268 → e ≠ 2269 → ¬ (e = 2252 ∧ 16 ≤ x ∧ x ≤ 28) → K' e x y = K e x y)
theorem starts_e (hk : K 2252 0 0 = t) (t1 : 1 ≤ t) (t2 : t ≤ 180000) (hb : K 2253 t 0 = β) : ∃ Y, stK K = some ((), Y) ∧ Y 2252 16 0 = (if β = 0 then t else 0) ∧ Y 2252 28 0 = (if β = 0 then t else 0) ∧ Y 2252 17 0 = 0 ∧ Y 2252 19 0 = 0 ∧ (∀ e x y, ¬ (e = 2252 ∧ (x = 16 ∨ x = 17 ∨ x = 19 ∨ x = 28)) → Y e x y = K e x y) := by
  obtain ⟨w, hw⟩ : ∃ w, (if β = 0 then t else 0) = w := ⟨_, rfl⟩
  have e : stK K = some ((), qw (qw (qw (qw K 2252 16 0 w) 2252 28 0 w) 2252 17 0 0) 2252 19 0 0) := by
    unfold stK qf_X12_starts qf_X12_starts_J21 qbnd
    rw [hk, if_pos (show 0 ≤ t ∧ t < 180001 by omega), hb]
    by_cases g : β = 0
    · rw [if_pos g] at hw ⊢
      rw [hw]
      have z : qw K 2252 16 0 w 2252 16 0 = w := qw_s
      (try dsimp only)
      rw [z]
      rfl
    · rw [if_neg g] at hw ⊢
      rw [← hw]
      have z : qw K 2252 16 0 0 2252 16 0 = 0 := qw_s
      (try dsimp only)
      rw [z]
      rfl
  rw [hw]
  refine ⟨_, e, ?_, ?_, ?_, qw_s, fun e x y z => ?_⟩
  · rw [qw_i (by decide), qw_i (by decide), qw_i (by decide)]
    exact qw_s
  · rw [qw_i (by decide), qw_i (by decide)]
    exact qw_s
  · rw [qw_i (by decide)]
    exact qw_s
  · rw [qw_ap, if_neg (by omega), qw_ap, if_neg (by omega), qw_ap, if_neg (by omega), qw_ap, if_neg (by omega)]
theorem begH_C : ∃ Y, qf_X1_beginHearing 20000 M = some ((), Y) ∧ Y 1139 9 0 = 1 ∧ Y 1139 10 0 = 0 ∧ Y 1139 11 0 = 0 ∧ Y 1139 13 0 = 0 ∧ (∀ e x y, ¬ (e = 1139 ∧ (x = 9 ∨ x = 10 ∨ x = 11 ∨ x = 13)) → Y e x y = M e x y) := by
  have e : qf_X1_beginHearing 20000 M = some ((), qw (qw (qw (qw M 1139 13 0 0) 1139 11 0 0) 1139 10 0 0) 1139 9 0 1) := rfl
  refine ⟨_, e, qw_s, ?_, ?_, ?_, fun e x y z => ?_⟩
  · rw [qw_i (by decide)]
    exact qw_s
  · rw [qw_i (by decide), qw_i (by decide)]
    exact qw_s
  · rw [qw_i (by decide), qw_i (by decide), qw_i (by decide)]
    exact qw_s
  · rw [qw_ap, if_neg (by omega), qw_ap, if_neg (by omega), qw_ap, if_neg (by omega), qw_ap, if_neg (by omega)]
theorem pch_o (h : PCH M K M1 K1) (e1 : ∀ x, M' 1135 x 0 = M1 1135 x 0) (e2 : ∀ x, K' 2269 x 0 = K1 2269 x 0) (e3 : ∀ x, K' 2268 x 0 = K1 2268 x 0) : PCH M K M' K' := by
  unfold PCH at h ⊢
  rw [e2 1, e3 3, e3 4, e3 5, e3 6, show (∀ x, M' 1135 x 0 = M 1135 x 0) ↔ (∀ x, M1 1135 x 0 = M 1135 x 0) from ⟨fun z x => (e1 x).symm.trans (z x), fun z x => (e1 x).trans (z x)⟩, e1]
  rcases h with h | ⟨h1, hb, h2⟩
  · exact Or.inl h
  · refine Or.inr ⟨h1, hb, ?_⟩
    rcases h2 with ⟨a1, a2, a3, a4, a5⟩ | h2
    · exact Or.inl ⟨a1, a2, a3, a4, fun x z => (e1 x).trans (a5 x z)⟩
    · exact Or.inr h2
theorem pch_r : PCH M K M K := Or.inl ⟨rfl, fun _ => rfl⟩
theorem hdr_o (h : HDR M K) (e1 : ∀ x, M' 1171 x 0 = M 1171 x 0) (e2 : ∀ x, K' 2269 x 0 = K 2269 x 0) : HDR M' K' := fun i i0 i1 => by
  rw [e1, e2]
  exact h i i0 i1
/-- what holds behind hearing -/
def HPO (M K M' K' : qm) (t β : Int) : Prop := HRG M' K' t ∧ LTT M' K' t ∧ HDR M' K' ∧ PCH M K M' K' ∧ HFR M M' K K' ∧ (K' 2252 24 0 = K 2252 24 0 ∨ (K' 2252 24 0 = t - M 1139 9 0 + 10 ∧ 11 ≤ M 1139 9 0 ∧ M 1139 9 0 ≤ 13 ∧ K 2252 24 0 + 103 ≤ t)) ∧ (K' 2252 16 0 = 0 ∨ K' 2252 16 0 = t ∨ (K' 2252 16 0 = K 2252 16 0 ∧ K 2252 16 0 ≠ 0)) ∧ (β = 1 → M' 1139 9 0 = -1 ∨ (1 ≤ M 1139 9 0 ∧ M' 1139 9 0 = M 1139 9 0 + 1)) ∧ (msr M' K' ≤ 1 ∨ msr M' K' ≤ msr M K ∨ (β = 0 ∧ M 1139 9 0 = 13 ∧ msr M' K' = msr M K + 1 ∧ t = K 2252 16 0 + 13 * K 2252 17 0 ∧ K' 2252 16 0 = K 2252 16 0 ∧ K' 2252 17 0 = K 2252 17 0))
/-- hearing begins anew, or ends -/
theorem anew_both (t1 : 1 ≤ t) (t2 : t ≤ 180000) (hk : K1 2252 0 0 = t) (hb : K1 2253 t 0 = β) (b01 : β = 0 ∨ β = 1) (hl : LTT M1 K1 t) (hd : HDR M1 K1) (hp : PCH M K M1 K1) (hf : HFR M M1 K K1) (he : K1 2252 24 0 < t) (hen : K1 2252 24 0 = K 2252 24 0 ∨ (K1 2252 24 0 = t - M 1139 9 0 + 10 ∧ 11 ≤ M 1139 9 0 ∧ M 1139 9 0 ≤ 13 ∧ K 2252 24 0 + 103 ≤ t)) : (β = 0 → ∃ M' K', qf_X1_beginHearing 20000 M1 = some ((), M') ∧ stK K1 = some ((), K') ∧ HPO M K M' K' t β) ∧ (β = 1 → ∃ K', stK K1 = some ((), K') ∧ ∀ M', M' 1139 9 0 = -1 → (∀ e x y, ¬ (e = 1139 ∧ x = 9) → M' e x y = M1 e x y) → HPO M K M' K' t β) := by
  obtain ⟨Y, y1, y2, y3, y4, y5, y6⟩ := starts_e hk t1 t2 hb
  have fY : ∀ e x y, ¬ (e = 2252 ∧ 16 ≤ x ∧ x ≤ 20) → ¬ (e = 2252 ∧ x = 28) → Y e x y = K1 e x y := fun e x y z1 z2 => y6 e x y (by omega)
  have p24 : Y 2252 24 0 = K1 2252 24 0 := fY _ _ _ (by omega) (by omega)
  constructor
  · intro g
    obtain ⟨X, x1, x2, x3, x4, x5, x6⟩ := begH_C (M := M1)
    rw [if_pos g] at y2 y3
    refine ⟨X, Y, x1, y1, Or.inr ⟨by omega, by rw [p24, y2]; exact he, by omega, by rw [x5, y4], by rw [x4, y5], Or.inl y5, fun i i0 i1 => by omega, Or.inl ⟨by omega, by omega, by omega, by omega, ?_⟩⟩, ltt_o hl (fun x x0 x1 => x6 _ _ _ (by omega)) (fun x => x6 _ _ _ (by omega)) (fun x x0 x1 => fY _ _ _ (by omega) (by omega)) (fun x => fY _ _ _ (by omega) (by omega)) (Int.le_refl _), hdr_o hd (fun x => x6 _ _ _ (by omega)) (fun x => fY _ _ _ (by omega) (by omega)), pch_o hp (fun x => x6 _ _ _ (by omega)) (fun x => fY _ _ _ (by omega) (by omega)) (fun x => fY _ _ _ (by omega) (by omega)), ⟨fun e x y z1 z2 z3 z4 z5 => (x6 e x y (by omega)).trans (hf.1 e x y z1 z2 z3 z4 z5), fun e x y z1 z2 z3 z4 => (fY e x y (by omega) (by omega)).trans (hf.2 e x y z1 z2 z3 z4)⟩, by rw [p24]; exact hen, Or.inr (Or.inl y2), fun z => by omega, Or.inl ?_⟩
    · rw [x2, x3, y3]
      show 0 = 0 + Y 2253 (t + 0) 0 * 1
      rw [show t + 0 = t by omega, fY _ _ _ (by omega) (by omega), hb, g]
      decide
    · unfold msr
      rw [y4, x2, if_pos (by decide)]
      decide
  · intro g
    rw [if_neg (by omega)] at y2 y3
    refine ⟨Y, y1, fun M' m9 fm => ⟨Or.inl ⟨m9, y2, y4⟩, ltt_o hl (fun x x0 x1 => fm _ _ _ (by omega)) (fun x => fm _ _ _ (by omega)) (fun x x0 x1 => fY _ _ _ (by omega) (by omega)) (fun x => fY _ _ _ (by omega) (by omega)) (Int.le_refl _), hdr_o hd (fun x => fm _ _ _ (by omega)) (fun x => fY _ _ _ (by omega) (by omega)), pch_o hp (fun x => fm _ _ _ (by omega)) (fun x => fY _ _ _ (by omega) (by omega)) (fun x => fY _ _ _ (by omega) (by omega)), ⟨fun e x y z1 z2 z3 z4 z5 => (fm e x y (by omega)).trans (hf.1 e x y z1 z2 z3 z4 z5), fun e x y z1 z2 z3 z4 => (fY e x y (by omega) (by omega)).trans (hf.2 e x y z1 z2 z3 z4)⟩, by rw [p24]; exact hen, Or.inl y2, fun _ => Or.inl m9, Or.inl ?_⟩⟩
    unfold msr
    rw [y4, m9, if_pos (by decide)]
    decide
theorem ltt_e (h : LTT M K u) : 0 ≤ K 2252 24 0 ∧ (K 2252 24 0 ≤ u ∨ K 2252 24 0 = 0) := by
  unfold LTT at h
  obtain ⟨_, _, _, _, h5⟩ := h
  rcases h5 with z | z
  · omega
  · omega
/-- a bit is heard -/
theorem hear_both (t1 : 1 ≤ t) (t2 : t ≤ 180000) (hn : M 1139 5 0 = t) (hk : K 2252 0 0 = t) (hb : K 2253 t 0 = β) (b01 : β = 0 ∨ β = 1) (ho : ∀ u, 1 ≤ u → u ≤ t → K 2253 u 0 = 0 ∨ K 2253 u 0 = 1) (hh : HRG M K (t - 1)) (hl : LTT M K (t - 1)) (hd : HDR M K) (h1 : 0 ≤ K 2269 1 0) (h2 : K 2269 1 0 ≤ 200000) (hcb : K 2252 17 0 ≤ 599) : ∃ M' K', qf_X1_hear 20000 β M = some ((), M') ∧ qf_X12_hear 20000 K = some ((), K') ∧ HPO M K M' K' t β := by
  have le := ltt_e hl
  have hl' : LTT M K t := ltt_o hl (fun _ _ _ => rfl) (fun _ => rfl) (fun _ _ _ => rfl) (fun _ => rfl) (by omega)
  have fr : HFR M M K K := ⟨fun _ _ _ _ _ _ _ _ => rfl, fun _ _ _ _ _ _ _ => rfl⟩
  rcases hh with ⟨z1, z2, z3⟩ | ⟨r1, r2, r3, r4, r5, r6, r7, r8⟩
  · -- nothing is being heard
    have kk : qf_X12_hear 20000 K = stK K := by
      unfold qf_X12_hear stK
      rw [if_pos z2]
    have an := anew_both (M := M) (K := K) (M1 := M) (K1 := K) t1 t2 hk hb b01 hl' hd pch_r fr (by omega) (Or.inl rfl)
    rcases b01 with g | g
    · obtain ⟨M', K', a1, a2, a3⟩ := an.1 g
      refine ⟨M', K', ?_, kk.trans a2, a3⟩
      unfold qf_X1_hear
      rw [if_pos z1, if_pos g, a1]
      rfl
    · obtain ⟨K', a2, a3⟩ := an.2 g
      refine ⟨M, K', ?_, kk.trans a2, a3 M z1 (fun _ _ _ _ => rfl)⟩
      unfold qf_X1_hear
      rw [if_pos z1, if_neg (by omega)]
  · obtain ⟨B, hB⟩ : ∃ B, K 2252 16 0 = B := ⟨_, rfl⟩
    obtain ⟨c, hc⟩ : ∃ c, K 2252 17 0 = c := ⟨_, rfl⟩
    obtain ⟨h, hh⟩ : ∃ h, M 1139 9 0 = h := ⟨_, rfl⟩
    rw [hB, hc, hh] at r8
    rw [hB] at r1 r2
    rw [hc] at r3 r4 r7 hcb
    rcases r8 with ⟨q1, q2, q3, q4, q5⟩ | ⟨q1, q2, q3, q4, q5, q6⟩
    · -- a bit of a character
      obtain ⟨x, hx⟩ : ∃ x, K 2252 28 0 = x := ⟨_, rfl⟩
      rw [hx] at q3 q4 q5
      obtain ⟨m, rfl⟩ : ∃ m : Nat, h = m := ⟨h.toNat, by omega⟩
      rw [show ((m : Int)).toNat = m by omega] at q5
      have ex : x + (m : Int) = t := by omega
      have hbin : ∀ k : Int, 0 ≤ k → k < m + 1 → K 2253 (x + k) 0 = 0 ∨ K 2253 (x + k) 0 = 1 := fun k k0 k1 => ho _ (by omega) (by omega)
      have bb := bin_b (f := fun k => K 2253 (x + k) 0) m (fun k k0 k1 => hbin k k0 (by omega))
      have bs : bin (fun k => K 2253 (x + k) 0) (m + 1) = bin (fun k => K 2253 (x + k) 0) m + β * ((2 ^ m : Nat) : Int) := by
        show bin (fun k => K 2253 (x + k) 0) m + K 2253 (x + (m : Int)) 0 * ((2 ^ m : Nat) : Int) = _
        rw [ex, hb]
      have bo : bO (M 1139 10 0) (bL β (M 1139 9 0)) = bin (fun k => K 2253 (x + k) 0) (m + 1) := by
        obtain ⟨V, hV⟩ : ∃ V : Nat, bin (fun k => K 2253 (x + k) 0) m = V := ⟨(bin (fun k => K 2253 (x + k) 0) m).toNat, by omega⟩
        obtain ⟨S, hS⟩ : ∃ S : Nat, β = S := ⟨β.toNat, by omega⟩
        rw [bs, q5, hh, hV, hS]
        rw [hV] at bb
        exact bor_e (by omega) (by omega) (by omega)
      obtain ⟨V1, hV1⟩ : ∃ V1, bin (fun k => K 2253 (x + k) 0) (m + 1) = V1 := ⟨_, rfl⟩
      rw [hV1] at bo
      obtain ⟨M2, hM2⟩ : ∃ X, qw (qw M 1139 10 0 V1) 1139 9 0 ((m : Int) + 1) = X := ⟨_, rfl⟩
      have f2 : ∀ e x y, ¬ (e = 1139 ∧ (x = 9 ∨ x = 10)) → M2 e x y = M e x y := fun e x y z => by rw [← hM2, qw_ap, if_neg (by omega), qw_ap, if_neg (by omega)]
      have m9 : M2 1139 9 0 = (m : Int) + 1 := by rw [← hM2]; exact qw_s
      have m10 : M2 1139 10 0 = V1 := by rw [← hM2, qw_i (by decide)]; exact qw_s
      have cC : qf_X1_hear 20000 β M = (if (m : Int) + 1 = 11 then (qf_X1_takeCharacter 20000 M2).bind (fun r22 => some ((), r22.2)) else some ((), M2)) := by
        unfold qf_X1_hear qbnd
        rw [if_neg (show ¬ M 1139 9 0 = -1 by omega), if_neg (show ¬ 11 ≤ M 1139 9 0 by omega), bo]
        (try dsimp only)
        rw [qw_i (show (9 : Int) ≠ 10 by decide), hh, w32_id (x := (m : Int) + 1) (by omega) (by omega), hM2, m9]
      by_cases g : m = 10
      · -- its last bit
        rw [if_pos (by omega)] at cC
        rw [g] at hV1 m9 ex q4
        obtain ⟨V, P, v1, v2, v3, v4, v5, v6, v7⟩ := bin_11 (f := fun k => K 2253 (x + k) 0) (fun k k0 k1 => ho _ (by omega) (by omega))
        have v4' : bin (fun k => K 2253 (x + 1 + k) 0) 8 = P := by
          rw [← v4]
          exact bin_c 8 (fun k k0 k1 => by
            show K 2253 (x + 1 + k) 0 = K 2253 (x + (1 + k)) 0
            rw [show x + 1 + k = x + (1 + k) by omega])
        have v6' : ((V / 512 % 2 : Nat) : Int) = K 2253 (t - 1) 0 := by
          rw [v6]
          show K 2253 (x + 9) 0 = _
          rw [show x + 9 = t - 1 by omega]
        have v7' : ((V / 1024 % 2 : Nat) : Int) = K 2253 t 0 := by
          rw [v7]
          show K 2253 (x + 10) 0 = _
          rw [show x + 10 = t by omega]
        have hV1' : bin (fun k => K 2253 (x + k) 0) 11 = V1 := hV1
        obtain ⟨X, x1, x2, x3, x4, x5⟩ := takeC_C (M := M2) (V := V) (P := P) (c := c) (by rw [m10, ← hV1', v3]) v1 v5 ((f2 _ _ _ (by omega)).trans r4) r3 (by omega)
        obtain ⟨Y, y1, y2, y3, y4, y5, y6, y7⟩ := takeC_K (K := K) (t := t) (x := x) (P := P) (c := c) hk t2 hx (by omega) (by omega) ho v4' v2 hc r3 (by omega) r6
        have y7' : ∀ e x y, ¬ (e = 2252 ∧ 16 ≤ x ∧ x ≤ 28) → e ≠ 2267 → Y e x y = K e x y := fun e x y z1 z2 => y7 e x y (by omega) (by omega)
        have x5' : ∀ e x y, ¬ (e = 1139 ∧ 9 ≤ x ∧ x ≤ 13) → e ≠ 1169 → X e x y = M e x y := fun e x y z1 z2 => (x5 e x y (by omega) (by omega)).trans (f2 e x y (by omega))
        have bad : X 1139 11 0 = Y 2252 19 0 := by
          rw [x2, y2, f2 _ _ _ (by omega), r5, v6', ← v7']
          by_cases g2 : K 2253 (t - 1) 0 = ((cnb P 8 % 2 : Nat) : Int) ∧ ¬ V / 1024 % 2 = 0
          · rw [if_pos g2, if_pos ⟨g2.1, by omega⟩]
          · rw [if_neg g2, if_neg (fun z => g2 ⟨z.1, by omega⟩)]
        have y1601 : Y 2252 16 0 = B := (y7 _ _ _ (by omega) (by omega)).trans hB
        have y24 : Y 2252 24 0 = K 2252 24 0 := y7 _ _ _ (by omega) (by omega)
        have x9 : X 1139 9 0 = 11 := by rw [x5 _ _ _ (by omega) (by omega), m9]; rfl
        refine ⟨X, Y, ?_, ?_, Or.inr ⟨by omega, by rw [y24, y1601]; exact r2, by omega, by rw [x3, y3], bad, ?_, fun i i0 i1 => ?_, Or.inr ⟨by omega, by omega, y6, by omega, by rw [y5, y1601, y3]; omega, by rw [y5, x9]; omega⟩⟩, ltt_o hl' (fun z z0 z1 => x5' _ _ _ (by omega) (by decide)) (fun z => x5' _ _ _ (by omega) (by decide)) (fun z z0 z1 => y7 _ _ _ (by omega) (by omega)) (fun z => y7 _ _ _ (by omega) (by omega)) (Int.le_refl _), hdr_o hd (fun z => x5' _ _ _ (by omega) (by decide)) (fun z => y7 _ _ _ (by omega) (by omega)), pch_o pch_r (fun z => x5' _ _ _ (by omega) (by decide)) (fun z => y7 _ _ _ (by omega) (by omega)) (fun z => y7 _ _ _ (by omega) (by omega)), ⟨fun e x y z1 z2 z3 z4 z5 => x5' e x y (by omega) z1, fun e x y z1 z2 z3 z4 => y7' e x y z4 z1⟩, Or.inl y24, Or.inr (Or.inr ⟨by rw [y1601, hB], by omega⟩), fun _ => Or.inr ⟨by omega, by rw [x9, hh, g]; rfl⟩, Or.inr (Or.inl ?_)⟩
        · rw [cC, x1]
          rfl
        · unfold qf_X12_hear
          rw [if_neg (show ¬ K 2252 16 0 = 0 by omega), y1]
          rfl
        · rw [y2]
          by_cases g2 : K 2253 (t - 1) 0 = ((cnb P 8 % 2 : Nat) : Int) ∧ ¬ K 2253 t 0 = 0
          · rw [if_pos g2]
            exact r6
          · rw [if_neg g2]
            exact Or.inr rfl
        · rw [y3] at i1
          by_cases e : i = c
          · rw [e, x4, y4]
            exact ⟨rfl, by omega, by omega⟩
          · rw [x5 _ _ _ (by omega) (by omega), f2 _ _ _ (by omega), y7 _ _ _ (by omega) (by omega)]
            exact r7 i i0 (by omega)
        · unfold msr
          rw [x9, y3, hh, hc, g, if_neg (by decide), if_pos (by decide)]
          omega
      · -- not its last bit
        rw [if_neg (by omega)] at cC
        refine ⟨M2, K, cC, ?_, Or.inr ⟨by omega, by rw [hB]; exact r2, by omega, by rw [f2 _ _ _ (by omega), hc]; exact r4, by rw [f2 _ _ _ (by omega)]; exact r5, r6, fun i i0 i1 => ?_, Or.inl ⟨by omega, by omega, by omega, by omega, ?_⟩⟩, ltt_o hl' (fun z z0 z1 => f2 _ _ _ (by omega)) (fun z => f2 _ _ _ (by omega)) (fun _ _ _ => rfl) (fun _ => rfl) (Int.le_refl _), hdr_o hd (fun z => f2 _ _ _ (by omega)) (fun _ => rfl), pch_o pch_r (fun z => f2 _ _ _ (by omega)) (fun _ => rfl) (fun _ => rfl), ⟨fun e x y z1 z2 z3 z4 z5 => f2 e x y (by omega), fun _ _ _ _ _ _ _ => rfl⟩, Or.inl rfl, Or.inr (Or.inr ⟨rfl, by omega⟩), fun _ => Or.inr ⟨by omega, by rw [m9, hh]⟩, Or.inr (Or.inl ?_)⟩
        · have rd : qf_X12_reads 20000 K = some (0, K) := by
            unfold qf_X12_reads
            rw [hx, hk, if_neg (show ¬ x ≤ 0 by omega), w32_id (x := x + 10) (by omega) (by omega), if_neg (show ¬ t = x + 10 by omega)]
          unfold qf_X12_hear
          rw [if_neg (show ¬ K 2252 16 0 = 0 by omega), rd]
          rfl
        · rw [f2 _ _ _ (by omega)]
          exact r7 i i0 (by omega)
        · rw [m9, m10, hx, show ((m : Int) + 1).toNat = m + 1 by omega]
          exact hV1.symm
        · unfold msr
          rw [m9, hh, if_pos (show (m : Int) + 1 ≤ 10 by omega), if_pos (show (m : Int) ≤ 10 by omega)]
          exact Int.le_refl _
    · -- behind a character
      obtain ⟨E, hE⟩ : ∃ E, K 2252 20 0 = E := ⟨_, rfl⟩
      rw [hE] at q5 q6
      have comp : (β = 0 → h = 11 ∨ h = 12) → (β = 1 → h = 13) → ∃ M' K', qf_X1_hear 20000 β M = some ((), M') ∧ qf_X12_hear 20000 K = some ((), K') ∧ HPO M K M' K' t β := fun w1 w2 => by
        obtain ⟨M1, K1, c1, c2, c3, c4, c5, c6, c7⟩ := compl_both (M := M) (K := K) (t := t) (E := E) t2 hl hd (by rw [hc]; exact r4) (by omega) (by omega) r5 (fun i i0 i1 => r7 i i0 (by omega)) (by omega) (by omega) hE h1 h2 (by rw [hB, hc]; exact q5) (by rw [hn, hh, w32_id (x := h - 11) (by omega) (by omega), w32_id (x := h - 11 + 1) (by omega) (by omega), w32_id (x := t - (h - 11 + 1)) (by omega) (by omega)]; omega)
        have rd : qf_X12_reads 20000 K = some (1, K) := by
          unfold qf_X12_reads qf_X12_reads_J187
          rw [q3, hk, hE, hb, if_pos (show (0 : Int) ≤ 0 by decide), w32_id (x := E + 3) (by omega) (by omega), if_pos (show 0 ≤ t ∧ t < 180001 by omega)]
          by_cases g : t = E + 3
          · rw [if_pos g, if_neg (show ¬ β = 0 by omega), if_pos g]
          · rw [if_neg g, if_pos (show β = 0 by omega), if_neg g, if_pos (show 0 ≤ t ∧ t < 180001 by omega)]
        have kk : qf_X12_hear 20000 K = stK K1 := by
          rw [← c2]
          unfold qf_X12_hear
          rw [if_neg (show ¬ K 2252 16 0 = 0 by omega), rd]
          rfl
        have an := anew_both (M := M) (K := K) (M1 := M1) (K1 := K1) t1 t2 ((c6.2 _ _ _ (by decide) (by decide) (by omega)).trans hk) ((c6.2 _ _ _ (by decide) (by decide) (by omega)).trans hb) b01 c3 c4 c5 ⟨fun e x y z1 z2 z3 z4 z5 => c6.1 e x y z2 z3 z4 (by omega), fun e x y z1 z2 z3 z4 => c6.2 e x y z2 z3 (by omega)⟩ (by omega) (by
          rcases c7 with z | ⟨z, z2⟩
          · exact Or.inl z
          · refine Or.inr ⟨by omega, by omega, by omega, by omega⟩)
        rcases b01 with g | g
        · obtain ⟨M', K', a1, a2, a3⟩ := an.1 g
          refine ⟨M', K', ?_, kk.trans a2, a3⟩
          have hw := w1 g
          unfold qf_X1_hear
          rw [if_neg (show ¬ M 1139 9 0 = -1 by omega), if_pos (show 11 ≤ M 1139 9 0 by omega), if_neg (show ¬ 13 ≤ M 1139 9 0 by omega), if_neg (show ¬ β = 1 by omega), c1]
          simp only [Option.bind_some]
          rw [a1]
          rfl
        · obtain ⟨K', a2, a3⟩ := an.2 g
          have hw := w2 g
          refine ⟨qw M1 1139 9 0 (-1), K', ?_, kk.trans a2, a3 _ qw_s (fun e x y z => by rw [qw_ap, if_neg (by omega)])⟩
          unfold qf_X1_hear qbnd
          rw [if_neg (show ¬ M 1139 9 0 = -1 by omega), if_pos (show 11 ≤ M 1139 9 0 by omega), if_pos (show 13 ≤ M 1139 9 0 by omega), if_pos g, c1]
          rfl
      by_cases g13 : h = 13
      · rcases b01 with g | g
        · -- the next character begins
          have e : qf_X1_hear 20000 β M = some ((), qw (qw M 1139 10 0 0) 1139 9 0 1) := by
            unfold qf_X1_hear
            rw [if_neg (show ¬ M 1139 9 0 = -1 by omega), if_pos (show 11 ≤ M 1139 9 0 by omega), if_pos (show 13 ≤ M 1139 9 0 by omega), if_neg (show ¬ β = 1 by omega)]
            rfl
          obtain ⟨M2, hM2⟩ : ∃ X, qw (qw M 1139 10 0 0) 1139 9 0 1 = X := ⟨_, rfl⟩
          rw [hM2] at e
          have f2 : ∀ e x y, ¬ (e = 1139 ∧ (x = 9 ∨ x = 10)) → M2 e x y = M e x y := fun e x y z => by rw [← hM2, qw_ap, if_neg (by omega), qw_ap, if_neg (by omega)]
          have m9 : M2 1139 9 0 = 1 := by rw [← hM2]; exact qw_s
          have m10 : M2 1139 10 0 = 0 := by rw [← hM2, qw_i (by decide)]; exact qw_s
          obtain ⟨K2, hK2⟩ : ∃ X, qw K 2252 28 0 t = X := ⟨_, rfl⟩
          have fK : ∀ e x y, ¬ (e = 2252 ∧ x = 28) → K2 e x y = K e x y := fun e x y z => by rw [← hK2, qw_ap, if_neg (by omega)]
          have k28 : K2 2252 28 0 = t := by rw [← hK2]; exact qw_s
          have k16 : K2 2252 16 0 = B := (fK _ _ _ (by omega)).trans hB
          have k17 : K2 2252 17 0 = c := (fK _ _ _ (by omega)).trans hc
          have k24 : K2 2252 24 0 = K 2252 24 0 := fK _ _ _ (by omega)
          refine ⟨M2, K2, e, ?_, Or.inr ⟨by omega, by rw [k16, k24]; exact r2, by omega, by rw [f2 _ _ _ (by omega), k17]; exact r4, by rw [f2 _ _ _ (by omega), fK _ _ _ (by omega)]; exact r5, by rw [fK _ _ _ (by omega)]; exact r6, fun i i0 i1 => ?_, Or.inl ⟨by omega, by omega, by omega, by omega, ?_⟩⟩, ltt_o hl' (fun z z0 z1 => f2 _ _ _ (by omega)) (fun z => f2 _ _ _ (by omega)) (fun z z0 z1 => fK _ _ _ (by omega)) (fun z => fK _ _ _ (by omega)) (Int.le_refl _), hdr_o hd (fun z => f2 _ _ _ (by omega)) (fun z => fK _ _ _ (by omega)), pch_o pch_r (fun z => f2 _ _ _ (by omega)) (fun z => fK _ _ _ (by omega)) (fun z => fK _ _ _ (by omega)), ⟨fun e x y z1 z2 z3 z4 z5 => f2 e x y (by omega), fun e x y z1 z2 z3 z4 => fK e x y (by omega)⟩, Or.inl k24, Or.inr (Or.inr ⟨by rw [k16, hB], by omega⟩), fun z => by omega, Or.inr (Or.inr ⟨g, by omega, ?_, by omega, by omega, by omega⟩)⟩
          · have rd : qf_X12_reads 20000 K = some (0, K2) := by
              unfold qf_X12_reads qbnd
              rw [q3, hk, hE, hb, if_pos (show (0 : Int) ≤ 0 by decide), w32_id (x := E + 3) (by omega) (by omega), if_pos (show t = E + 3 by omega), if_pos (show 0 ≤ t ∧ t < 180001 by omega), if_pos g]
              (try dsimp only)
              rw [hK2]
            unfold qf_X12_hear
            rw [if_neg (show ¬ K 2252 16 0 = 0 by omega), rd]
            rfl
          · rw [f2 _ _ _ (by omega), fK _ _ _ (by omega)]
            exact r7 i i0 (by omega)
          · rw [m9, m10, k28]
            show 0 = 0 + K2 2253 (t + 0) 0 * 1
            rw [show t + 0 = t by omega, fK _ _ _ (by omega), hb, g]
            decide
          · unfold msr
            rw [m9, k17, hh, hc, if_pos (by decide), if_neg (show ¬ h ≤ 10 by omega)]
            omega
        · exact comp (fun z => by omega) (fun _ => g13)
      · rcases b01 with g | g
        · exact comp (fun _ => by omega) (fun z => by omega)
        · -- a 1 between
          have e : qf_X1_hear 20000 β M = some ((), qw M 1139 9 0 (h + 1)) := by
            unfold qf_X1_hear qbnd
            rw [if_neg (show ¬ M 1139 9 0 = -1 by omega), if_pos (show 11 ≤ M 1139 9 0 by omega), if_neg (show ¬ 13 ≤ M 1139 9 0 by omega), if_pos g, hh, w32_id (x := h + 1) (by omega) (by omega)]
          obtain ⟨M2, hM2⟩ : ∃ X, qw M 1139 9 0 (h + 1) = X := ⟨_, rfl⟩
          rw [hM2] at e
          have f2 : ∀ e x y, ¬ (e = 1139 ∧ x = 9) → M2 e x y = M e x y := fun e x y z => by rw [← hM2, qw_ap, if_neg (by omega)]
          have m9 : M2 1139 9 0 = h + 1 := by rw [← hM2]; exact qw_s
          refine ⟨M2, K, e, ?_, Or.inr ⟨by omega, by rw [hB]; exact r2, by omega, by rw [f2 _ _ _ (by omega), hc]; exact r4, by rw [f2 _ _ _ (by omega)]; exact r5, r6, fun i i0 i1 => ?_, Or.inr ⟨by omega, by omega, q3, by omega, by rw [hE, hB, hc]; exact q5, by omega⟩⟩, ltt_o hl' (fun z z0 z1 => f2 _ _ _ (by omega)) (fun z => f2 _ _ _ (by omega)) (fun _ _ _ => rfl) (fun _ => rfl) (Int.le_refl _), hdr_o hd (fun z => f2 _ _ _ (by omega)) (fun _ => rfl), pch_o pch_r (fun z => f2 _ _ _ (by omega)) (fun _ => rfl) (fun _ => rfl), ⟨fun e x y z1 z2 z3 z4 z5 => f2 e x y (by omega), fun _ _ _ _ _ _ _ => rfl⟩, Or.inl rfl, Or.inr (Or.inr ⟨rfl, by omega⟩), fun _ => Or.inr ⟨by omega, by rw [m9, hh]⟩, Or.inr (Or.inl ?_)⟩
          · have rd : qf_X12_reads 20000 K = some (0, K) := by
              unfold qf_X12_reads qf_X12_reads_J187
              rw [q3, hk, hE, hb, if_pos (show (0 : Int) ≤ 0 by decide), w32_id (x := E + 3) (by omega) (by omega), if_neg (show ¬ t = E + 3 by omega), if_neg (show ¬ t = E + 3 by omega), if_pos (show 0 ≤ t ∧ t < 180001 by omega), if_neg (show ¬ β = 0 by omega)]
            unfold qf_X12_hear
            rw [if_neg (show ¬ K 2252 16 0 = 0 by omega), rd]
            rfl
          · rw [f2 _ _ _ (by omega)]
            exact r7 i i0 (by omega)
          · unfold msr
            rw [m9, hh, if_neg (show ¬ h + 1 ≤ 10 by omega), if_neg (show ¬ h ≤ 10 by omega)]
            exact Int.le_refl _
end BUm
