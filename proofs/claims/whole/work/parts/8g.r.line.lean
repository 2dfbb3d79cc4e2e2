/-! ===== the bus: the thirty bit times of a second ===== -/
section BUr
variable {M K M' K' M1 K1 : qm} {i j k v w x y s t u : Int} {m n : Nat}
theorem bus_o (h : BUS M K t) (e1 : ∀ e x y, e = 1140 ∨ e = 1149 ∨ e = 1158 ∨ e = 1139 ∨ (1167 ≤ e ∧ e ≤ 1171) → M' e x y = M e x y) (e2 : ∀ e x y, 2252 ≤ e → e ≤ 2269 → K' e x y = K e x y) : BUS M' K' t := by
  obtain ⟨⟨n1, n2, n3⟩, hst, hid, hon, hsp, hds, hlt, hli, hhr, hhd, hh1, hcn, hab, hsb, hib, hie, hms, hu1, hu2⟩ := h
  have m39 : ∀ x y, M' 1139 x y = M 1139 x y := fun x y => e1 _ _ _ (by omega)
  have m40 : ∀ x y, M' 1140 x y = M 1140 x y := fun x y => e1 _ _ _ (by omega)
  have k52 : ∀ x y, K' 2252 x y = K 2252 x y := fun x y => e2 _ _ _ (by decide) (by decide)
  have sx : (fun u => K' 2254 u 0) = (fun u => K 2254 u 0) := funext (fun u => e2 _ _ _ (by decide) (by decide))
  refine ⟨⟨by rw [m39]; exact n1, by rw [k52]; exact n2, n3⟩, fun s s0 s1 => stn_o (hst s s0 s1) (fun _ => m40 _ _) (fun _ => e1 _ _ _ (by omega)) (fun _ => e1 _ _ _ (by omega)) (fun b b0 b1 _ _ => e2 _ _ _ (by omega) (by omega)) (fun _ _ _ => e2 _ _ _ (by decide) (by decide)), ?_, fun u u0 u1 => ?_, ?_, ?_, ltt_o hlt (fun x _ _ => m39 x 0) (fun x => e1 _ _ _ (by omega)) (fun x _ _ => k52 x 0) (fun x => e2 _ _ _ (by decide) (by decide)) (Int.le_refl _), fun i i0 i1 => ?_, hrg_o hhr (fun x _ _ => m39 x 0) (fun x => e1 _ _ _ (by omega)) (fun x _ _ => k52 x 0) (fun x => e2 _ _ _ (by decide) (by decide)) (fun x _ => e2 _ _ _ (by decide) (by decide)), hdr_o hhd (fun x => e1 _ _ _ (by omega)) (fun x => e2 _ _ _ (by decide) (by decide)), ?_, fun s s0 s1 => ?_, fun s s0 s1 => ?_, ?_, ?_, ?_, ?_, fun u u0 => ?_, by rw [sx]; exact hu2⟩
  · rw [m39]
    unfold IDR at hid ⊢
    refine ⟨hid.1, fun j j0 j1 j2 => (e2 _ _ _ (by decide) (by decide)).trans (hid.2.1 j j0 j1 j2), ?_⟩
    rw [e2 2253 _ _ (by decide) (by decide)]
    exact hid.2.2
  · rw [e2 2253 _ _ (by decide) (by decide)]
    exact hon u u0 u1
  · obtain ⟨u1, u2, u3⟩ := hsp
    refine ⟨fun u u0 u4 => ?_, fun u u0 => ?_, ?_⟩
    · rw [e2 2254 _ _ (by decide) (by decide), e1 1168 _ _ (by omega)]
      exact u1 u u0 u4
    · rw [e2 2254 _ _ (by decide) (by decide)]
      exact u2 u u0
    · rw [e1 1168 _ _ (by omega)]
      exact u3
  · rw [m39, k52]
    exact hds
  · rw [e2 2256 _ _ (by decide) (by decide), e1 1167 _ _ (by omega)]
    exact hli i i0 i1
  · rw [e2 2269 _ _ (by decide) (by decide)]
    exact hh1
  · rw [e2 2264 _ _ (by decide) (by decide), e2 2265 _ _ (by decide) (by decide)]
    exact hcn s s0 s1
  · rw [m40, k52]
    exact hab s s0 s1
  · rw [k52]
    intro z s s0 s1
    rw [m40]
    exact hsb z s s0 s1
  · rw [m39, m39]
    exact hib
  · rw [m39, k52]
    exact hie
  · rw [sx]
    unfold msr at hms ⊢
    rw [m39, k52]
    exact hms
  · rw [e2 2254 _ _ (by decide) (by decide)]
    exact hu1 u u0
/-- thirty bit times, and the points that they set -/
theorem line30 (h : BUS M K t) (ht : t + 30 ≤ 180000) (hp : R_points M K) : ∃ M' K', qf_X11_passSecond_L211 20000 20000 0 M = some (.inr ((), M')) ∧ qf_X18_line_ 20000 K = some ((), K') ∧ BUS M' K' (t + 30) ∧ R_points M' K' ∧ FBT M M' ∧ (∀ e x y, e ≠ 2247 → e ≠ 2252 → e ≠ 2253 → ¬ (2258 ≤ e ∧ e ≤ 2269) → K' e x y = K e x y) := by
  obtain ⟨r, r', e1, e2, M', K', rfl, rfl, h1, h2, h3, h4⟩ := two_loop (f := fun s => qf_X11_passSecond_L211_b 20000 s.1 s.2) (g := fun s => qf_X18_line__L2_b 20000 s.1 s.2) (Q := fun (r : (Unit × qm) ⊕ (Unit × qm)) (r' : (Unit × qm) ⊕ (Unit × qm)) => ∃ M' K', r = .inr ((), M') ∧ r' = .inr ((), K') ∧ BUS M' K' (t + 30) ∧ R_points M' K' ∧ FBT M M' ∧ (∀ e x y, e ≠ 2247 → e ≠ 2252 → e ≠ 2253 → ¬ (2258 ≤ e ∧ e ≤ 2269) → K' e x y = K e x y)) 30 (fun i a b => ∃ (p : Int) (Z W : qm), p = i ∧ a = (p, Z) ∧ b = (p, W) ∧ BUS Z W (t + p) ∧ R_points Z W ∧ FBT M Z ∧ (∀ e x y, e ≠ 2247 → e ≠ 2252 → e ≠ 2253 → ¬ (2258 ≤ e ∧ e ≤ 2269) → W e x y = K e x y)) (fun i a b i8 hI => by
      obtain ⟨p, Z, W, hp, rfl, rfl, h1, h2, h3, h4⟩ := hI
      have p0 : 0 ≤ p := by omega
      have p8 : p < 30 := by omega
      obtain ⟨X, Y, x1, x2, x3, x4, x5, x6⟩ := bit_both (M := Z) (K := W) (t := t + p + 1) (by rw [show t + p + 1 - 1 = t + p by omega]; exact h1) (by omega)
      have w1 : 0 ≤ W 2269 1 0 ∧ W 2269 1 0 ≤ t + p := h1.2.2.2.2.2.2.2.2.2.2.1
      have fY : ∀ e x y, e ≠ 2247 → e ≠ 2252 → e ≠ 2253 → ¬ (2258 ≤ e ∧ e ≤ 2269) → Y e x y = K e x y := fun e x y z1 z2 z3 z4 => (x6 e x y z2 z3 z4).trans (h4 e x y z1 z2 z3 z4)
      have fX : FBT M X := fun e x y z1 z2 z3 z4 z5 z6 => (x5 e x y z1 z2 z3 z4 z5 z6).trans (h3 e x y z1 z2 z3 z4 z5 z6)
      have y47 : ∀ x, Y 2247 x 0 = W 2247 x 0 := fun x => x6 _ _ _ (by decide) (by decide) (by omega)
      have eC : qf_X11_passSecond_L211_b 20000 p Z = some (.inr (p + 1, X)) := by
        unfold qf_X11_passSecond_L211_b
        rw [if_neg (show ¬ (30 : Int) ≤ p by omega), x1, w32_id (x := p + 1) (by omega) (by omega)]
        rfl
      have wp : w32 (p + 1) = p + 1 := w32_id (by omega) (by omega)
      -- nothing is set
      have no : qf_X18_line__L2_b 20000 p W = some (.inr (p + 1, Y)) → (∀ x, X 1135 x 0 = Z 1135 x 0) → ∃ a' b', qf_X11_passSecond_L211_b 20000 p Z = some (.inr a') ∧ qf_X18_line__L2_b 20000 p W = some (.inr b') ∧ ∃ (q : Int) (Z W : qm), q = ((i + 1 : Nat) : Int) ∧ a' = (q, Z) ∧ b' = (q, W) ∧ BUS Z W (t + q) ∧ R_points Z W ∧ FBT M Z ∧ (∀ e x y, e ≠ 2247 → e ≠ 2252 → e ≠ 2253 → ¬ (2258 ≤ e ∧ e ≤ 2269) → W e x y = K e x y) := fun e z => ⟨_, _, eC, e, p + 1, X, Y, by omega, rfl, rfl, by rw [show t + (p + 1) = t + p + 1 by omega]; exact x3, fun j j0 j1 => by rw [y47, z]; exact h2 j j0 j1, fX, fY⟩
      have st : qf_X18_line__L2_b 20000 p W = (if Y 2269 1 0 ≤ W 2269 1 0 then some (.inr (p + 1, Y)) else if Y 2268 5 0 ≤ 127 then some (.inr (p + 1, Y)) else if (w32 ((w32 (256 * (Y 2268 3 0))) + (Y 2268 4 0))) ≤ 3 then some (.inr (p + 1, Y)) else if 10 ≤ (w32 ((w32 (256 * (Y 2268 3 0))) + (Y 2268 4 0))) then some (.inr (p + 1, Y)) else if 0 ≤ (w32 ((w32 (256 * (Y 2268 3 0))) + (Y 2268 4 0))) ∧ (w32 ((w32 (256 * (Y 2268 3 0))) + (Y 2268 4 0))) < 10 then some (.inr (p + 1, qw Y 2247 (w32 ((w32 (256 * (Y 2268 3 0))) + (Y 2268 4 0))) 0 (Y 2268 6 0))) else none) := by
        unfold qf_X18_line__L2_b qbnd
        rw [if_neg (show ¬ (30 : Int) ≤ p by omega), x2, wp]
        rfl
      rcases x4 with ⟨q1, q2⟩ | ⟨q1, ⟨r1, r2, r3, r4, r5, r6⟩, q2⟩
      · rw [if_pos (by omega)] at st
        exact no st q2
      · rw [w32_id (by omega) (by omega)] at q1
        rw [if_neg (by omega), w32_id (x := 256 * Y 2268 3 0) (by omega) (by omega), w32_id (x := 256 * Y 2268 3 0 + Y 2268 4 0) (by omega) (by omega)] at st
        obtain ⟨P, hP⟩ : ∃ P, 256 * Y 2268 3 0 + Y 2268 4 0 = P := ⟨_, rfl⟩
        rw [hP] at st q2
        rcases q2 with ⟨a1, a2, a3, a4, a5⟩ | ⟨a1, a2⟩
        · rw [if_neg (by omega), if_neg (by omega), if_neg (by omega), if_pos (by omega)] at st
          refine ⟨_, _, eC, st, p + 1, X, _, by omega, rfl, rfl, ?_, fun j j0 j1 => ?_, fX, fun e x y z1 z2 z3 z4 => ?_⟩
          · rw [show t + (p + 1) = t + p + 1 by omega]
            exact bus_o x3 (fun _ _ _ _ => rfl) (fun e x y z1 z2 => qw_a (by omega))
          · by_cases e : j = P
            · have z : qw Y 2247 P 0 (Y 2268 6 0) 2247 P 0 = Y 2268 6 0 := qw_s
              rw [e, z, a4]
              omega
            · rw [qw_i e, y47, a5 j e]
              exact h2 j j0 j1
          · rw [qw_a z1]
            exact fY e x y z1 z2 z3 z4
        · refine no ?_ a2
          by_cases g1 : Y 2268 5 0 ≤ 127
          · rw [if_pos g1] at st
            exact st
          · rw [if_neg g1] at st
            by_cases g2 : P ≤ 3
            · rw [if_pos g2] at st
              exact st
            · rw [if_neg g2, if_pos (by omega)] at st
              exact st) (fun a b hI => by
      obtain ⟨p, Z, W, hp, rfl, rfl, h1, h2, h3, h4⟩ := hI
      refine ⟨.inr ((), Z), .inr ((), W), ?_, ?_, Z, W, rfl, rfl, by rw [show t + 30 = t + p by omega]; exact h1, h2, h3, h4⟩
      · show qf_X11_passSecond_L211_b 20000 p Z = _
        unfold qf_X11_passSecond_L211_b
        rw [if_pos (show (30 : Int) ≤ p by omega)]
      · show qf_X18_line__L2_b 20000 p W = _
        unfold qf_X18_line__L2_b
        rw [if_pos (show (30 : Int) ≤ p by omega)]) 30 0 20000 20000 (0, M) (0, K) rfl (by omega) (by omega) ⟨0, M, K, rfl, rfl, rfl, by rw [Int.add_zero]; exact h, hp, fun _ _ _ _ _ _ _ _ _ => rfl, fun _ _ _ _ _ _ _ => rfl⟩
  refine ⟨M', K', e1, ?_, h1, h2, h3, h4⟩
  unfold qf_X18_line_
  have e2' : qf_X18_line__L2 20000 20000 0 K = some (.inr ((), K')) := e2
  rw [e2']
  rfl
end BUr
