/-! ===== the bus: a bit time ===== -/
section BUp
variable {M K M' K' M1 K1 Ka Z A W : qm} {a b i j k v w x y s t I β R u c E : Int} {n m r : Nat} {f g : Int → Int}
/-- what a bit time may change -/
def FBT (M Z : qm) : Prop := ∀ e x y, e ≠ 1140 → e ≠ 1149 → e ≠ 1158 → e ≠ 1139 → ¬ (1168 ≤ e ∧ e ≤ 1171) → e ≠ 1135 → Z e x y = M e x y
def FKT (K Z : qm) : Prop := ∀ e x y, e ≠ 2252 → e ≠ 2253 → ¬ (2258 ≤ e ∧ e ≤ 2269) → Z e x y = K e x y
/-- what one bit time does, in facts -/
def BFL (M K : qm) (t β : Int) (M7 M14 K14 : qm) : Prop := (β = 0 ∨ β = 1) ∧ (∀ s, 0 ≤ s → s < 8 → -1 ≤ M7 1140 s 1 ∧ (M7 1140 s 9 ≠ -1 → t = K 2252 24 0 + 14 + M7 1140 s 9 ∧ 0 ≤ M7 1140 s 9 ∧ M7 1140 s 9 ≤ 10) ∧ (M7 1140 s 1 = M 1140 s 1 ∨ (M7 1140 s 1 = 0 ∧ 50 ≤ M 1139 6 0))) ∧ (β = 0 → K 2254 t 0 = 1 ∨ ∃ s, 0 ≤ s ∧ s < 8 ∧ (M7 1140 s 1 ≠ -1 ∨ M7 1140 s 9 ≠ -1)) ∧ SPB M14 K14 t ∧ (K14 2252 3 0 = M14 1139 8 0 ∧ -t ≤ M14 1139 8 0 ∧ M14 1139 8 0 ≤ 50) ∧ (∀ s, 0 ≤ s → s < 8 → STN M14 K14 s ∧ (M14 1140 s 1 = -1 ∨ (M7 1140 s 1 ≠ -1 ∧ M14 1140 s 1 = M7 1140 s 1 + 1)) ∧ (M14 1140 s 9 = -1 ∨ (M7 1140 s 9 ≠ -1 ∧ M14 1140 s 9 = M7 1140 s 9 + 1))) ∧ CNT K14 t ∧ (M14 1139 5 0 = t ∧ K14 2252 0 0 = t) ∧ M14 1139 6 0 = (if β = 1 then M 1139 6 0 + 1 else 0) ∧ (K14 2253 t 0 = β ∧ ∀ u, u ≠ t → K14 2253 u 0 = K 2253 u 0) ∧ (∀ u, K14 2254 u 0 = K 2254 u 0) ∧ (∀ i, 0 ≤ i → i < 2048 → K14 2256 i 0 = M14 1167 i 0) ∧ HRG M14 K14 t ∧ LTT M14 K14 t ∧ HDR M14 K14 ∧ PCH M K M14 K14 ∧ (FBT M M14 ∧ FKT K K14) ∧ (K14 2252 24 0 = K 2252 24 0 ∨ (K14 2252 24 0 = t - M 1139 9 0 + 10 ∧ 11 ≤ M 1139 9 0 ∧ M 1139 9 0 ≤ 13 ∧ K 2252 24 0 + 103 ≤ t)) ∧ (K14 2252 16 0 = 0 ∨ K14 2252 16 0 = t ∨ (K14 2252 16 0 = K 2252 16 0 ∧ K 2252 16 0 ≠ 0)) ∧ (β = 1 → M14 1139 9 0 = -1 ∨ (1 ≤ M 1139 9 0 ∧ M14 1139 9 0 = M 1139 9 0 + 1)) ∧ (msr M14 K14 ≤ 1 ∨ msr M14 K14 ≤ msr M K ∨ (β = 0 ∧ M 1139 9 0 = 13 ∧ msr M14 K14 = msr M K + 1 ∧ t = K 2252 16 0 + 13 * K 2252 17 0 ∧ K14 2252 16 0 = K 2252 16 0 ∧ K14 2252 17 0 = K 2252 17 0))
theorem bit_flow (h : BUS M K (t - 1)) (t2 : t ≤ 180000) : ∃ β M7 M14 K14, qf_X1_runBitTime 20000 M = some ((), M14) ∧ qf_X12_bitTime 20000 K = some ((), K14) ∧ BFL M K t β M7 M14 K14 := by
  obtain ⟨⟨n1, n2, n3⟩, hst, hid, hon, hsp, hds, hlt, hli, hhr, hhd, hh1, hcn, hab, hsb, hib, hie, hms, hu1, hu2⟩ := h
  have t1 : 1 ≤ t := by omega
  -- the clocks
  obtain ⟨M2, hM2⟩ : ∃ X, qw M 1139 5 0 t = X := ⟨_, rfl⟩
  obtain ⟨K2, hK2⟩ : ∃ X, qw K 2252 0 0 t = X := ⟨_, rfl⟩
  have fM2 : ∀ e x y, ¬ (e = 1139 ∧ x = 5) → M2 e x y = M e x y := fun e x y z => by rw [← hM2, qw_ap, if_neg (by omega)]
  have fK2 : ∀ e x y, ¬ (e = 2252 ∧ x = 0) → K2 e x y = K e x y := fun e x y z => by rw [← hK2, qw_ap, if_neg (by omega)]
  have m25 : M2 1139 5 0 = t := by rw [← hM2]; exact qw_s
  have k20 : K2 2252 0 0 = t := by rw [← hK2]; exact qw_s
  have st2 : ∀ s, 0 ≤ s → s < 8 → STN M2 K2 s := fun s s0 s1 => stn_o (hst s s0 s1) (fun _ => fM2 _ _ _ (by omega)) (fun _ => fM2 _ _ _ (by omega)) (fun _ => fM2 _ _ _ (by omega)) (fun b b0 b1 _ _ => fK2 _ _ _ (by omega)) (fun _ _ _ => fK2 _ _ _ (by omega))
  have m26 : M2 1139 6 0 = M 1139 6 0 := fM2 _ _ _ (by omega)
  have k224 : K2 2252 24 0 = K 2252 24 0 := fK2 _ _ _ (by omega)
  have id2 : IDR K2 (t - 1) (M2 1139 6 0) := by
    rw [m26]
    unfold IDR at hid ⊢
    refine ⟨hid.1, fun j j0 j1 j2 => (fK2 _ _ _ (by omega)).trans (hid.2.1 j j0 j1 j2), ?_⟩
    rw [fK2 2253 _ _ (by omega)]
    exact hid.2.2
  have lt2 : LTT M2 K2 (t - 1) := ltt_o hlt (fun x x0 x1 => fM2 _ _ _ (by omega)) (fun x => fM2 _ _ _ (by omega)) (fun x x0 x1 => fK2 _ _ _ (by omega)) (fun x => fK2 _ _ _ (by omega)) (Int.le_refl _)
  obtain ⟨Ma, M7, K7, K9, a1, a2, a3, a4, a5, a6, a7⟩ := mid_both (t := t) st2 m25 k20 t1 t2 id2 lt2 (fun i i0 i1 => by rw [fK2 _ _ _ (by omega), fM2 _ _ _ (by omega)]; exact hli i i0 i1) (fun s s0 s1 z => by
    rw [fM2 _ _ _ (by omega)] at z ⊢
    rw [k224]
    have := hab s s0 s1 z
    omega) (fun z => by rw [k224] at z ⊢; rw [m26]; exact hie z)
  rw [k224] at a5
  rw [m26] at a3 a5
  have f7 : ∀ e x y, ¬ (e = 1140 ∧ (y = 1 ∨ y = 8 ∨ y = 9)) → e ≠ 1158 → ¬ (e = 1139 ∧ x = 5) → M7 e x y = M e x y := fun e x y z1 z2 z3 => (a6 e x y z1 z2).trans (fM2 e x y z3)
  have f9 : ∀ e x y, e ≠ 2260 → e ≠ 2262 → e ≠ 2263 → ¬ (e = 2252 ∧ x = 0) → K9 e x y = K e x y := fun e x y z1 z2 z3 z4 => (a7 e x y z1 z2 z3).trans (fK2 e x y z4)
  have m75 : M7 1139 5 0 = t := (a6 _ _ _ (by omega) (by decide)).trans m25
  have k90 : K9 2252 0 0 = t := (a7 _ _ _ (by decide) (by decide) (by decide)).trans k20
  -- the line
  obtain ⟨β, M8, b01, b1, b2, b3, b4, b5, b6, b7⟩ := lineNow_both (t := t) (fun s s0 s1 => (a5 s s0 s1).1) m75 (by
    obtain ⟨u1, u2, u3⟩ := hsp
    refine ⟨fun u u0 u4 => ?_, fun u u0 => ?_, ?_⟩
    · rw [f9 2254 _ _ (by decide) (by decide) (by decide) (by omega), f7 1168 _ _ (by omega) (by decide) (by omega)]
      exact u1 u u0 u4
    · rw [f9 2254 _ _ (by decide) (by decide) (by decide) (by omega)]
      exact u2 u u0
    · rw [f7 1168 _ _ (by omega) (by decide) (by omega)]
      exact u3) t1 t2 (by rw [f9 _ _ _ (by decide) (by decide) (by decide) (by omega), f7 _ _ _ (by omega) (by decide) (by omega)]; exact hds.1)
  have k93 : K9 2252 3 0 = K 2252 3 0 := f9 _ _ _ (by decide) (by decide) (by decide) (by omega)
  have e54 : K9 2254 t 0 = K 2254 t 0 := f9 _ _ _ (by decide) (by decide) (by decide) (by omega)
  rw [e54] at b2 b3 b5 b7
  obtain ⟨D, hD⟩ : ∃ D, (if K 2254 t 0 = 0 then M7 1139 8 0 else w32 (M7 1139 8 0 - 1)) = D := ⟨_, rfl⟩
  rw [hD] at b5
  obtain ⟨K17, hK17⟩ : ∃ X, qw K9 2252 3 0 D = X := ⟨_, rfl⟩
  obtain ⟨K10, hK10⟩ : ∃ X, qw K17 2253 t 0 β = X := ⟨_, rfl⟩
  have b2' := b2 D
  rw [hK17] at b2'
  have f10 : ∀ e x y, ¬ (e = 2252 ∧ x = 3) → ¬ (e = 2253 ∧ x = t) → K10 e x y = K9 e x y := fun e x y z1 z2 => by rw [← hK10, qw_ap, if_neg (by omega), ← hK17, qw_ap, if_neg (by omega)]
  have k10t : K10 2253 t 0 = β := by rw [← hK10]; exact qw_s
  have k103 : K10 2252 3 0 = D := by rw [← hK10, qw_a (by decide), ← hK17]; exact qw_s
  have g8 : ∀ e x y, ¬ (e = 1140 ∧ (y = 1 ∨ y = 8 ∨ y = 9)) → e ≠ 1158 → e ≠ 1168 → ¬ (e = 1139 ∧ (x = 5 ∨ x = 8)) → M8 e x y = M e x y := fun e x y z1 z2 z3 z4 => (b6 e x y z3 (by omega)).trans (f7 e x y z1 z2 (by omega))
  -- the stations go on
  obtain ⟨M11, K11, c1, c2, c3, c4, c5⟩ := go_all (M := M8) (K := K10) (t := t) (β := β) (fun s s0 s1 => stn_o (a5 s s0 s1).1 (fun _ => b6 _ _ _ (by decide) (by omega)) (fun _ => b6 _ _ _ (by decide) (by omega)) (fun _ => b6 _ _ _ (by decide) (by omega)) (fun b b0 b1' _ _ => f10 _ _ _ (by omega) (by omega)) (fun _ _ _ => f10 _ _ _ (by omega) (by omega))) ((b6 _ _ _ (by decide) (by omega)).trans m75) ((f10 _ _ _ (by omega) (by omega)).trans k90) k10t b01 t1 t2
  have g11 : ∀ e x y, e ≠ 1140 → e ≠ 1149 → e ≠ 1158 → e ≠ 1168 → ¬ (e = 1139 ∧ (x = 5 ∨ x = 8)) → M11 e x y = M e x y := fun e x y z1 z2 z3 z4 z5 => (c4 e x y (by omega) (by omega)).trans (g8 e x y (by omega) z3 z4 z5)
  have p11 : ∀ e x y, e ≠ 2259 → e ≠ 2260 → e ≠ 2261 → e ≠ 2262 → e ≠ 2263 → e ≠ 2266 → ¬ (e = 2252 ∧ (x = 0 ∨ x = 3)) → ¬ (e = 2253 ∧ x = t) → K11 e x y = K e x y := fun e x y z1 z2 z3 z4 z5 z6 z7 z8 => ((c5 e x y z1 z2 z3 z4 z5 z6).trans (f10 e x y (by omega) z8)).trans (f9 e x y z2 z4 z5 (by omega))
  have k11t : K11 2253 t 0 = β := (c5 _ _ _ (by decide) (by decide) (by decide) (by decide) (by decide) (by decide)).trans k10t
  have k110 : K11 2252 0 0 = t := (c5 _ _ _ (by decide) (by decide) (by decide) (by decide) (by decide) (by decide)).trans ((f10 _ _ _ (by omega) (by omega)).trans k90)
  have m115 : M11 1139 5 0 = t := (c4 _ _ _ (by omega) (by omega)).trans ((b6 _ _ _ (by decide) (by omega)).trans m75)
  have o11 : ∀ u, u ≠ t → K11 2253 u 0 = K 2253 u 0 := fun u z => p11 _ _ _ (by decide) (by decide) (by decide) (by decide) (by decide) (by decide) (by omega) (by omega)
  have l11 : ∀ x, 16 ≤ x → x ≤ 28 → K11 2252 x 0 = K 2252 x 0 := fun x x0 x1 => p11 _ _ _ (by decide) (by decide) (by decide) (by decide) (by decide) (by decide) (by omega) (by omega)
  have n11 : ∀ x, 9 ≤ x → x ≤ 18 → M11 1139 x 0 = M 1139 x 0 := fun x x0 x1 => g11 _ _ _ (by decide) (by decide) (by decide) (by decide) (by omega)
  have ms11 : msr M11 K11 = msr M K := by
    unfold msr
    rw [l11 17 (by decide) (by decide), n11 9 (by decide) (by decide)]
  -- how many letters at most
  have sn : ∀ v, 0 ≤ sI (fun u => K 2254 u 0) v := fun v => sI_n (fun k k0 _ => by have := hu1 k k0; show 0 ≤ K 2254 k 0; omega)
  have su : sI (fun u => K 2254 u 0) (t - 1 + 1) ≤ 512 := Int.le_trans (sI_mono (by omega) (by omega) (fun k k0 k1 => by have := hu1 k (by omega); show 0 ≤ K 2254 k 0; omega)) hu2
  have cb : K 2252 17 0 ≤ 599 := by
    unfold msr at hms
    by_cases g : M 1139 9 0 ≤ 10
    · rw [if_pos g] at hms
      omega
    · rw [if_neg g] at hms
      omega
  -- a bit is heard
  obtain ⟨M12, K12, d1, d2, e1, e2, e3, e4, e5, e6, e7, e8, e9⟩ := hear_both (M := M11) (K := K11) (t := t) (β := β) t1 t2 m115 k110 k11t b01 (fun u u0 u1 => by
    by_cases z : u = t
    · rw [z, k11t]
      exact b01
    · rw [o11 u z]
      exact hon u u0 (by omega)) (hrg_o hhr (fun x x0 x1 => n11 x (by omega) (by omega)) (fun x => g11 _ _ _ (by decide) (by decide) (by decide) (by decide) (by omega)) l11 (fun x => p11 _ _ _ (by decide) (by decide) (by decide) (by decide) (by decide) (by decide) (by omega) (by omega)) (fun x x0 => o11 x (by omega))) (ltt_o hlt (fun x x0 x1 => n11 x (by omega) (by omega)) (fun x => g11 _ _ _ (by decide) (by decide) (by decide) (by decide) (by omega)) (fun x x0 x1 => l11 x (by omega) (by omega)) (fun x => p11 _ _ _ (by decide) (by decide) (by decide) (by decide) (by decide) (by decide) (by omega) (by omega)) (Int.le_refl _)) (hdr_o hhd (fun x => g11 _ _ _ (by decide) (by decide) (by decide) (by decide) (by omega)) (fun x => p11 _ _ _ (by decide) (by decide) (by decide) (by decide) (by decide) (by decide) (by omega) (by omega))) (by rw [p11 _ _ _ (by decide) (by decide) (by decide) (by decide) (by decide) (by decide) (by omega) (by omega)]; exact hh1.1) (by rw [p11 _ _ _ (by decide) (by decide) (by decide) (by decide) (by decide) (by decide) (by omega) (by omega)]; omega) (by rw [l11 17 (by decide) (by decide)]; exact cb)
  rw [l11 24 (by decide) (by decide), n11 9 (by decide) (by decide)] at e6
  rw [l11 16 (by decide) (by decide)] at e7
  rw [n11 9 (by decide) (by decide)] at e8
  rw [ms11, n11 9 (by decide) (by decide), l11 16 (by decide) (by decide), l11 17 (by decide) (by decide)] at e9
  have m126 : M12 1139 6 0 = M 1139 6 0 := (e5.1 _ _ _ (by decide) (by decide) (by decide) (by decide) (by omega)).trans (g11 _ _ _ (by decide) (by decide) (by decide) (by decide) (by omega))
  obtain ⟨I, hI⟩ : ∃ I, M 1139 6 0 = I := ⟨_, rfl⟩
  rw [hI] at m126 hid hib hie a3 a5
  have ib : I ≤ 1000 + t ∧ 0 ≤ I := by
    obtain ⟨i0, i1, i2⟩ := hid
    omega
  obtain ⟨I', hI'⟩ : ∃ I', (if β = 1 then I + 1 else 0) = I' := ⟨_, rfl⟩
  obtain ⟨M13, hM13⟩ : ∃ X, qw M12 1139 6 0 I' = X := ⟨_, rfl⟩
  have f13 : ∀ e x y, ¬ (e = 1139 ∧ x = 6) → M13 e x y = M12 e x y := fun e x y z => by rw [← hM13, qw_ap, if_neg (by omega)]
  have m136 : M13 1139 6 0 = I' := by rw [← hM13]; exact qw_s
  have q12 : ∀ e x y, e ≠ 2267 → e ≠ 2268 → e ≠ 2269 → ¬ (e = 2252 ∧ 16 ≤ x ∧ x ≤ 28) → K12 e x y = K11 e x y := e5.2
  have r12 : ∀ e x y, e ≠ 1169 → e ≠ 1170 → e ≠ 1171 → e ≠ 1135 → ¬ (e = 1139 ∧ 9 ≤ x ∧ x ≤ 18) → M12 e x y = M11 e x y := e5.1
  obtain ⟨M14, K14, w1, w2, w3, w4, w5, w6⟩ := wait_all (M := M13) (K := K12) (t := t) (fun s s0 s1 => stn_o (c3 s s0 s1).1 (fun _ => (f13 _ _ _ (by omega)).trans (r12 _ _ _ (by decide) (by decide) (by decide) (by decide) (by omega))) (fun _ => (f13 _ _ _ (by omega)).trans (r12 _ _ _ (by decide) (by decide) (by decide) (by decide) (by omega))) (fun _ => (f13 _ _ _ (by omega)).trans (r12 _ _ _ (by decide) (by decide) (by decide) (by decide) (by omega))) (fun b b0 b1' _ _ => q12 _ _ _ (by omega) (by omega) (by omega) (by omega)) (fun _ _ _ => q12 _ _ _ (by decide) (by decide) (by decide) (by omega))) ((f13 _ _ _ (by omega)).trans ((r12 _ _ _ (by decide) (by decide) (by decide) (by decide) (by omega)).trans m115)) ((q12 _ _ _ (by decide) (by decide) (by decide) (by omega)).trans k110) t1 t2 (by
    rw [f13 _ _ _ (by omega)]
    exact e2.2.2.1) (fun s s0 s1 => by
    rw [q12 2264 _ _ (by decide) (by decide) (by decide) (by omega), q12 2265 _ _ (by decide) (by decide) (by decide) (by omega), p11 2264 _ _ (by decide) (by decide) (by decide) (by decide) (by decide) (by decide) (by omega) (by omega), p11 2265 _ _ (by decide) (by decide) (by decide) (by decide) (by decide) (by decide) (by omega) (by omega)]
    exact hcn s s0 s1)
  have s14 : ∀ e x y, e ≠ 1140 → e ≠ 1149 → ¬ (e = 1139 ∧ x = 6) → M14 e x y = M12 e x y := fun e x y z1 z2 z3 => (w5 e x y (by omega) z2).trans (f13 e x y z3)
  have v14 : ∀ e x y, e ≠ 2258 → e ≠ 2261 → e ≠ 2264 → e ≠ 2265 → e ≠ 2259 → K14 e x y = K12 e x y := w6
  have d14 : ∀ x, K14 2252 x 0 = K12 2252 x 0 := fun x => v14 _ _ _ (by decide) (by decide) (by decide) (by decide) (by decide)
  have m146 : M14 1139 6 0 = I' := (w5 _ _ _ (by omega) (by decide)).trans m136
  have m149 : M14 1139 9 0 = M12 1139 9 0 := s14 _ _ _ (by decide) (by decide) (by omega)
  have x14 : ∀ u, K14 2254 u 0 = K 2254 u 0 := fun u => (v14 _ _ _ (by decide) (by decide) (by decide) (by decide) (by decide)).trans ((q12 _ _ _ (by decide) (by decide) (by decide) (by omega)).trans (p11 _ _ _ (by decide) (by decide) (by decide) (by decide) (by decide) (by decide) (by omega) (by omega)))
  have o14 : ∀ u, K14 2253 u 0 = K11 2253 u 0 := fun u => (v14 _ _ _ (by decide) (by decide) (by decide) (by decide) (by decide)).trans (q12 _ _ _ (by decide) (by decide) (by decide) (by omega))
  have t14 : ∀ s y, y = 1 ∨ y = 9 → M14 1140 s y = M11 1140 s y := fun s y z => (w5 _ _ _ (by omega) (by decide)).trans ((f13 _ _ _ (by omega)).trans (r12 _ _ _ (by decide) (by decide) (by decide) (by decide) (by omega)))
  have m87 : ∀ s y, M8 1140 s y = M7 1140 s y := fun s y => b6 _ _ _ (by decide) (by omega)
  have m168 : ∀ x, M14 1168 x 0 = M8 1168 x 0 := fun x => (s14 _ _ _ (by decide) (by decide) (by omega)).trans ((r12 _ _ _ (by decide) (by decide) (by decide) (by decide) (by omega)).trans (c4 _ _ _ (by omega) (by omega)))
  have ms14 : msr M14 K14 = msr M12 K12 := by
    unfold msr
    rw [m149, d14]
  refine ⟨β, M7, M14, K14, ?_, ?_, b01, fun s s0 s1 => ⟨(a5 s s0 s1).1.s0, fun z => ?_, ?_⟩, b7, ?_, ?_, fun s s0 s1 => ⟨w3 s s0 s1, ?_, ?_⟩, w4, ⟨?_, ?_⟩, ?_, ⟨(o14 t).trans k11t, fun u z => (o14 u).trans (o11 u z)⟩, x14, fun i i0 i1 => ?_, ?_, ?_, ?_, ?_, ⟨?_, ?_⟩, ?_, ?_, ?_, ?_⟩
  · -- the class
    unfold qf_X1_runBitTime qbnd
    rw [n1, show t - 1 + 1 = t by omega, w32_id (x := t) (by omega) (by omega)]
    (try dsimp only)
    rw [hM2, a1]
    unfold qf_X1_runBitTime_J35
    rw [a2]
    simp only [Option.bind_some]
    rw [b1]
    simp only [Option.bind_some]
    rw [c1]
    simp only [Option.bind_some]
    rw [d1]
    simp only [Option.bind_some]
    unfold qf_X1_runBitTime_J105 qbnd
    by_cases gb : β = 1
    · rw [if_pos gb] at hI' ⊢
      rw [m126, w32_id (x := I + 1) (by omega) (by omega), hI']
      (try dsimp only)
      rw [hM13, w1]
      rfl
    · rw [if_neg gb] at hI' ⊢
      have z0 : qw M12 1139 6 0 0 = M13 := by rw [← hM13, ← hI']
      (try dsimp only)
      rw [z0, w1]
      rfl
  · -- the reference
    have tr : 0 ≤ t ∧ t < 182001 := by omega
    have tl : qf_X12_bitTime_J79 20000 (if K 2254 t 0 = 0 then 1 else 0) (K9 2252 3 0) (if K 2254 t 0 = 0 then 0 else 1) K9 = some ((), K14) := by
      have eD : w32 (K9 2252 3 0 - (if K 2254 t 0 = 0 then 0 else 1)) = D := by
        rw [k93, hds.1, ← hD, f7 1139 8 0 (by omega) (by decide) (by omega)]
        by_cases z : K 2254 t 0 = 0
        · rw [if_pos z, if_pos z, w32_id (by omega) (by omega), Int.sub_zero]
        · rw [if_neg z, if_neg z]
      unfold qf_X12_bitTime_J79 qbnd
      rw [eD]
      (try dsimp only)
      rw [hK17, b2']
      simp only [Option.bind_some]
      rw [show K17 2252 0 0 = t by rw [← hK17, qw_i (by decide)]; exact k90, if_pos (show (0 ≤ t ∧ t < 180001) ∧ (β = 0 ∨ β = 1) from ⟨by omega, b01⟩), hK10, c2]
      simp only [Option.bind_some]
      rw [d2]
      simp only [Option.bind_some]
      rw [w2]
      rfl
    unfold qf_X12_bitTime qbnd
    rw [n2, show t - 1 + 1 = t by omega, w32_id (x := t) (by omega) (by omega)]
    (try dsimp only)
    rw [hK2, idle_K id2 t1 t2 k20]
    simp only [Option.bind_some]
    rw [m26, hI, a3]
    simp only [Option.bind_some]
    rw [a4]
    simp only [Option.bind_some]
    unfold qf_X12_bitTime_J56
    rw [k90, if_pos tr, if_pos tr, e54]
    by_cases z : K 2254 t 0 = 0
    · rw [if_pos z, if_pos z] at tl
      rw [if_pos z, if_pos z]
      exact tl
    · rw [if_neg z, if_neg z] at tl
      rw [if_neg z, if_neg z, if_pos tr]
      exact tl
  · have q := a5 s s0 s1
    rcases q.1.an with y | ⟨_, _, _, _, y5, y6⟩
    · exact absurd y.2 z
    · exact ⟨q.2.1 z, y5, y6⟩
  · rw [hI]
    rcases (a5 s s0 s1).2.2 with y | y
    · exact Or.inl (y.trans (fM2 _ _ _ (by omega)))
    · exact Or.inr y
  · obtain ⟨u1, u2, u3⟩ := b4
    refine ⟨fun u u0 u4 => ?_, fun u u0 => ?_, ?_⟩
    · rw [m168, x14, ← f9 2254 u 0 (by decide) (by decide) (by decide) (by omega)]
      exact u1 u u0 u4
    · rw [x14, ← f9 2254 u 0 (by decide) (by decide) (by decide) (by omega)]
      exact u2 u u0
    · rw [m168]
      exact u3
  · rw [d14, q12 _ _ _ (by decide) (by decide) (by decide) (by omega), c5 _ _ _ (by decide) (by decide) (by decide) (by decide) (by decide) (by decide), k103, s14 _ _ _ (by decide) (by decide) (by omega), r12 _ _ _ (by decide) (by decide) (by decide) (by decide) (by omega), c4 _ _ _ (by omega) (by omega)]
    refine ⟨b5.symm, ?_⟩
    rw [b5, ← hD, f7 1139 8 0 (by omega) (by decide) (by omega)]
    by_cases z : K 2254 t 0 = 0
    · rw [if_pos z]
      omega
    · rw [if_neg z, w32_id (by omega) (by omega)]
      omega
  · rw [t14 s 1 (Or.inl rfl), ← m87]
    exact (c3 s s0 s1).2.1
  · rw [t14 s 9 (Or.inr rfl), ← m87]
    exact (c3 s s0 s1).2.2
  · rw [s14 _ _ _ (by decide) (by decide) (by omega), r12 _ _ _ (by decide) (by decide) (by decide) (by decide) (by omega)]
    exact m115
  · rw [d14, q12 _ _ _ (by decide) (by decide) (by decide) (by omega)]
    exact k110
  · rw [m146, hI]
    exact hI'.symm
  · rw [v14 _ _ _ (by decide) (by decide) (by decide) (by decide) (by decide), q12 _ _ _ (by decide) (by decide) (by decide) (by omega), p11 _ _ _ (by decide) (by decide) (by decide) (by decide) (by decide) (by decide) (by omega) (by omega), s14 _ _ _ (by decide) (by decide) (by omega), r12 _ _ _ (by decide) (by decide) (by decide) (by decide) (by omega), g11 _ _ _ (by decide) (by decide) (by decide) (by decide) (by omega)]
    exact hli i i0 i1
  · exact hrg_o e1 (fun x x0 x1 => s14 _ _ _ (by decide) (by decide) (by omega)) (fun x => s14 _ _ _ (by decide) (by decide) (by omega)) (fun x _ _ => d14 x) (fun x => v14 _ _ _ (by decide) (by decide) (by decide) (by decide) (by decide)) (fun x _ => v14 _ _ _ (by decide) (by decide) (by decide) (by decide) (by decide))
  · exact ltt_o e2 (fun x x0 x1 => s14 _ _ _ (by decide) (by decide) (by omega)) (fun x => s14 _ _ _ (by decide) (by decide) (by omega)) (fun x _ _ => d14 x) (fun x => v14 _ _ _ (by decide) (by decide) (by decide) (by decide) (by decide)) (Int.le_refl _)
  · exact hdr_o e3 (fun x => s14 _ _ _ (by decide) (by decide) (by omega)) (fun x => v14 _ _ _ (by decide) (by decide) (by decide) (by decide) (by decide))
  · exact pch_b (pch_o e4 (fun x => s14 _ _ _ (by decide) (by decide) (by omega)) (fun x => v14 _ _ _ (by decide) (by decide) (by decide) (by decide) (by decide)) (fun x => v14 _ _ _ (by decide) (by decide) (by decide) (by decide) (by decide))) (fun x => g11 _ _ _ (by decide) (by decide) (by decide) (by decide) (by omega)) (p11 _ _ _ (by decide) (by decide) (by decide) (by decide) (by decide) (by decide) (by omega) (by omega))
  · exact fun e x y z1 z2 z3 z4 z5 z6 => ((s14 e x y z1 z2 (by omega)).trans (r12 e x y (by omega) (by omega) (by omega) z6 (by omega))).trans (g11 e x y z1 z2 z3 (by omega) (by omega))
  · exact fun e x y z1 z2 z3 => ((v14 e x y (by omega) (by omega) (by omega) (by omega) (by omega)).trans (q12 e x y (by omega) (by omega) (by omega) (by omega))).trans (p11 e x y (by omega) (by omega) (by omega) (by omega) (by omega) (by omega) (by omega) (by omega))
  · rw [d14]
    exact e6
  · rw [d14]
    exact e7
  · rw [m149]
    exact e8
  · rw [ms14, d14, d14]
    exact e9
end BUp
