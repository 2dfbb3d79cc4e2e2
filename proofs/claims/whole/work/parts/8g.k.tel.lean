/-! ===== the bus: a telegram is heard ===== -/
section BUk
variable {M K M' K' Ka Z A W : qm} {a b i j k v w x y s t I β R u c E : Int} {n m r : Nat} {q p : Int → Int}
theorem tel_both (t2 : t ≤ 180000) (hl : LTT M K (t - 1)) (hd : HDR M K) (hc : M 1139 13 0 = c) (hk : K 2252 17 0 = c) (c0 : 8 ≤ c) (c1 : c ≤ 600) (hb : ∀ i, 0 ≤ i → i < c → M 1169 i 0 = K 2267 i 0 ∧ 0 ≤ M 1169 i 0 ∧ M 1169 i 0 < 256) (e0 : 1 ≤ E) (e1 : E ≤ t) (he : K 2252 20 0 = E) (h1 : 0 ≤ K 2269 1 0) (h2 : K 2269 1 0 ≤ 200000) (bad0 : K 2252 19 0 = 0) : ∃ M' K', qf_X1_takeTelegram 20000 E M = some ((), M') ∧ cmK K = stK K' ∧ LTT M' K' t ∧ HDR M' K' ∧ PCH M K M' K' ∧ CMF M M' K K' ∧ K' 2252 24 0 = E := by
  obtain ⟨l1, l2, l3, l4, l5⟩ := hl
  obtain ⟨Y, eY, fY, hY⟩ := latl_K (K := K) (c := c) (by omega) c1 hk
  -- the class
  obtain ⟨M4, hM4⟩ : ∃ X, qcp1 M 1169 0 1170 0 c = X := ⟨_, rfl⟩
  obtain ⟨M9, hM9⟩ : ∃ X, qw (qw (qw (qw M4 1139 15 0 c) 1139 16 0 E) 1139 17 0 1) 1139 18 0 (-1) = X := ⟨_, rfl⟩
  obtain ⟨M12, hM12⟩ : ∃ X, qw M9 1171 0 0 (w32 (M9 1171 0 0 + 1)) = X := ⟨_, rfl⟩
  have f4 : ∀ e x y, e ≠ 1170 → M4 e x y = M e x y := fun e x y z => by rw [← hM4, qcp1_ap, if_neg (by omega)]
  have v4 : ∀ x, 0 ≤ x → x < c → M4 1170 x 0 = K 2267 x 0 := fun x x0 x1 => by
    rw [← hM4, qcp1_ap, if_pos (by omega), show x - 0 + 0 = x by omega]
    exact (hb x x0 x1).1
  have f9 : ∀ e x y, ¬ (e = 1139 ∧ 15 ≤ x ∧ x ≤ 18) → M9 e x y = M4 e x y := fun e x y z => by rw [← hM9, qw_ap, if_neg (by omega), qw_ap, if_neg (by omega), qw_ap, if_neg (by omega), qw_ap, if_neg (by omega)]
  have f12 : ∀ e x y, e ≠ 1171 → M12 e x y = M9 e x y := fun e x y z => by rw [← hM12, qw_a z]
  have m15 : M12 1139 15 0 = c := by
    rw [f12 _ _ _ (by decide), ← hM9, qw_ap, if_neg (by omega), qw_ap, if_neg (by omega), qw_ap, if_neg (by omega)]
    exact qw_s
  have m16 : M12 1139 16 0 = E := by
    rw [f12 _ _ _ (by decide), ← hM9, qw_ap, if_neg (by omega), qw_ap, if_neg (by omega)]
    exact qw_s
  have m17 : M12 1139 17 0 = 1 := by
    rw [f12 _ _ _ (by decide), ← hM9, qw_ap, if_neg (by omega)]
    exact qw_s
  have m18 : M12 1139 18 0 = -1 := by
    rw [f12 _ _ _ (by decide), ← hM9]
    exact qw_s
  have v12 : ∀ x, 0 ≤ x → x < c → M12 1170 x 0 = K 2267 x 0 := fun x x0 x1 => by
    rw [f12 _ _ _ (by decide), f9 _ _ _ (by omega)]
    exact v4 x x0 x1
  have b12 : ∀ x, 0 ≤ x → x < c → 0 ≤ K 2267 x 0 ∧ K 2267 x 0 < 256 := fun x x0 x1 => by
    have z := hb x x0 x1
    rw [z.1] at z
    exact z.2
  have ri := isRight_C (M := M12) (by omega) (by omega) (fun i i0 i1 => by
    rw [m15] at i1
    rw [v12 i i0 i1]
    exact b12 i i0 i1)
  have rg : RGP M12 ↔ (c = 8 + K 2267 5 0 % 128 ∧ K 2267 (c - 1) 0 = xrF (fun k => K 2267 k 0) (c - 1).toNat) := by
    unfold RGP
    rw [m15, v12 5 (by omega) (by omega), v12 (c - 1) (by omega) (by omega), xrF_c (g := fun k => K 2267 k 0) (c - 1).toNat (fun k k0 k1 => v12 k k0 (by omega))]
  have av : aimV M12 = 256 * K 2267 3 0 + K 2267 4 0 := by
    unfold aimV
    rw [v12 3 (by omega) (by omega), v12 4 (by omega) (by omega)]
  have b3 := b12 3 (by omega) (by omega)
  have b4 := b12 4 (by omega) (by omega)
  have b5 := b12 5 (by omega) (by omega)
  obtain ⟨P, hP⟩ : ∃ P, 256 * K 2267 3 0 + K 2267 4 0 = P := ⟨_, rfl⟩
  rw [hP] at av
  obtain ⟨M17, hM17⟩ : ∃ X, qw M12 1171 1 0 (w32 (M12 1171 1 0 + 1)) = X := ⟨_, rfl⟩
  have f17 : ∀ e x y, e ≠ 1171 → M17 e x y = M12 e x y := fun e x y z => by rw [← hM17, qw_a z]
  have cC : qf_X1_takeTelegram 20000 E M = (if b01 (RGP M12) = 0 then some ((), M12) else if K 2267 5 0 < 128 then some ((), M17) else if P < 4 then some ((), M17) else if 10 ≤ P then some ((), M17) else if 0 ≤ P ∧ P < 10 then some ((), qw M17 1135 P 0 (K 2267 6 0)) else none) := by
    unfold qf_X1_takeTelegram qbnd
    rw [hc, if_pos (show 0 ≤ c ∧ 0 + c ≤ 600 by omega)]
    (try dsimp only)
    rw [hM4, f4 1139 13 0 (by decide), hc, hM9, hM12, ri]
    simp only [Option.bind_some]
    by_cases g : b01 (RGP M12) = 0
    · rw [if_pos g, if_pos g]
    · rw [if_neg g, if_neg g, hM17]
      unfold qf_X1_latestAim
      simp only [Option.bind_some]
      rw [f17 1170 3 0 (by decide), f17 1170 4 0 (by decide), f17 1170 5 0 (by decide), f17 1170 6 0 (by decide), v12 3 (by omega) (by omega), v12 4 (by omega) (by omega), v12 5 (by omega) (by omega), v12 6 (by omega) (by omega), w32_id (x := K 2267 3 0 * 256) (by omega) (by omega), w32_id (x := K 2267 3 0 * 256 + K 2267 4 0) (by omega) (by omega), show K 2267 3 0 * 256 + K 2267 4 0 = P by omega]
  -- the reference
  have y17 : Y 2252 17 0 = c := (fY _ _ _ (by omega)).trans hk
  obtain ⟨K2, hK2⟩ : ∃ X, qw Y 2252 21 0 c = X := ⟨_, rfl⟩
  have k268 : ∀ x, 0 ≤ x → x < c → K2 2268 x 0 = K 2267 x 0 := fun x x0 x1 => by
    rw [← hK2, qw_a (by decide)]
    exact hY x x0 x1
  have fK2 : ∀ e x y, ¬ (e = 2252 ∧ x = 21) → ¬ (e = 2268) → K2 e x y = K e x y := fun e x y z1 z2 => by rw [← hK2, qw_ap, if_neg (by omega)]; exact fY _ _ _ (by omega)
  have k221 : K2 2252 21 0 = c := by rw [← hK2]; exact qw_s
  have xz : xrF (fun k => K 2267 k 0) c.toNat = 0 ↔ K 2267 (c - 1) 0 = xrF (fun k => K 2267 k 0) (c - 1).toNat := by
    have e : xrF (fun k => K 2267 k 0) c.toNat = bX (xrF (fun k => K 2267 k 0) (c - 1).toNat) (K 2267 (c - 1) 0) := by
      rw [show c.toNat = (c - 1).toNat + 1 by omega]
      show bX (xrF (fun k => K 2267 k 0) (c - 1).toNat) (K 2267 (((c - 1).toNat : Nat) : Int) 0) = _
      rw [show (((c - 1).toNat : Nat) : Int) = c - 1 by omega]
    have xr := xrF_r (f := fun k => K 2267 k 0) (c - 1).toNat
    have bl := b12 (c - 1) (by omega) (by omega)
    rw [e, bX_z xr.1 xr.2 (by omega) (by omega)]
    exact eq_comm
  have cK : cmK K = (if b01 (RGP M12) = 0 then qf_X12_hear_J115 20000 0 K2 else qf_X12_hear_J115 20000 1 K2) := by
    unfold cmK qf_X12_hear_J114 qbnd
    rw [if_neg (show ¬ K 2252 17 0 < 8 by omega), if_pos bad0, eY]
    simp only [Option.bind_some]
    rw [y17, hK2, k221, k268 5 (by omega) (by omega), tm_e b5.1, w32_id (x := K 2267 5 0 % 128 + 8) (by omega) (by omega)]
    by_cases g1 : xrF (fun k => K 2267 k 0) c.toNat = 0
    · rw [if_pos g1]
      by_cases g2 : c = K 2267 5 0 % 128 + 8
      · rw [if_pos g2, b01_t (rg.mpr ⟨by omega, xz.mp g1⟩), if_neg (by decide)]
      · rw [if_neg g2, b01_f (fun z => g2 (by have := (rg.mp z).1; omega)), if_pos rfl]
    · rw [if_neg g1, b01_f (fun z => g1 (xz.mpr (rg.mp z).2)), if_pos rfl]
  have hd12 : HDR M12 (qw K2 2269 0 0 (w32 (K2 2269 0 0 + 1))) := by
    have hd2 : HDR M9 K2 := fun i i0 i1 => by
      rw [fK2 _ _ _ (by omega) (by decide), f9 _ _ _ (by omega), f4 _ _ _ (by decide)]
      exact hd i i0 i1
    rw [← hM12]
    exact hdr_1 hd2 (by decide) (by decide)
  -- the reference's last steps
  have fin : ∀ ρ : Int, ρ = 0 ∨ ρ = 1 → ∃ K', qf_X12_hear_J115 20000 ρ K2 = stK K' ∧ K' 2252 23 0 = ρ ∧ K' 2252 24 0 = E ∧ K' 2252 26 0 = -1 ∧ K' 2252 25 0 = 0 ∧ K' 2252 21 0 = c ∧ (∀ x, 0 ≤ x → x < c → K' 2268 x 0 = K 2267 x 0) ∧ (∀ e x y, e ≠ 2268 → e ≠ 2269 → ¬ (e = 2252 ∧ 21 ≤ x ∧ x ≤ 26) → K' e x y = K e x y) ∧ K' 2269 0 0 = w32 (K2 2269 0 0 + 1) ∧ K' 2269 1 0 = K 2269 1 0 + ρ ∧ ∀ x, 2 ≤ x → K' 2269 x 0 = K2 2269 x 0 := fun ρ hρ => by
    obtain ⟨K7, hK7⟩ : ∃ X, qw (qw (qw (qw K2 2252 23 0 ρ) 2252 24 0 E) 2252 26 0 (-1)) 2252 25 0 0 = X := ⟨_, rfl⟩
    have f7 : ∀ e x y, ¬ (e = 2252 ∧ 23 ≤ x ∧ x ≤ 26) → K7 e x y = K2 e x y := fun e x y z => by rw [← hK7, qw_ap, if_neg (by omega), qw_ap, if_neg (by omega), qw_ap, if_neg (by omega), qw_ap, if_neg (by omega)]
    obtain ⟨K8, hK8⟩ : ∃ X, qw K7 2269 0 0 (w32 (K7 2269 0 0 + 1)) = X := ⟨_, rfl⟩
    have k81 : K8 2269 1 0 = K 2269 1 0 := by
      rw [← hK8, qw_i (by decide), f7 _ _ _ (by omega)]
      exact fK2 _ _ _ (by omega) (by decide)
    have k823 : K8 2252 23 0 = ρ := by
      rw [← hK8, qw_a (by decide), ← hK7, qw_ap, if_neg (by omega), qw_ap, if_neg (by omega), qw_ap, if_neg (by omega)]
      exact qw_s
    have g8 : ∀ e x y, e ≠ 2269 → ¬ (e = 2252 ∧ 23 ≤ x ∧ x ≤ 26) → K8 e x y = K2 e x y := fun e x y z1 z2 => by rw [← hK8, qw_a z1]; exact f7 e x y z2
    refine ⟨qw K8 2269 1 0 (w32 (K 2269 1 0 + ρ)), ?_, (qw_a (by decide)).trans k823, ?_, ?_, ?_, ?_, fun x x0 x1 => ?_, fun e x y z1 z2 z3 => ?_, ?_, ?_, fun x x0 => ?_⟩
    · unfold qf_X12_hear_J115 qf_X12_hear_J165 qbnd stK
      rw [if_pos hρ]
      (try dsimp only)
      rw [show qw K2 2252 23 0 ρ 2252 20 0 = E by
        rw [qw_ap, if_neg (by omega), fK2 _ _ _ (by omega) (by decide)]
        exact he, hK7, hK8, k823, k81]
      rcases hρ with g | g
      · rw [if_pos g, g, if_pos (show 0 ≤ (1 : Int) ∧ (1 : Int) < 5 by decide)]
      · rw [if_neg (show ¬ ρ = 0 by omega), g, if_pos (show 0 ≤ (1 : Int) ∧ (1 : Int) < 5 by decide)]
    · rw [qw_a (by decide), ← hK8, qw_a (by decide), ← hK7, qw_ap, if_neg (by omega), qw_ap, if_neg (by omega)]
      exact qw_s
    · rw [qw_a (by decide), ← hK8, qw_a (by decide), ← hK7, qw_ap, if_neg (by omega)]
      exact qw_s
    · rw [qw_a (by decide), ← hK8, qw_a (by decide), ← hK7]
      exact qw_s
    · rw [qw_a (by decide), g8 _ _ _ (by decide) (by omega)]
      exact k221
    · rw [qw_a (by decide), g8 _ _ _ (by decide) (by omega)]
      exact k268 x x0 x1
    · rw [qw_a z2, g8 _ _ _ z2 (by omega)]
      exact fK2 _ _ _ (by omega) z1
    · rw [qw_i (by decide), ← hK8, f7 _ _ _ (by omega)]
      exact qw_s
    · rw [w32_id (x := K 2269 1 0 + ρ) (by omega) (by omega)]
      exact qw_s
    · rw [qw_i (by omega), ← hK8, qw_i (by omega)]
      exact f7 _ _ _ (by omega)
  -- what holds behind
  have ltt : ∀ Zm Zk : qm, (∀ e x y, e ≠ 1171 → e ≠ 1135 → Zm e x y = M12 e x y) → ∀ ρ, ρ = b01 (RGP M12) → Zk 2252 23 0 = ρ → Zk 2252 24 0 = E → Zk 2252 26 0 = -1 → Zk 2252 25 0 = 0 → Zk 2252 21 0 = c → (∀ x, 0 ≤ x → x < c → Zk 2268 x 0 = K 2267 x 0) → LTT Zm Zk t := fun Zm Zk fm ρ hρ z23 z24 z26 z25 z21 z68 => by
    have rz : RGP Zm ↔ RGP M12 := by
      unfold RGP
      rw [fm 1139 15 0 (by decide) (by decide), fm 1170 5 0 (by decide) (by decide), fm 1170 _ 0 (by decide) (by decide), show (fun k => Zm 1170 k 0) = (fun k => M12 1170 k 0) from funext (fun k => fm _ _ _ (by decide) (by decide))]
    unfold LTT
    rw [fm 1139 15 0 (by decide) (by decide), fm 1139 16 0 (by decide) (by decide), fm 1139 17 0 (by decide) (by decide), fm 1139 18 0 (by decide) (by decide), m15, m16, m17, m18]
    refine ⟨⟨by omega, c1⟩, z21, z26, fun i i0 i1 => ?_, Or.inr ⟨z24, e0, e1, c0, Or.inl ⟨rfl, z25⟩, ?_⟩⟩
    · rw [fm 1170 i 0 (by decide) (by decide), v12 i i0 i1]
      exact ⟨z68 i i0 i1, b12 i i0 i1⟩
    · rw [z23, hρ]
      by_cases g : RGP M12
      · rw [b01_t g, b01_t (rz.mpr g)]
      · rw [b01_f g, b01_f (fun z => g (rz.mp z))]
  have cmf : ∀ e x y, e ≠ 1170 → e ≠ 1171 → ¬ (e = 1139 ∧ 15 ≤ x ∧ x ≤ 18) → M12 e x y = M e x y := fun e x y z1 z2 z3 => ((f12 e x y z2).trans (f9 e x y z3)).trans (f4 e x y z1)
  have c12 : ∀ x, 0 ≤ x → x < 5 → M12 1171 x 0 = (if x = 0 then w32 (K2 2269 0 0 + 1) else K2 2269 x 0) := fun x x0 x1 => by
    have z := hd12 x x0 x1
    rw [← z]
    by_cases e : x = 0
    · rw [if_pos e, e]
      exact qw_s
    · rw [if_neg e]
      exact qw_i e
  by_cases g : RGP M12
  · rw [b01_t g, if_neg (by decide)] at cC cK
    obtain ⟨K', k1, k2, k3, k4, k5, k6, k7, k8, k9, k10, k11⟩ := fin 1 (Or.inr rfl)
    have h17 : ∀ Z : qm, (∀ x, Z 1171 x 0 = M17 1171 x 0) → HDR Z K' := fun Z hZ i i0 i1 => by
      rw [hZ]
      have k12 : K2 2269 1 0 = K 2269 1 0 := fK2 _ _ _ (by omega) (by decide)
      by_cases e1 : i = 1
      · rw [e1, k10, ← hM17]
        refine Eq.symm (Eq.trans qw_s ?_)
        rw [c12 1 (by decide) (by decide), if_neg (by decide), k12, w32_id (by omega) (by omega)]
      · rw [← hM17, qw_i e1, c12 i i0 i1]
        by_cases e0 : i = 0
        · rw [if_pos e0, e0, k9]
        · rw [if_neg e0, k11 i (by omega)]
    have k83 := k7 3 (by omega) (by omega)
    have k84 := k7 4 (by omega) (by omega)
    have k85 := k7 5 (by omega) (by omega)
    have k86 := k7 6 (by omega) (by omega)
    have up : K' 2269 1 0 = w32 (K 2269 1 0 + 1) := by rw [k10, w32_id (by omega) (by omega)]
    have b6 := b12 6 (by omega) (by omega)
    have bnd : 0 ≤ K' 2268 3 0 ∧ K' 2268 3 0 < 256 ∧ 0 ≤ K' 2268 4 0 ∧ K' 2268 4 0 < 256 ∧ 0 ≤ K' 2268 6 0 ∧ K' 2268 6 0 < 256 := by
      rw [k83, k84, k86]
      exact ⟨b3.1, b3.2, b4.1, b4.2, b6.1, b6.2⟩
    have noset : qf_X1_takeTelegram 20000 E M = some ((), M17) → ¬ (128 ≤ K 2267 5 0 ∧ 4 ≤ P ∧ P < 10) → ∃ M' K', qf_X1_takeTelegram 20000 E M = some ((), M') ∧ cmK K = stK K' ∧ LTT M' K' t ∧ HDR M' K' ∧ PCH M K M' K' ∧ CMF M M' K K' ∧ K' 2252 24 0 = E := fun ec nn => ⟨M17, K', ec, cK.trans k1, ltt _ _ (fun e x y z1 _ => f17 e x y z1) 1 (b01_t g).symm k2 k3 k4 k5 k6 k7, h17 M17 (fun _ => rfl), Or.inr ⟨up, bnd, Or.inr ⟨by rw [k83, k84, k85, hP]; exact nn, fun x => (f17 _ _ _ (by decide)).trans (cmf _ _ _ (by decide) (by decide) (by omega))⟩⟩, ⟨fun e x y z1 z2 z3 z4 => (f17 e x y z2).trans (cmf e x y z1 z2 z4), k8⟩, k3⟩
    by_cases g1 : K 2267 5 0 < 128
    · rw [if_pos g1] at cC
      exact noset cC (by omega)
    · rw [if_neg g1] at cC
      by_cases g2 : P < 4
      · rw [if_pos g2] at cC
        exact noset cC (by omega)
      · rw [if_neg g2] at cC
        by_cases g3 : 10 ≤ P
        · rw [if_pos g3] at cC
          exact noset cC (by omega)
        · rw [if_neg g3, if_pos (show 0 ≤ P ∧ P < 10 by omega)] at cC
          refine ⟨_, K', cC, cK.trans k1, ltt _ _ (fun e x y z1 z2 => (qw_a z2).trans (f17 e x y z1)) 1 (b01_t g).symm k2 k3 k4 k5 k6 k7, h17 _ (fun x => qw_a (by decide)), Or.inr ⟨up, bnd, Or.inl ?_⟩, ⟨fun e x y z1 z2 z3 z4 => (qw_a z3).trans ((f17 e x y z2).trans (cmf e x y z1 z2 z4)), k8⟩, k3⟩
          rw [k83, k84, k85, k86, hP]
          exact ⟨by omega, by omega, by omega, qw_s, fun x z => (qw_i z).trans ((f17 _ _ _ (by decide)).trans (cmf _ _ _ (by decide) (by decide) (by omega)))⟩
  · rw [b01_f g, if_pos rfl] at cC cK
    obtain ⟨K', k1, k2, k3, k4, k5, k6, k7, k8, k9, k10, k11⟩ := fin 0 (Or.inl rfl)
    have k12 : K2 2269 1 0 = K 2269 1 0 := fK2 _ _ _ (by omega) (by decide)
    refine ⟨M12, K', cC, cK.trans k1, ltt _ _ (fun _ _ _ _ _ => rfl) 0 (b01_f g).symm k2 k3 k4 k5 k6 k7, fun i i0 i1 => ?_, Or.inl ⟨by rw [k10]; omega, fun x => cmf _ _ _ (by decide) (by decide) (by omega)⟩, ⟨fun e x y z1 z2 z3 z4 => cmf e x y z1 z2 z4, k8⟩, k3⟩
    rw [c12 i i0 i1]
    by_cases e0 : i = 0
    · rw [if_pos e0, e0, k9]
    · rw [if_neg e0]
      by_cases e1 : i = 1
      · rw [e1, k10, k12]
        omega
      · rw [k11 i (by omega)]
/-- what is heard is complete -/
theorem compl_both (t2 : t ≤ 180000) (hl : LTT M K (t - 1)) (hd : HDR M K) (hc : M 1139 13 0 = K 2252 17 0) (c0 : 1 ≤ K 2252 17 0) (c1 : K 2252 17 0 ≤ 600) (hbad : M 1139 11 0 = K 2252 19 0) (hb : ∀ i, 0 ≤ i → i < K 2252 17 0 → M 1169 i 0 = K 2267 i 0 ∧ 0 ≤ M 1169 i 0 ∧ M 1169 i 0 < 256) (e0 : 1 ≤ E) (e1 : E ≤ t) (he : K 2252 20 0 = E) (h1 : 0 ≤ K 2269 1 0) (h2 : K 2269 1 0 ≤ 200000) (hB : E = K 2252 16 0 + 13 * (K 2252 17 0 - 1) + 10) (hE : w32 (M 1139 5 0 - w32 (w32 (M 1139 9 0 - 11) + 1)) = E) : ∃ M' K', qf_X1_complete 20000 M = some ((), M') ∧ cmK K = stK K' ∧ LTT M' K' t ∧ HDR M' K' ∧ PCH M K M' K' ∧ CMF M M' K K' ∧ (K' 2252 24 0 = K 2252 24 0 ∨ (K' 2252 24 0 = E ∧ 8 ≤ K 2252 17 0)) := by
  have oth : qf_X1_complete 20000 M = qf_X1_complete_J37 20000 E M → cmK K = qf_X12_hear_J170 20000 K → ∃ M' K', qf_X1_complete 20000 M = some ((), M') ∧ cmK K = stK K' ∧ LTT M' K' t ∧ HDR M' K' ∧ PCH M K M' K' ∧ CMF M M' K K' ∧ (K' 2252 24 0 = K 2252 24 0 ∨ (K' 2252 24 0 = E ∧ 8 ≤ K 2252 17 0)) := fun x1 x2 => by
    obtain ⟨M', K', a1, a2, a3, a4, a5, a6, a7⟩ := oth_both (E := E) t2 hl hd hc hbad (hb 0 (by omega) (by omega)).1 e0 (by omega) (fun z => by omega)
    exact ⟨M', K', x1.trans a1, x2.trans a2, a3, a4, a5, a6, Or.inl a7⟩
  by_cases g1 : K 2252 17 0 < 8
  · refine oth ?_ ?_
    · unfold qf_X1_complete
      rw [if_pos (by rw [hc]; exact g1), hE]
    · unfold cmK
      rw [if_pos g1]
  · by_cases g2 : K 2252 19 0 = 0
    · obtain ⟨M', K', a1, a2, a3, a4, a5, a6, a7⟩ := tel_both (E := E) (c := K 2252 17 0) t2 hl hd hc rfl (by omega) c1 hb e0 e1 he h1 h2 g2
      refine ⟨M', K', ?_, a2, a3, a4, a5, a6, Or.inr ⟨a7, by omega⟩⟩
      unfold qf_X1_complete
      rw [if_neg (by rw [hc]; exact g1), if_pos (by rw [hbad]; exact g2), hE, a1]
      rfl
    · refine oth ?_ ?_
      · unfold qf_X1_complete
        rw [if_neg (by rw [hc]; exact g1), if_neg (by rw [hbad]; exact g2), hE]
      · unfold cmK
        rw [if_neg g1, if_neg g2]
end BUk
