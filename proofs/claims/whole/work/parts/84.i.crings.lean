section CI
variable {M K A B C E G : qm} {n m p k v z l x y w c r i j a b s t L R N : Int} {stt cnt : Int → Int}
/-- the class behind its spaces -/
def CBS (M A B : qm) (n : Int) : Prop := (∀ i j, B 52 i j = A 52 i j) ∧ (∀ x y, 0 ≤ x → x ≤ 24 → 0 ≤ y → y ≤ 24 → (B 55 (25 * x + y) 0) = b01 (PT M A n x y)) ∧ CMP A (oF B) (-1) ∧ (∀ v, 0 ≤ v → v < 576 → -1 ≤ oF B v ∧ oF B v < 100)
theorem lfs_b (h : CBS M A B n) : -1 ≤ lfs B G s ∧ lfs B G s < 100 := by
  unfold lfs lfo ext
  split
  · exact h.2.2.2 _ (by omega) (by omega)
  · decide
/-- it stays along a ring -/
theorem lfs_next (h_lines : R_lines M K) (h_ends : R_ends M K) (h_alone : R_alone M K) (hA : WAL M A (M 7 0 0)) (hK : PFL M K E) (hF : FPI M E G m p) (hB : CBS M A B (M 7 0 0)) (s0 : 0 ≤ s) (s1 : s < 2 * p) : lfs B G (nxs A G p s) = lfs B G s := by
  have os := side_ok h_lines h_ends h_alone hA hK hF s0 s1
  have ns := nxs_s h_lines h_ends h_alone hA hK hF s0 s1
  have es := side_end h_lines h_ends h_alone hA os
  have w0 := os.2.2.2.2.2.2.2.2.1
  have w1 := os.2.2.2.2.2.2.2.2.2.1
  have lp := lfo_p h_ends h_alone hA hB.2.2.1 w0 w1 os.1 (by rw [os.2.1]; have := os.2.2.1; omega)
  unfold lfs
  rw [ns.2.2.1, ns.2.2.2.1, ns.2.2.2.2, lfo_t hB.2.2.1 es.2.1 es.2.2.1 es.2.2.2.1 es.2.2.2.2.1 w0 w1]
  exact lp.2
theorem lfs_ring (h_lines : R_lines M K) (h_ends : R_ends M K) (h_alone : R_alone M K) (hA : WAL M A (M 7 0 0)) (hK : PFL M K E) (hF : FPI M E G m p) (hB : CBS M A B (M 7 0 0)) (s0 : 0 ≤ s) (s1 : s < 2 * p) (j0 : 0 ≤ j) : lfs B G (stI (nxs A G p) s j) = lfs B G s := by
  have hv := nxs_v h_lines h_ends h_alone hA hK hF
  have key : ∀ k : Nat, lfs B G (stI (nxs A G p) s k) = lfs B G s := by
    intro k
    induction k with
    | zero => rfl
    | succ k ih =>
      have v := stI_v hv s0 s1 k (by omega)
      rw [show ((k + 1 : Nat) : Int) = (k : Int) + 1 by omega, stI_s (by omega), lfs_next h_lines h_ends h_alone hA hK hF hB v.1 v.2]
      exact ih
  have q := key j.toNat
  rw [show ((j.toNat : Nat) : Int) = j by omega] at q
  exact q
theorem CFR_oF (h : CFR B C) : oF C = oF B := by
  funext v
  exact h _ v 0 (by decide) (by decide) (by decide) (by decide) (by omega)
theorem SDR_o {D : qm} (h : SDR B G C c s) (ho : ∀ j, D 283 c j = C 283 c j) : SDR B G D c s := by
  unfold SDR
  rw [ho, ho, ho, ho, ho, ho]
  exact h
theorem cring_1 (h_lines : R_lines M K) (h_ends : R_ends M K) (h_alone : R_alone M K) (hA : WAL M A (M 7 0 0)) (hK : PFL M K E) (hF : FPI M E G m p) (hB : CBS M A B (M 7 0 0)) (h : CRI A B G C p R stt cnt) (s0 : 0 ≤ s) (s1 : s < 2 * p) (hc : ¬ cov (nxs A G p) stt cnt R s) (hk : ∀ t, 0 ≤ t → t < 2 * p → skey G t < skey G s → cov (nxs A G p) stt cnt R t) : ∃ n D, 1 ≤ n ∧ qf_X2_traceRing 20000 (25 * sX G s + sY G s) (sW G s) C = some ((), D) ∧ CRI A B G D p (R + 1) (updI stt R s) (updI cnt R n) ∧ (∀ t, cov (nxs A G p) (updI stt R s) (updI cnt R n) (R + 1) t ↔ (cov (nxs A G p) stt cnt R t ∨ ∃ j, 0 ≤ j ∧ j < n ∧ stI (nxs A G p) s j = t)) := by
  obtain ⟨h1, h2, h3, h4, h5, h6, h7, h8, h9⟩ := h
  have hv := nxs_v h_lines h_ends h_alone hA hK hF
  have room := rng_room h_lines h_ends h_alone hA hK hF h9 h2
  have p5 := hF.2.2.2.2.2.2.2.1
  obtain ⟨n, n0, n1, n2, n3⟩ := walk_n (N := 2 * p) (st := fun j => stI (nxs A G p) s j) (R := fun t => cov (nxs A G p) stt cnt R t) (by omega) (fun j j0 => stI_v hv s0 s1 j j0)
  have hw : wlk (nxs A G p) stt cnt R s n := ⟨n2, n3⟩
  have add := rng_add h9 n0 h2 s0 s1 hc hk hw
  have np : 1 ≤ n := by
    have := (add.1 R h9 (by omega)).2.2.1
    rw [updI_s] at this
    exact this
  rw [← room.1] at n1
  have room2 := rng_room h_lines h_ends h_alone hA hK hF (R := R + 1) (by omega) add.1
  have os := side_ok h_lines h_ends h_alone hA hK hF s0 s1
  have x0 := os.2.2.2.2.1
  have x1 := os.2.2.2.2.2.1
  have y0 := os.2.2.2.2.2.2.1
  have y1 := os.2.2.2.2.2.2.2.1
  have cn : sI (updI cnt R n) R = sI cnt R := sI_c (fun r r0 r1 => updI_o (by omega))
  have snn : ∀ f : Int → Int, ∀ k, 0 ≤ k → (∀ j, 0 ≤ j → j < k → 0 ≤ f j ∧ f j ≤ 24) → 0 ≤ sI f k ∧ sI f k ≤ 24 * k := by
    intro f k k0 hf
    refine ⟨sI_n (fun j a b => (hf j a b).1), ?_⟩
    have q := sI_le (f := f) (g := fun _ => 24) (n := k) (fun j a b => (hf j a b).2)
    rw [sI_const] at q
    omega
  have sN24 : ∀ u, 0 ≤ u → u < 2 * p → 0 ≤ sN G u ∧ sN G u ≤ 24 := fun u u0 u1 => by
    have o := side_ok h_lines h_ends h_alone hA hK hF u0 u1
    have a1 := o.1.1
    have a2 := o.1.2.1
    omega
  have stv := fun j (j0 : 0 ≤ j) => stI_v hv s0 s1 j j0
  have lenb := fun k (k0 : 0 ≤ k) => snn (fun j => sN G (stI (nxs A G p) s j)) k k0 (fun j a _ => sN24 _ (stv j a).1 (stv j a).2)
  have ell := lfs_b (G := G) (s := s) hB
  have oC := CFR_oF h1
  have el := leftOf_e (C := C) x0 x1 y0 y1 os.2.2.2.2.2.2.2.2.1 os.2.2.2.2.2.2.2.2.2.1
  rw [oC] at el
  have tX : Int.tdiv (25 * sX G s + sY G s) 25 = sX G s := by
    rw [Int.tdiv_eq_ediv_of_nonneg (by omega)]
    omega
  have tY : Int.tmod (25 * sX G s + sY G s) 25 = sY G s := by
    rw [Int.tmod_eq_emod_of_nonneg (by omega)]
    omega
  have main : qW (qf_X2_traceRing 20000 (25 * sX G s + sY G s) (sW G s) C) (fun r => CRI A B G r.2 p (R + 1) (updI stt R s) (updI cnt R n)) := by
    unfold qf_X2_traceRing
    rw [tX, tY]
    refine qW_eq el ?_
    (try dsimp only)
    rw [h8]
    refine qW_call (Q := fun o => ∃ D, o = .inr (sI (fun j => sN G (stI (nxs A G p) s j)) n, D) ∧ CFR B D ∧ (∀ t, 0 ≤ t → t < 2 * p → (D 724 (skey G t) 0) = b01 (cov (nxs A G p) stt cnt R t ∨ ∃ i, 0 ≤ i ∧ i < n ∧ stI (nxs A G p) s i = t)) ∧ (∀ i j, i < sI cnt R → D 283 i j = C 283 i j) ∧ (∀ i, 0 ≤ i → i < n → SDR B G D (sI cnt R + i) (stI (nxs A G p) s i)) ∧ (D 51 14 0) = sI cnt R + n ∧ (∀ i j, D 62 i j = C 62 i j) ∧ (∀ i j, D 61 i j = C 61 i j) ∧ (D 51 12 0) = R) ?_ ?_
    · unfold qf_X2_traceRing_L37
      refine qW_for n (fun k u => ∃ D, u = (sX G (stI (nxs A G p) s k), sY G (stI (nxs A G p) s k), sW G (stI (nxs A G p) s k), lfs B G s, sI cnt R, sI (fun j => sN G (stI (nxs A G p) s j)) k, k, D) ∧ CFR B D ∧ (∀ t, 0 ≤ t → t < 2 * p → (D 724 (skey G t) 0) = b01 (cov (nxs A G p) stt cnt R t ∨ ∃ i, 0 ≤ i ∧ i < k ∧ stI (nxs A G p) s i = t)) ∧ (∀ i j, i < sI cnt R → D 283 i j = C 283 i j) ∧ (∀ i, 0 ≤ i → i < k → SDR B G D (sI cnt R + i) (stI (nxs A G p) s i)) ∧ (D 51 14 0) = sI cnt R + k ∧ (∀ i j, D 62 i j = C 62 i j) ∧ (∀ i j, D 61 i j = C 61 i j) ∧ (D 51 12 0) = R) ?_ ?_ ?_ n0 (by omega)
      · rintro k _ k0 k1 ⟨D, rfl, d1, d2, d3, d4, d5, d6, d7, d8⟩
        have vk := stv k k0
        have lb := lenb k k0
        have lb2 := lenb (k + 1) (by omega)
        rw [sI_s (f := fun j => sN G (stI (nxs A G p) s j)) k0] at lb2
        (try dsimp only at lb2)
        have ok := side_ok h_lines h_ends h_alone hA hK hF vk.1 vk.2
        have nk := nxs_s h_lines h_ends h_alone hA hK hF vk.1 vk.2
        have ek := side_end h_lines h_ends h_alone hA ok
        have key0 : skey G (stI (nxs A G p) s k) = 4 * (25 * sX G (stI (nxs A G p) s k) + sY G (stI (nxs A G p) s k)) + sW G (stI (nxs A G p) s k) := rfl
        have nots := n2 k k0 k1
        have gone0 : (D 724 (skey G (stI (nxs A G p) s k)) 0) = 0 := by
          rw [d2 _ vk.1 vk.2]
          exact b01_f nots
        rw [stI_s (nx := nxs A G p) (s := s) k0]
        obtain ⟨u, hu⟩ : ∃ u, stI (nxs A G p) s k = u := ⟨_, rfl⟩
        rw [hu] at vk ok nk ek key0 nots gone0 lb2 ⊢
        obtain ⟨PC, wL, l0, l1, a0, a1, b0, b1, w0, w1, tx, ty, _⟩ := ok
        have hN := sN24 u vk.1 vk.2
        have kw : w32 (w32 (4 * w32 (w32 (sX G u * 25) + sY G u)) + sW G u) = skey G u := by
          rw [w32_id (x := sX G u * 25) (by omega) (by omega), w32_id (x := sX G u * 25 + sY G u) (by omega) (by omega), w32_id (x := 4 * (sX G u * 25 + sY G u)) (by omega) (by omega), w32_id (by omega) (by omega)]
          omega
        have kr : 0 ≤ skey G u ∧ skey G u < 2500 := by omega
        unfold qf_X2_traceRing_L37_b
        (try dsimp only)
        rw [kw, if_neg (by omega), if_pos kr, if_pos gone0, if_pos kr]
        refine qW_bnd ?_
        have dw : ∀ i j, qw D 724 (skey G u) 0 1 52 i j = A 52 i j := fun i j => by
          rw [qw_a (by decide), d1 _ _ _ (by decide) (by decide) (by decide) (by decide) (by omega)]
          exact hB.1 i j
        have dp : ∀ x y, 0 ≤ x → x ≤ 24 → 0 ≤ y → y ≤ 24 → qw D 724 (skey G u) 0 1 55 (25 * x + y) 0 = b01 (PT M A (M 7 0 0) x y) := fun x y c1 c2 c3 c4 => by
          rw [qw_a (by decide), d1 _ _ _ (by decide) (by decide) (by decide) (by decide) (by omega)]
          exact hB.2.1 x y c1 c2 c3 c4
        have ep := pieceLength_e dw dp w0 w1 PC (by rw [wL]; omega)
        refine qW_eq ep ?_
        (try dsimp only)
        have rE := PC.2.2.1 (sN G u) (by omega) (Int.le_refl _)
        have hcc : qw D 724 (skey G u) 0 1 51 14 0 = sI cnt R + k := (qw_a (by decide)).trans d5
        have pos : 0 ≤ sI cnt R := by
          rw [room.1]
          exact sI_n (fun _ _ _ => b01_b.1)
        obtain ⟨D2, eD, g1, g2, g3, g4, g5, g6, g7, g8, g9⟩ := noteSide_e dw hcc (by omega) (by omega) a0 a1 b0 b1 w0 w1 ⟨rE.1, rE.2.1⟩ ⟨rE.2.2.1, rE.2.2.2⟩ ⟨PC.1, PC.2.1⟩
        refine qW_eq eD ?_
        (try dsimp only)
        have cw : 0 ≤ sW G u ∧ sW G u < 4 := by omega
        have gX := qT2_g (x := sX G u) (j := sN G u) w0 w1
        have gY := qT3_g (y := sY G u) (j := sN G u) w0 w1
        have c4 : sW G u = 0 ∨ sW G u = 1 ∨ sW G u = 2 ∨ sW G u = 3 := by omega
        have t2 : w32 (sN G u * qT2 (sW G u)) = sN G u * qT2 (sW G u) := by
          rcases c4 with z | z | z | z <;> rw [z]
          · show w32 (sN G u * 1) = sN G u * 1
            exact w32_id (by omega) (by omega)
          · show w32 (sN G u * 0) = sN G u * 0
            exact w32_id (by omega) (by omega)
          · show w32 (sN G u * -1) = sN G u * -1
            exact w32_id (by omega) (by omega)
          · show w32 (sN G u * 0) = sN G u * 0
            exact w32_id (by omega) (by omega)
        have t3 : w32 (sN G u * qT3 (sW G u)) = sN G u * qT3 (sW G u) := by
          rcases c4 with z | z | z | z <;> rw [z]
          · show w32 (sN G u * 0) = sN G u * 0
            exact w32_id (by omega) (by omega)
          · show w32 (sN G u * 1) = sN G u * 1
            exact w32_id (by omega) (by omega)
          · show w32 (sN G u * 0) = sN G u * 0
            exact w32_id (by omega) (by omega)
          · show w32 (sN G u * -1) = sN G u * -1
            exact w32_id (by omega) (by omega)
        have D2w : ∀ i j, D2 52 i j = A 52 i j := fun i j => (g1 _ i j (by decide) (by omega)).trans (dw i j)
        have et := turnAt_e D2w rE.1 rE.2.1 rE.2.2.1 rE.2.2.2 w0 w1 ek.1
        rw [if_pos cw, if_pos cw, t2, t3, gX, gY, w32_id (x := gx (sW G u) (sX G u) (sN G u)) (by omega) (by omega), w32_id (x := gy (sW G u) (sY G u) (sN G u)) (by omega) (by omega), w32_id (x := k + 1) (by omega) (by omega), w32_id (x := sI (fun j => sN G (stI (nxs A G p) s j)) k + sN G u) (by omega) (by omega)]
        refine qW_eq et ?_
        (try dsimp only)
        have fr2 : CFR B D2 := fun b i j b1 b2 b3 b4 b5 => by
          rw [g1 b i j b3 (by omega), qw_a b1]
          exact d1 b i j b1 b2 b3 b4 b5
        refine qW_some ⟨D2, ?_, fr2, fun t t0 t1 => ?_, fun i j hi => ?_, fun i i0 i1 => ?_, by omega, fun i j => ?_, fun i j => ?_, ?_⟩
        · rw [← nk.2.2.2.2, ← nk.2.2.1, ← nk.2.2.2.1, sI_s (f := fun j => sN G (stI (nxs A G p) s j)) k0]
          (try dsimp only)
          rw [hu]
        · rw [g1 _ _ _ (by decide) (by omega)]
          have e1 : qw D 724 (skey G u) 0 1 724 (skey G t) 0 = if skey G t = skey G u then 1 else (D 724 (skey G t) 0) := by
            simp only [qw_ap, false_and, true_and, and_true, and_false, and_self, if_false, if_true, reduceIte, Nat.reduceEqDiff, Int.reduceEq]
          rw [e1]
          by_cases g : t = u
          · rw [if_pos (by rw [g]), b01_t (Or.inr ⟨k, k0, by omega, by rw [hu]; exact g.symm⟩)]
          · rw [if_neg (fun z => g (skey_inj h_lines h_ends h_alone hA hK hF t u t0 t1 vk.1 vk.2 z)), d2 t t0 t1]
            refine b01_c ⟨fun z => ?_, fun z => ?_⟩
            · rcases z with z | ⟨i, i0, i1, i2⟩
              · exact Or.inl z
              · exact Or.inr ⟨i, i0, by omega, i2⟩
            · rcases z with z | ⟨i, i0, i1, i2⟩
              · exact Or.inl z
              · by_cases gi : i = k
                · rw [gi, hu] at i2
                  exact absurd i2.symm g
                · exact Or.inr ⟨i, i0, by omega, i2⟩
        · rw [g2 i j (by omega), qw_a (by decide)]
          exact d3 i j hi
        · by_cases gi : i = k
          · rw [gi, hu]
            refine ⟨g4.trans wL, g5, g6, g7, g8, ?_⟩
            rw [g9]
            have : oF (qw D 724 (skey G u) 0 1) = oF B := by
              funext v
              unfold oF
              rw [qw_a (by decide)]
              exact d1 _ _ _ (by decide) (by decide) (by decide) (by decide) (by omega)
            rw [this]
          · refine SDR_o (d4 i i0 (by omega)) (fun j => ?_)
            rw [g2 _ j (by omega), qw_a (by decide)]
        · rw [g1 _ _ _ (by decide) (by omega), qw_a (by decide)]
          exact d6 i j
        · rw [g1 _ _ _ (by decide) (by omega), qw_a (by decide)]
          exact d7 i j
        · rw [g1 _ _ _ (by decide) (by omega), qw_a (by decide)]
          exact d8
      · rintro _ ⟨D, rfl, d1, d2, d3, d4, d5, d6, d7, d8⟩
        have vk := stv n n0
        have ok := side_ok h_lines h_ends h_alone hA hK hF vk.1 vk.2
        have gone1 : (D 724 (skey G (stI (nxs A G p) s n)) 0) = 1 := by
          rw [d2 _ vk.1 vk.2]
          exact b01_t n3
        obtain ⟨u, hu⟩ : ∃ u, stI (nxs A G p) s n = u := ⟨_, rfl⟩
        rw [hu] at vk ok gone1 ⊢
        obtain ⟨PC, wL, l0, l1, a0, a1, b0, b1, w0, w1, tx, ty, _⟩ := ok
        have key0 : skey G u = 4 * (25 * sX G u + sY G u) + sW G u := rfl
        have kw : w32 (w32 (4 * w32 (w32 (sX G u * 25) + sY G u)) + sW G u) = skey G u := by
          rw [w32_id (x := sX G u * 25) (by omega) (by omega), w32_id (x := sX G u * 25 + sY G u) (by omega) (by omega), w32_id (x := 4 * (sX G u * 25 + sY G u)) (by omega) (by omega), w32_id (by omega) (by omega)]
          omega
        have kr : 0 ≤ skey G u ∧ skey G u < 2500 := by omega
        unfold qf_X2_traceRing_L37_b
        (try dsimp only)
        rw [kw]
        by_cases g : 440 ≤ n
        · rw [if_pos g]
          exact qW_some ⟨D, rfl, d1, d2, d3, d4, d5, d6, d7, d8⟩
        · rw [if_neg g, if_pos kr, if_neg (by omega)]
          exact qW_some ⟨D, rfl, d1, d2, d3, d4, d5, d6, d7, d8⟩
      · refine ⟨C, rfl, h1, fun t t0 t1 => ?_, fun _ _ _ => rfl, fun i a b => by omega, by omega, fun _ _ => rfl, fun _ _ => rfl, h7⟩
        rw [h3 t t0 t1]
        refine b01_c ⟨Or.inl, fun z => ?_⟩
        rcases z with z | ⟨i, i0, i1, _⟩
        · exact z
        · omega
    · rintro _ ⟨D, rfl, d1, d2, d3, d4, d5, d6, d7, d8⟩
      (try dsimp only)
      have pos : 0 ≤ sI cnt R := by
        rw [room.1]
        exact sI_n (fun _ _ _ => b01_b.1)
      have lb := lenb n n0
      have cR : 0 ≤ R ∧ R < 220 := by
        rw [sI_s h9, updI_s, cn] at room2
        omega
      unfold qf_X2_traceRing_J155
      rw [d8, if_pos cR]
      refine qW_bnd (qW_bnd ?_)
      have e14 : qw (qw D 62 R 0 (lfo (oF B) (-1) (sX G s) (sY G s) (sW G s))) 62 R 1 (sI cnt R) 51 14 0 = sI cnt R + n := by
        rw [qw_a (by decide), qw_a (by decide)]
        exact d5
      rw [e14, show sI cnt R + n - sI cnt R = n by omega, w32_id (x := n) (by omega) (by omega)]
      refine qW_bnd ?_
      have e12 : qw (qw (qw D 62 R 0 (lfo (oF B) (-1) (sX G s) (sY G s) (sW G s))) 62 R 1 (sI cnt R)) 62 R 2 n 51 12 0 = R := by
        rw [qw_a (by decide), qw_a (by decide), qw_a (by decide)]
        exact d8
      rw [e12, w32_id (x := R + 1) (by omega) (by omega)]
      refine qW_bnd ?_
      obtain ⟨V, hV⟩ : ∃ V, lfo (oF B) (-1) (sX G s) (sY G s) (sW G s) = V := ⟨_, rfl⟩
      have hVl : lfs B G s = V := hV
      rw [hV]
      obtain ⟨F, hFd⟩ : ∃ F, qw (qw (qw (qw D 62 R 0 V) 62 R 1 (sI cnt R)) 62 R 2 n) 51 12 0 (R + 1) = F := ⟨_, rfl⟩
      have f0 : ∀ b i j, b ≠ 62 → ¬ (b = 51 ∧ i = 12) → F b i j = D b i j := fun b i j b1 b2 => by
        rw [← hFd, qw_ap, if_neg (by omega), qw_a b1, qw_a b1, qw_a b1]
      have f1 : ∀ r j, r ≠ R → F 62 r j = C 62 r j := fun r j hr => by
        rw [← hFd, qw_a (by decide), qw_i hr, qw_i hr, qw_i hr]
        exact d6 r j
      have f2 : (F 62 R 0) = V ∧ (F 62 R 1) = sI cnt R ∧ (F 62 R 2) = n := by
        rw [← hFd]
        refine ⟨?_, ?_, ?_⟩
        · simp only [qw_ap, false_and, true_and, and_true, and_false, and_self, if_false, if_true, reduceIte, Nat.reduceEqDiff, Int.reduceEq]
        · simp only [qw_ap, false_and, true_and, and_true, and_false, and_self, if_false, if_true, reduceIte, Nat.reduceEqDiff, Int.reduceEq]
        · simp only [qw_ap, false_and, true_and, and_true, and_false, and_self, if_false, if_true, reduceIte, Nat.reduceEqDiff, Int.reduceEq]
      have f3 : (F 51 12 0) = R + 1 := by
        rw [← hFd]
        exact qw_s
      have cnr : ∀ r, r ≤ R → sI (updI cnt R n) r = sI cnt r := fun r hr => sI_c (fun i i0 i1 => updI_o (by omega))
      have eR : (D 61 V 0) = (C 61 V 0) := d7 V 0
      have eqs : ∀ v, 0 ≤ v → v < 100 → 0 ≤ (C 61 v 0) ∧ (C 61 v 0) ≤ 24 * sI cnt R := fun v v0 v1 => by
        rw [h6 v v0 v1]
        have bb : ∀ r, 0 ≤ r → r < R → 0 ≤ sI (fun j => sN G (stI (nxs A G p) (stt r) j)) (cnt r) ∧ sI (fun j => sN G (stI (nxs A G p) (stt r) j)) (cnt r) ≤ 24 * cnt r := fun r r0 r1 => by
          have hr := h2 r r0 r1
          exact snn _ _ (by have := hr.2.2.1; omega) (fun j a _ => by
            have v := stI_v hv hr.1 hr.2.1 j a
            exact sN24 _ v.1 v.2)
        refine ⟨sI_n (fun r r0 r1 => ?_), ?_⟩
        · (try dsimp only)
          rcases b01_01 (p := lfs B G (stt r) = v) with e | e
          · rw [e]
            omega
          · rw [e, Int.one_mul]
            exact (bb r r0 r1).1
        · rw [← sI_mul]
          refine sI_le (fun r r0 r1 => ?_)
          (try dsimp only)
          have q := bb r r0 r1
          rcases b01_01 (p := lfs B G (stt r) = v) with e | e
          · rw [e]
            omega
          · rw [e, Int.one_mul]
            exact q.2
      have fin : ∀ D2 : qm, (∀ b i j, b ≠ 61 → D2 b i j = F b i j) → (∀ v, 0 ≤ v → v < 100 → (D2 61 v 0) = (C 61 v 0) + b01 (V = v) * sI (fun j => sN G (stI (nxs A G p) s j)) n) → CRI A B G D2 p (R + 1) (updI stt R s) (updI cnt R n) := by
        intro D2 g1 g2
        refine ⟨fun b i j b1 b2 b3 b4 b5 => ?_, add.1, fun t t0 t1 => ?_, fun r r0 r1 => ?_, fun r j r0 r1 j0 j1 => ?_, fun v v0 v1 => ?_, ?_, ?_, by omega⟩
        · rw [g1 b i j b4, f0 b i j b2 (by omega)]
          exact d1 b i j b1 b2 b3 b4 b5
        · rw [g1 _ _ _ (by decide), f0 _ _ _ (by decide) (by omega), d2 t t0 t1]
          exact b01_c (add.2 t).symm
        · rw [g1 _ _ _ (by decide), g1 _ _ _ (by decide), g1 _ _ _ (by decide), cnr r (by omega)]
          by_cases g : r = R
          · rw [g, updI_s, updI_s, hVl]
            exact f2
          · rw [updI_o g, updI_o g, f1 r 0 g, f1 r 1 g, f1 r 2 g]
            exact h4 r r0 (by omega)
        · rw [cnr r (by omega)]
          have so : ∀ c j, D2 283 c j = D 283 c j := fun c j => by
            rw [g1 _ _ _ (by decide), f0 _ _ _ (by decide) (by omega)]
          by_cases g : r = R
          · rw [g, updI_s] at j1
            rw [g, updI_s]
            exact SDR_o (d4 j j0 j1) (fun i => so _ i)
          · rw [updI_o g] at j1
            rw [updI_o g]
            have mono : sI cnt (r + 1) ≤ sI cnt R := sI_mono (by omega) (by omega) (fun i i0 i1 => by have := (h2 i (by omega) i1).2.2.1; omega)
            rw [sI_s r0] at mono
            exact SDR_o (h5 r j r0 (by omega) j0 j1) (fun i => (so _ i).trans (d3 _ i (by omega)))
        · rw [g2 v v0 v1, h6 v v0 v1, sI_s h9, updI_s, updI_s, hVl]
          have e2 : sI (fun r => b01 (lfs B G (updI stt R s r) = v) * sI (fun j => sN G (stI (nxs A G p) (updI stt R s r) j)) (updI cnt R n r)) R = sI (fun r => b01 (lfs B G (stt r) = v) * sI (fun j => sN G (stI (nxs A G p) (stt r) j)) (cnt r)) R := sI_c (fun r r0 r1 => by
            (try dsimp only)
            rw [updI_o (by omega), updI_o (by omega)])
          rw [e2]
        · rw [g1 _ _ _ (by decide)]
          exact f3
        · rw [g1 _ _ _ (by decide), f0 _ _ _ (by decide) (by omega), d5, sI_s h9, updI_s, cn]
      rw [hFd]
      by_cases gV : V < 0
      · rw [if_pos gV]
        refine qW_some (fin F (fun _ _ _ _ => rfl) (fun v v0 v1 => ?_))
        rw [f0 _ _ _ (by decide) (by omega), d7, b01_f (by omega)]
        omega
      · have cV : 0 ≤ V ∧ V < 100 := by omega
        rw [if_neg gV, if_pos cV, if_pos cV]
        refine qW_bnd (qW_some (fin _ (fun b i j hb => qw_a hb) (fun v v0 v1 => ?_)))
        have e1 : ∀ u, qw F 61 V 0 u 61 v 0 = if v = V then u else (F 61 v 0) := fun u => by
          simp only [qw_ap, false_and, true_and, and_true, and_false, and_self, if_false, if_true, reduceIte, Nat.reduceEqDiff, Int.reduceEq]
        have q := eqs V cV.1 cV.2
        (try dsimp only)
        rw [e1, f0 _ _ _ (by decide) (by omega), d7, f0 _ _ _ (by decide) (by omega), d7, w32_id (by omega) (by omega)]
        by_cases g : v = V
        · rw [if_pos g, b01_t g.symm, g]
          omega
        · rw [if_neg g, b01_f (fun z => g z.symm)]
          omega
  obtain ⟨⟨_, D⟩, eD, hD⟩ := main
  exact ⟨n, D, np, eD, hD, add.2⟩
end CI
