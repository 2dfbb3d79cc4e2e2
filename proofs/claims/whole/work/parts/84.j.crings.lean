section CJ
variable {M K A B C E G : qm} {n m p k v z l x y w c r i j a b s t L R N : Int} {stt cnt : Int → Int}
theorem side_pt (h_lines : R_lines M K) (h_ends : R_ends M K) (h_alone : R_alone M K) (hA : WAL M A (M 7 0 0)) (hK : PFL M K E) (h : FPI M E G m p) (s0 : 0 ≤ s) (s1 : s < 2 * p) : PT M A (M 7 0 0) (sX G s) (sY G s) := by
  have o := side_ok h_lines h_ends h_alone hA hK h s0 s1
  obtain ⟨f1, f2, f3, f4, f5, _⟩ := h
  refine (PL_PT h_ends hA o.2.2.2.2.1 o.2.2.2.2.2.1 o.2.2.2.2.2.2.1 o.2.2.2.2.2.2.2.1).mp ((f5 _ _).mp ⟨sF G s, o.2.2.2.2.2.2.2.2.2.2.2.2.1, ?_, rfl, rfl⟩)
  have := o.2.2.2.2.2.2.2.2.2.2.2.2.2.1
  omega
theorem crings_d (h_lines : R_lines M K) (h_ends : R_ends M K) (h_alone : R_alone M K) (hA : WAL M A (M 7 0 0)) (hK : PFL M K E) (hF : FPI M E G m p) (hB : CBS M A B (M 7 0 0)) (a0 : 0 ≤ a) (a1 : a < 625) (h : CRI A B G C p R stt cnt) (hc : ∀ s, 0 ≤ s → s < 2 * p → skey G s < 4 * a → cov (nxs A G p) stt cnt R s) : qW (qf_X2_traceRings_L53 20000 20000 a 0 C) (fun o => ∃ D R stt cnt, o = .inr ((), D) ∧ CRI A B G D p R stt cnt ∧ ∀ s, 0 ≤ s → s < 2 * p → skey G s < 4 * (a + 1) → cov (nxs A G p) stt cnt R s) := by
  have ok := fun s => side_ok (s := s) h_lines h_ends h_alone hA hK hF
  have pt := fun s => side_pt (s := s) h_lines h_ends h_alone hA hK hF
  have p5 := hF.2.2.2.2.2.2.2.1
  have tX : Int.tdiv a 25 = a / 25 := Int.tdiv_eq_ediv_of_nonneg a0
  have tY : Int.tmod a 25 = a % 25 := Int.tmod_eq_emod_of_nonneg a0
  obtain ⟨X, hX⟩ : ∃ X, a / 25 = X := ⟨_, rfl⟩
  obtain ⟨Y, hY⟩ : ∃ Y, a % 25 = Y := ⟨_, rfl⟩
  have ea : a = 25 * X + Y := by omega
  unfold qf_X2_traceRings_L53
  refine qW_for 4 (fun w u => ∃ D R stt cnt, u = (a, w, D) ∧ CRI A B G D p R stt cnt ∧ ∀ s, 0 ≤ s → s < 2 * p → skey G s < 4 * a + w → cov (nxs A G p) stt cnt R s) ?_ ?_ ⟨C, R, stt, cnt, rfl, h, fun s s0 s1 z => hc s s0 s1 (by omega)⟩ (by omega) (by omega)
  · rintro w _ w0 w1 ⟨D, R, stt, cnt, rfl, hD, hc⟩
    have ew := wallFrom_e (A := D) (w := w) (x := X) (y := Y) (by omega) (by omega) (by omega) (by omega)
    rw [wf_o (B := D) (A := A) (fun i j => (hD.1 _ i j (by decide) (by decide) (by decide) (by decide) (by omega)).trans (hB.1 i j))] at ew
    have ep := (hD.1 55 (25 * X + Y) 0 (by decide) (by decide) (by decide) (by decide) (by omega)).trans (hB.2.1 X Y (by omega) (by omega) (by omega) (by omega))
    rw [← ea] at ep
    have kk : ∀ s, 0 ≤ s → s < 2 * p → skey G s = 4 * a + w → sX G s = X ∧ sY G s = Y ∧ sW G s = w := by
      intro s s0 s1 z
      have o := ok s s0 s1
      obtain ⟨_, _, _, _, c1, c2, c3, c4, c5, c6, _⟩ := o
      unfold skey at z
      omega
    have skip : (∀ s, 0 ≤ s → s < 2 * p → skey G s ≠ 4 * a + w) → ∃ D' R stt cnt, (a, w + 1, D) = (a, w + 1, D') ∧ CRI A B G D' p R stt cnt ∧ ∀ s, 0 ≤ s → s < 2 * p → skey G s < 4 * a + (w + 1) → cov (nxs A G p) stt cnt R s := by
      intro no
      refine ⟨D, R, stt, cnt, rfl, hD, fun s s0 s1 z => hc s s0 s1 ?_⟩
      have := no s s0 s1
      omega
    unfold qf_X2_traceRings_L53_b qf_X2_traceRings_J88 qf_X2_traceRings_J89
    (try dsimp only)
    rw [if_neg (by omega), if_pos ⟨a0, a1⟩, tX, tY, hX, hY, w32_id (x := w + 1) (by omega) (by omega), w32_id (x := 4 * a) (by omega) (by omega), w32_id (x := 4 * a + w) (by omega) (by omega)]
    rcases b01_o (p := PT M A (M 7 0 0) X Y) with ⟨e, hp⟩ | ⟨e, hp⟩
    · rw [if_neg (show ¬ D 55 a 0 = 0 by omega)]
      refine qW_eq ew ?_
      (try dsimp only)
      by_cases gw : wf A w X Y = -1
      · rw [if_pos gw, if_pos rfl]
        refine qW_some (skip (fun s s0 s1 z => ?_))
        have q := kk s s0 s1 z
        have o := ok s s0 s1
        rw [← q.1, ← q.2.1, ← q.2.2, o.2.1] at gw
        have := o.2.2.1
        omega
      · obtain ⟨u, u0, u1, ux, uy, uw⟩ := side_ex h_lines h_ends h_alone hA hK hF (x := X) (y := Y) (w := w) (by omega) (by omega) (by omega) (by omega) w0 (by omega) hp gw
        have ku : skey G u = 4 * a + w := by
          unfold skey
          rw [ux, uy, uw, ← ea]
        rw [if_neg gw, if_neg (by decide), if_pos (by omega)]
        have eg := hD.2.2.1 u u0 u1
        rw [ku] at eg
        have one : ∀ s, 0 ≤ s → s < 2 * p → skey G s = 4 * a + w → s = u := fun s s0 s1 z => skey_inj h_lines h_ends h_alone hA hK hF s u s0 s1 u0 u1 (z.trans ku.symm)
        rcases b01_o (p := cov (nxs A G p) stt cnt R u) with ⟨e2, hcu⟩ | ⟨e2, hcu⟩
        · rw [if_neg (show ¬ D 724 (4 * a + w) 0 = 0 by omega)]
          refine qW_some ⟨D, R, stt, cnt, rfl, hD, fun s s0 s1 z => ?_⟩
          by_cases g : skey G s = 4 * a + w
          · rw [one s s0 s1 g]
            exact hcu
          · exact hc s s0 s1 (by omega)
        · rw [if_pos (show D 724 (4 * a + w) 0 = 0 by omega)]
          obtain ⟨n, D2, n1, eD, hD2, hcc⟩ := cring_1 h_lines h_ends h_alone hA hK hF hB hD u0 u1 hcu (fun t t0 t1 z => hc t t0 t1 (by omega))
          have room := rng_room h_lines h_ends h_alone hA hK hF (R := R + 1) (by have := hD.2.2.2.2.2.2.2.2; omega) hD2.2.1
          rw [if_neg (by rw [hD.2.2.2.2.2.2.1]; omega)]
          rw [ux, uy, uw, ← ea] at eD
          refine qW_eq eD ?_
          refine qW_some ⟨D2, R + 1, _, _, rfl, hD2, fun s s0 s1 z => ?_⟩
          by_cases g : skey G s = 4 * a + w
          · rw [one s s0 s1 g]
            exact (hcc u).mpr (Or.inr ⟨0, by decide, by omega, rfl⟩)
          · exact (hcc s).mpr (Or.inl (hc s s0 s1 (by omega)))
    · rw [if_pos (show D 55 a 0 = 0 by omega), if_pos rfl]
      refine qW_some (skip (fun s s0 s1 z => ?_))
      have q := kk s s0 s1 z
      have o := pt s s0 s1
      rw [q.1, q.2.1] at o
      exact hp o
  · rintro _ ⟨D, R, stt, cnt, rfl, hD, hc⟩
    unfold qf_X2_traceRings_L53_b
    (try dsimp only)
    rw [if_pos (by decide)]
    exact qW_some ⟨D, R, stt, cnt, rfl, hD, fun s s0 s1 z => hc s s0 s1 (by omega)⟩
theorem crings_r (h_lines : R_lines M K) (h_ends : R_ends M K) (h_alone : R_alone M K) (hA : WAL M A (M 7 0 0)) (hK : PFL M K E) (hF : FPI M E G m p) (hB : CBS M A B (M 7 0 0)) : qW (qf_X2_traceRings 20000 B) (fun r => ∃ R stt cnt, CRI A B G r.2 p R stt cnt ∧ ∀ s, 0 ≤ s → s < 2 * p → cov (nxs A G p) stt cnt R s) := by
  have ok := fun s => side_ok (s := s) h_lines h_ends h_alone hA hK hF
  unfold qf_X2_traceRings
  refine qW_bnd (qW_bnd ?_)
  refine qW_call (Q := fun o => ∃ D, o = .inr ((), D) ∧ CFR B D ∧ D 51 12 0 = 0 ∧ D 51 14 0 = 0 ∧ ∀ t, 0 ≤ t → t < 2500 → (D 724 t 0) = 0) ?_ ?_
  · unfold qf_X2_traceRings_L12
    refine qW_for 2500 (fun i u => ∃ D, u = (i, D) ∧ CFR B D ∧ D 51 12 0 = 0 ∧ D 51 14 0 = 0 ∧ ∀ t, 0 ≤ t → t < i → (D 724 t 0) = 0) ?_ ?_ ?_ (by omega) (by omega)
    · rintro i _ i0 i1 ⟨D, rfl, d1, d2, d3, d4⟩
      unfold qf_X2_traceRings_L12_b
      (try dsimp only)
      rw [if_neg (by omega), if_pos ⟨i0, i1⟩, w32_id (x := i + 1) (by omega) (by omega)]
      refine qW_bnd (qW_some ⟨_, rfl, fun b i j b1 b2 b3 b4 b5 => (qw_a b1).trans (d1 b i j b1 b2 b3 b4 b5), (qw_a (by decide)).trans d2, (qw_a (by decide)).trans d3, fun t t0 t1 => ?_⟩)
      by_cases g : t = i
      · rw [g]
        exact qw_s
      · rw [qw_i g]
        exact d4 t t0 (by omega)
    · rintro _ ⟨D, rfl, d1, d2, d3, d4⟩
      unfold qf_X2_traceRings_L12_b
      (try dsimp only)
      rw [if_pos (by decide)]
      exact qW_some ⟨D, rfl, d1, d2, d3, d4⟩
    · refine ⟨_, rfl, fun b i j b1 b2 b3 b4 b5 => ?_, ?_, qw_s, fun t t0 t1 => by omega⟩
      · rw [qw_ap, if_neg (by omega), qw_ap, if_neg (by omega)]
      · rw [qw_i (by decide)]
        exact qw_s
  rintro _ ⟨D, rfl, d1, d2, d3, d4⟩
  (try dsimp only)
  refine qW_bnd ?_
  have hI : CRI A B G (qfl1 D 61 0 100 0) p 0 (fun _ => 0) (fun _ => 0) := by
    refine ⟨fun b i j b1 b2 b3 b4 b5 => ?_, fun r r0 r1 => by omega, fun s s0 s1 => ?_, fun r r0 r1 => by omega, fun r j r0 r1 => by omega, fun v v0 v1 => ?_, ?_, ?_, Int.le_refl 0⟩
    · rw [qfl1_ap, if_neg (fun z => b4 z.1)]
      exact d1 b i j b1 b2 b3 b4 b5
    · have o := ok s s0 s1
      obtain ⟨_, _, _, _, c1, c2, c3, c4, c5, c6, _⟩ := o
      rw [qfl1_ap, if_neg (fun z => absurd z.1 (by decide)), d4 _ (by unfold skey; omega) (by unfold skey; omega), b01_f]
      rintro ⟨r, j, r0, r1, _⟩
      omega
    · rw [qfl1_ap, if_pos ⟨rfl, v0, v1, rfl⟩]
      rfl
    · rw [qfl1_ap, if_neg (fun z => absurd z.1 (by decide))]
      exact d2
    · rw [qfl1_ap, if_neg (fun z => absurd z.1 (by decide))]
      exact d3
  refine qW_call (Q := fun o => ∃ D R stt cnt, o = .inr ((), D) ∧ CRI A B G D p R stt cnt ∧ ∀ s, 0 ≤ s → s < 2 * p → cov (nxs A G p) stt cnt R s) ?_ ?_
  · unfold qf_X2_traceRings_L44
    refine qW_for 625 (fun a u => ∃ D R stt cnt, u = (a, D) ∧ CRI A B G D p R stt cnt ∧ ∀ s, 0 ≤ s → s < 2 * p → skey G s < 4 * a → cov (nxs A G p) stt cnt R s) ?_ ?_ ⟨_, 0, _, _, rfl, hI, fun s s0 s1 z => ?_⟩ (by omega) (by omega)
    · rintro a _ a0 a1 ⟨D, R, stt, cnt, rfl, hD, hc⟩
      unfold qf_X2_traceRings_L44_b
      (try dsimp only)
      rw [if_neg (by omega), w32_id (x := a + 1) (by omega) (by omega)]
      refine qW_call (crings_d h_lines h_ends h_alone hA hK hF hB a0 a1 hD hc) ?_
      rintro _ ⟨D2, R2, stt2, cnt2, rfl, hD2, hc2⟩
      exact qW_some ⟨D2, R2, stt2, cnt2, rfl, hD2, hc2⟩
    · rintro _ ⟨D, R, stt, cnt, rfl, hD, hc⟩
      unfold qf_X2_traceRings_L44_b
      (try dsimp only)
      rw [if_pos (by decide)]
      refine qW_some ⟨D, R, stt, cnt, rfl, hD, fun s s0 s1 => hc s s0 s1 ?_⟩
      have o := ok s s0 s1
      obtain ⟨_, _, _, _, c1, c2, c3, c4, c5, c6, _⟩ := o
      unfold skey
      omega
    · have o := ok s s0 s1
      obtain ⟨_, _, _, _, c1, c2, c3, c4, c5, c6, _⟩ := o
      unfold skey at z
      omega
  · rintro _ ⟨D, R, stt, cnt, rfl, hD, hc⟩
    exact qW_some ⟨R, stt, cnt, hD, hc⟩
end CJ
