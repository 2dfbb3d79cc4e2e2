section RS
variable {M K A E G H : qm} {n m p k v z l x y w c r i j a b s t L R N : Int} {nx key stt cnt : Int → Int}
theorem rring_1 (h_lines : R_lines M K) (h_ends : R_ends M K) (h_alone : R_alone M K) (hA : WAL M A (M 7 0 0)) (hK : PFL M K G) (hF : FPI M E G m p) (h : RIN A G H p R stt cnt) (s0 : 0 ≤ s) (s1 : s < 2 * p) (hc : ¬ cov (nxs A G p) stt cnt R s) (hk : ∀ t, 0 ≤ t → t < 2 * p → skey G t < skey G s → cov (nxs A G p) stt cnt R t) : ∃ n T, 0 ≤ n ∧ wlk (nxs A G p) stt cnt R s n ∧ qf_X16_findRings_L87 20000 20000 i w s (qw (qw H 2180 R 0 s) 2181 R 0 0) = some (.inr ((), T)) ∧ RIN A G (qw T 2157 35 0 (R + 1)) p (R + 1) (updI stt R s) (updI cnt R n) ∧ T 2157 35 0 = R := by
  obtain ⟨h1, h2, h3, h4, h5, h6⟩ := h
  have hF0 := FPI_o hF (H := G) (fun _ _ _ => rfl)
  have hv := nxs_v h_lines h_ends h_alone hA hK hF0
  have room := rng_room h_lines h_ends h_alone hA hK hF0 h6 h2
  have p5 := hF.2.2.2.2.2.2.2.1
  obtain ⟨n, n0, n1, n2, n3⟩ := walk_n (N := 2 * p) (st := fun j => stI (nxs A G p) s j) (R := fun t => cov (nxs A G p) stt cnt R t) (by omega) (fun j j0 => stI_v hv s0 s1 j j0)
  have hw : wlk (nxs A G p) stt cnt R s n := ⟨n2, n3⟩
  have npos : 0 ≤ sI (fun s => b01 (cov (nxs A G p) stt cnt R s)) (2 * p) := sI_n (fun _ _ _ => b01_b.1)
  have add := rng_add h6 n0 h2 s0 s1 hc hk hw
  have cR : 0 ≤ R ∧ R < 460 := by omega
  have q : qW (qf_X16_findRings_L87 20000 20000 i w s (qw (qw H 2180 R 0 s) 2181 R 0 0)) (fun o => ∃ T, o = .inr ((), T) ∧ RFR G T ∧ (∀ t, 0 ≤ t → t < 2 * p → (T 2179 t 0) = b01 (cov (nxs A G p) stt cnt R t ∨ ∃ i, 0 ≤ i ∧ i < n ∧ stI (nxs A G p) s i = t)) ∧ (∀ r, (T 2180 r 0) = if r = R then s else (H 2180 r 0)) ∧ (∀ r, (T 2181 r 0) = if r = R then n else (H 2181 r 0)) ∧ (T 2157 35 0) = R) := by
    unfold qf_X16_findRings_L87
    refine qW_for n (fun j u => ∃ T, u = (i, w, stI (nxs A G p) s j, T) ∧ RFR G T ∧ (∀ t, 0 ≤ t → t < 2 * p → (T 2179 t 0) = b01 (cov (nxs A G p) stt cnt R t ∨ ∃ i, 0 ≤ i ∧ i < j ∧ stI (nxs A G p) s i = t)) ∧ (∀ r, (T 2180 r 0) = if r = R then s else (H 2180 r 0)) ∧ (∀ r, (T 2181 r 0) = if r = R then j else (H 2181 r 0)) ∧ (T 2157 35 0) = R) ?_ ?_ ?_ n0 (by omega)
    · rintro j _ j0 j1 ⟨T, rfl, t1, t2, t3, t4, t5⟩
      have vj := stI_v hv s0 s1 j j0
      have c9 : 0 ≤ stI (nxs A G p) s j ∧ stI (nxs A G p) s j < 920 := by omega
      have m0 : (T 2179 (stI (nxs A G p) s j) 0) = 0 := by
        rw [t2 _ vj.1 vj.2]
        exact b01_f (n2 j j0 j1)
      unfold qf_X16_findRings_L87_b
      (try dsimp only)
      rw [if_pos c9, if_pos m0, if_pos c9]
      refine qW_bnd ?_
      have er : qw T 2179 (stI (nxs A G p) s j) 0 1 2157 35 0 = R := (qw_a (by decide)).trans t5
      rw [er, if_pos cR, if_pos cR]
      refine qW_bnd ?_
      have es : qw T 2179 (stI (nxs A G p) s j) 0 1 2181 R 0 = j := by
        rw [qw_a (by decide), t4, if_pos rfl]
      rw [es, w32_id (x := j + 1) (by omega) (by omega)]
      have fr : RFR G (qw (qw T 2179 (stI (nxs A G p) s j) 0 1) 2181 R 0 (j + 1)) := fun b i j b1 b2 b3 b4 => by
        rw [qw_a b3, qw_a b1]
        exact t1 b i j b1 b2 b3 b4
      have hFT := RFR_fpi hF fr
      have hKT := RFR_pls hK fr
      have ne := next_e h_lines h_ends h_alone hA hKT hFT vj.1 vj.2
      rw [(nxs_o (RFR_side fr)).1, ← stI_s (nx := nxs A G p) (s := s) j0] at ne
      refine qW_eq ne ?_
      refine qW_some ⟨_, rfl, fr, fun t t0 t1 => ?_, fun r => ?_, fun r => ?_, ?_⟩
      · rw [qw_a (by decide)]
        have e1 : qw T 2179 (stI (nxs A G p) s j) 0 1 2179 t 0 = if t = stI (nxs A G p) s j then 1 else (T 2179 t 0) := by
          simp only [qw_ap, false_and, true_and, and_true, and_false, and_self, if_false, if_true, reduceIte, Nat.reduceEqDiff, Int.reduceEq]
        rw [e1]
        by_cases g : t = stI (nxs A G p) s j
        · rw [if_pos g, b01_t (Or.inr ⟨j, j0, by omega, g.symm⟩)]
        · rw [if_neg g, t2 t t0 t1]
          refine b01_c ⟨fun z => ?_, fun z => ?_⟩
          · rcases z with z | ⟨i, i0, i1, i2⟩
            · exact Or.inl z
            · exact Or.inr ⟨i, i0, by omega, i2⟩
          · rcases z with z | ⟨i, i0, i1, i2⟩
            · exact Or.inl z
            · by_cases gi : i = j
              · rw [gi] at i2
                exact absurd i2.symm g
              · exact Or.inr ⟨i, i0, by omega, i2⟩
      · rw [qw_a (by decide), qw_a (by decide)]
        exact t3 r
      · have e1 : qw (qw T 2179 (stI (nxs A G p) s j) 0 1) 2181 R 0 (j + 1) 2181 r 0 = if r = R then j + 1 else (T 2181 r 0) := by
          simp only [qw_ap, false_and, true_and, and_true, and_false, and_self, if_false, if_true, reduceIte, Nat.reduceEqDiff, Int.reduceEq]
        rw [e1, t4]
        by_cases g : r = R
        · rw [if_pos g, if_pos g]
        · rw [if_neg g, if_neg g, if_neg g]
      · rw [qw_a (by decide)]
        exact er
    · rintro _ ⟨T, rfl, t1, t2, t3, t4, t5⟩
      have vj := stI_v hv s0 s1 n n0
      have c9 : 0 ≤ stI (nxs A G p) s n ∧ stI (nxs A G p) s n < 920 := by omega
      have m1 : (T 2179 (stI (nxs A G p) s n) 0) = 1 := by
        rw [t2 _ vj.1 vj.2]
        exact b01_t n3
      unfold qf_X16_findRings_L87_b
      (try dsimp only)
      rw [if_pos c9, if_neg (by omega)]
      exact qW_some ⟨T, rfl, t1, t2, t3, t4, t5⟩
    · refine ⟨_, rfl, fun b i j b1 b2 b3 b4 => ?_, fun t t0 t1 => ?_, fun r => ?_, fun r => ?_, ?_⟩
      · rw [qw_a b3, qw_a b2]
        exact h1 b i j b1 b2 b3 b4
      · rw [qw_a (by decide), qw_a (by decide), h3 t t0 t1]
        refine b01_c ⟨Or.inl, fun z => ?_⟩
        rcases z with z | ⟨i, i0, i1, _⟩
        · exact z
        · omega
      · rw [qw_a (by decide)]
        simp only [qw_ap, false_and, true_and, and_true, and_false, and_self, if_false, if_true, reduceIte, Nat.reduceEqDiff, Int.reduceEq]
      · simp only [qw_ap, false_and, true_and, and_true, and_false, and_self, if_false, if_true, reduceIte, Nat.reduceEqDiff, Int.reduceEq]
      · rw [qw_a (by decide), qw_a (by decide)]
        exact h5
  obtain ⟨o, eo, T, rfl, t1, t2, t3, t4, t5⟩ := q
  refine ⟨n, T, n0, hw, eo, ⟨fun b i j b1 b2 b3 b4 => ?_, add.1, fun t t0 t1 => ?_, fun r r0 r1 => ?_, qw_s, by omega⟩, t5⟩
  · rw [qw_ap, if_neg (by omega)]
    exact t1 b i j b1 b2 b3 b4
  · rw [qw_a (by decide), t2 t t0 t1]
    exact b01_c (add.2 t).symm
  · rw [qw_a (by decide), qw_a (by decide), t3, t4]
    by_cases g : r = R
    · rw [if_pos g, if_pos g, g, updI_s, updI_s]
      exact ⟨rfl, rfl⟩
    · rw [if_neg g, if_neg g, updI_o g, updI_o g]
      exact h4 r r0 (by omega)
theorem rrings_r (h_lines : R_lines M K) (h_ends : R_ends M K) (h_alone : R_alone M K) (hA : WAL M A (M 7 0 0)) (hK : PFL M K G) (hF : FPI M E G m p) : qW (qf_X16_findRings 20000 G) (fun r => ∃ R stt cnt, RIN A G r.2 p R stt cnt ∧ ∀ s, 0 ≤ s → s < 2 * p → cov (nxs A G p) stt cnt R s) := by
  have hF0 := FPI_o hF (H := G) (fun _ _ _ => rfl)
  have p5 := hF.2.2.2.2.2.2.2.1
  have p0 := hF.2.2.2.2.2.2.1
  have m5 := hF.2.2.2.1
  have mm := hF.2.2.1
  have pp := hF.2.2.2.2.2.1
  have m0 := hF.2.1.1
  have ok := fun s => side_ok (s := s) h_lines h_ends h_alone hA hK hF0
  unfold qf_X16_findRings
  refine qW_bnd ?_
  refine qW_call (Q := fun o => ∃ T, o = .inr ((), T) ∧ RIN A G T p 0 (fun _ => 0) (fun _ => 0)) ?_ ?_
  · unfold qf_X16_findRings_L7
    refine qW_for (2 * p) (fun i u => ∃ T, u = (i, T) ∧ RFR G T ∧ (T 2157 35 0) = 0 ∧ ∀ t, 0 ≤ t → t < i → (T 2179 t 0) = 0) ?_ ?_ ?_ (by omega) (by omega)
    · rintro i _ i0 i1 ⟨T, rfl, t1, t2, t3⟩
      have ep := (t1 2157 30 0 (by decide) (by decide) (by decide) (by omega)).trans pp
      unfold qf_X16_findRings_L7_b
      (try dsimp only)
      rw [if_neg (by rw [ep, w32_id (x := 2 * p) (by omega) (by omega)]; omega), if_pos (by omega), w32_id (x := i + 1) (by omega) (by omega)]
      refine qW_bnd (qW_some ⟨_, rfl, fun b i j b1 b2 b3 b4 => (qw_a b1).trans (t1 b i j b1 b2 b3 b4), (qw_a (by decide)).trans t2, fun t a b => ?_⟩)
      by_cases g : t = i
      · rw [g]
        exact qw_s
      · rw [qw_i g]
        exact t3 t a (by omega)
    · rintro _ ⟨T, rfl, t1, t2, t3⟩
      have ep := (t1 2157 30 0 (by decide) (by decide) (by decide) (by omega)).trans pp
      unfold qf_X16_findRings_L7_b
      (try dsimp only)
      rw [if_pos (by rw [ep, w32_id (x := 2 * p) (by omega) (by omega)]; omega)]
      refine qW_some ⟨T, rfl, t1, fun r a b => by omega, fun t a b => ?_, fun r a b => by omega, t2, Int.le_refl 0⟩
      rw [t3 t a b, b01_f]
      rintro ⟨r, j, r0, r1, _⟩
      omega
    · refine ⟨_, rfl, fun b i j b1 b2 b3 b4 => ?_, qw_s, fun t a b => by omega⟩
      rw [qw_ap, if_neg (by omega)]
  rintro _ ⟨T, rfl, hT⟩
  (try dsimp only)
  refine qW_call (Q := fun o => ∃ T R stt cnt, o = .inr ((), T) ∧ RIN A G T p R stt cnt ∧ ∀ s, 0 ≤ s → s < 2 * p → cov (nxs A G p) stt cnt R s) ?_ ?_
  · unfold qf_X16_findRings_L32
    refine qW_for m (fun i u => ∃ T R stt cnt, u = (i, T) ∧ RIN A G T p R stt cnt ∧ ∀ s, 0 ≤ s → s < 2 * p → sF G s < i → cov (nxs A G p) stt cnt R s) ?_ ?_ ⟨T, 0, _, _, rfl, hT, fun s s0 s1 z => by have := (ok s s0 s1).2.2.2.2.2.2.2.2.2.2.2.2.1; omega⟩ m0 (by omega)
    · rintro i _ i0 i1 ⟨T, R, stt, cnt, rfl, hT, hc⟩
      have em := (hT.1 2157 27 0 (by decide) (by decide) (by decide) (by omega)).trans mm
      unfold qf_X16_findRings_L32_b
      (try dsimp only)
      rw [if_neg (by omega)]
      refine qW_call (Q := fun o => ∃ T R stt cnt, o = .inr ((), T) ∧ RIN A G T p R stt cnt ∧ ∀ s, 0 ≤ s → s < 2 * p → sF G s < i + 1 → cov (nxs A G p) stt cnt R s) ?_ ?_
      · unfold qf_X16_findRings_L42
        refine qW_for 4 (fun w u => ∃ T R stt cnt, u = (i, w, T) ∧ RIN A G T p R stt cnt ∧ ∀ s, 0 ≤ s → s < 2 * p → (sF G s < i ∨ (sF G s = i ∧ sW G s < w)) → cov (nxs A G p) stt cnt R s) ?_ ?_ ⟨T, R, stt, cnt, rfl, hT, fun s s0 s1 z => hc s s0 s1 (by have := (ok s s0 s1).2.2.2.2.2.2.2.2.1; omega)⟩ (by omega) (by omega)
        · rintro w _ w0 w1 ⟨T, R, stt, cnt, rfl, hT, hc⟩
          have hFT := RFR_fpi hF hT.1
          have hKT := RFR_pls hK hT.1
          have so := sid_o (RFR_side hT.1)
          have px : ∀ i, (T 2174 i 0) = (G 2174 i 0) := fun i => RFR_side hT.1 _ i (Or.inr (by decide))
          have py : ∀ i, (T 2175 i 0) = (G 2175 i 0) := fun i => RFR_side hT.1 _ i (Or.inr (by decide))
          obtain ⟨u, eu, cu⟩ := leaving_e (i := i) (w := w) h_lines h_ends h_alone hA hKT hFT i0 i1 w0 (by omega)
          rw [px, py, so.2.2.2.2.1, so.2.2.2.2.2.1, so.2.2.2.1] at cu
          have room := rng_room h_lines h_ends h_alone hA hK hF0 hT.2.2.2.2.2 hT.2.1
          have here : ∀ s, 0 ≤ s → s < 2 * p → sF G s = i → sX G s = (G 2174 i 0) ∧ sY G s = (G 2175 i 0) := fun s _ _ z => by
            unfold sX sY
            rw [z]
            exact ⟨rfl, rfl⟩
          unfold qf_X16_findRings_L42_b
          (try dsimp only)
          rw [if_neg (by omega), w32_id (x := w + 1) (by omega) (by omega)]
          refine qW_eq eu ?_
          (try dsimp only)
          rcases cu with ⟨c1, c2⟩ | ⟨c1, u0, u1, ux, uy, uw⟩
          · rw [if_pos (by omega)]
            refine qW_some ⟨T, R, stt, cnt, rfl, hT, fun s s0 s1 z => ?_⟩
            by_cases g : sF G s < i ∨ (sF G s = i ∧ sW G s < w)
            · exact hc s s0 s1 g
            · exfalso
              have e1 : sF G s = i := by omega
              have e2 : sW G s = w := by omega
              have q := here s s0 s1 e1
              have o := ok s s0 s1
              rw [← q.1, ← q.2, ← e2, o.2.1] at c1
              have := o.2.2.1
              omega
          · have ou := ok u u0 u1
            have uF : sF G u = i := by
              refine kp_eq hF.2.1 ou.2.2.2.2.2.2.2.2.2.2.2.2.1 (by have := ou.2.2.2.2.2.2.2.2.2.2.2.2.2.1; omega) i0 i1 ?_
              unfold kp
              unfold sX at ux
              unfold sY at uy
              rw [ux, uy]
            have same : ∀ s, 0 ≤ s → s < 2 * p → sF G s = i → sW G s = w → s = u := fun s s0 s1 z1 z2 => by
              have q := here s s0 s1 z1
              exact side_one h_lines h_ends h_alone hA hK hF0 s0 s1 u0 u1 (q.1.trans ux.symm) (q.2.trans uy.symm) (z2.trans uw.symm)
            have done : ∀ (stt' cnt' : Int → Int) (R' : Int), (∀ s, cov (nxs A G p) stt cnt R s → cov (nxs A G p) stt' cnt' R' s) → cov (nxs A G p) stt' cnt' R' u → ∀ s, 0 ≤ s → s < 2 * p → (sF G s < i ∨ (sF G s = i ∧ sW G s < w + 1)) → cov (nxs A G p) stt' cnt' R' s := by
              intro stt' cnt' R' hm hu s s0 s1 z
              by_cases g : sF G s < i ∨ (sF G s = i ∧ sW G s < w)
              · exact hm s (hc s s0 s1 g)
              · have e := same s s0 s1 (by omega) (by omega)
                rw [e]
                exact hu
            rw [if_neg (by omega), if_pos (by omega)]
            have em := hT.2.2.1 u u0 u1
            rcases b01_o (p := cov (nxs A G p) stt cnt R u) with ⟨e, hcu⟩ | ⟨e, hcu⟩
            · rw [if_neg (by omega)]
              exact qW_some ⟨T, R, stt, cnt, rfl, hT, done stt cnt R (fun _ z => z) hcu⟩
            · have er := hT.2.2.2.2.1
              have R0 := hT.2.2.2.2.2
              rw [if_pos (by omega), if_pos (by omega)]
              refine qW_bnd ?_
              rw [er]
              have er2 : qw T 2180 R 0 u 2157 35 0 = R := (qw_a (by decide)).trans er
              rw [if_pos (by omega)]
              refine qW_bnd ?_
              rw [er2]
              obtain ⟨n, V, n0, hw, eV, hV, eR⟩ := rring_1 (i := i) (w := w) h_lines h_ends h_alone hA hK hF hT u0 u1 hcu (fun t t0 t1 z => hc t t0 t1 (by
                have ot := ok t t0 t1
                unfold skey at z
                have a1 := ot.2.2.2.2.2.2.2.2.1
                have a2 := ot.2.2.2.2.2.2.2.2.2.1
                have f0 := ot.2.2.2.2.2.2.2.2.2.2.2.2.1
                have f1 := ot.2.2.2.2.2.2.2.2.2.2.2.2.2.1
                rw [mm] at f1
                rcases Int.lt_trichotomy (sF G t) i with g | g | g
                · exact Or.inl g
                · have q := here t t0 t1 g
                  exact Or.inr ⟨g, by omega⟩
                · exfalso
                  have := hF.2.1.2.2 i (sF G t) i0 g f1
                  have k1 : kp G i = 25 * (G 2174 i 0) + (G 2175 i 0) := rfl
                  have k2 : kp G (sF G t) = 25 * sX G t + sY G t := rfl
                  omega))
              refine qW_eq eV ?_
              (try dsimp only)
              refine qW_bnd ?_
              rw [eR, w32_id (x := R + 1) (by omega) (by omega)]
              have ad := (rng_add R0 n0 hT.2.1 u0 u1 hcu (fun t t0 t1 z => by
                have ot := ok t t0 t1
                unfold skey at z
                have a1 := ot.2.2.2.2.2.2.2.2.1
                have a2 := ot.2.2.2.2.2.2.2.2.2.1
                have f0 := ot.2.2.2.2.2.2.2.2.2.2.2.2.1
                have f1 := ot.2.2.2.2.2.2.2.2.2.2.2.2.2.1
                rw [mm] at f1
                refine hc t t0 t1 ?_
                rcases Int.lt_trichotomy (sF G t) i with g | g | g
                · exact Or.inl g
                · have q := here t t0 t1 g
                  exact Or.inr ⟨g, by omega⟩
                · exfalso
                  have := hF.2.1.2.2 i (sF G t) i0 g f1
                  have k1 : kp G i = 25 * (G 2174 i 0) + (G 2175 i 0) := rfl
                  have k2 : kp G (sF G t) = 25 * sX G t + sY G t := rfl
                  omega) hw)
              refine qW_some ⟨_, R + 1, _, _, rfl, hV, done _ _ _ (fun s z => (ad.2 s).mpr (Or.inl z)) ((ad.2 u).mpr (Or.inr ⟨0, by decide, ?_, rfl⟩))⟩
              have := (ad.1 R R0 (by omega)).2.2.1
              rw [updI_s] at this
              omega
        · rintro _ ⟨T, R, stt, cnt, rfl, hT, hc⟩
          unfold qf_X16_findRings_L42_b
          (try dsimp only)
          rw [if_pos (by decide)]
          exact qW_some ⟨T, R, stt, cnt, rfl, hT, fun s s0 s1 z => hc s s0 s1 (by have := (ok s s0 s1).2.2.2.2.2.2.2.2.2.1; omega)⟩
      · rintro _ ⟨T, R, stt, cnt, rfl, hT, hc⟩
        (try dsimp only)
        rw [w32_id (x := i + 1) (by omega) (by omega)]
        exact qW_some ⟨T, R, stt, cnt, rfl, hT, hc⟩
    · rintro _ ⟨T, R, stt, cnt, rfl, hT, hc⟩
      have em := (hT.1 2157 27 0 (by decide) (by decide) (by decide) (by omega)).trans mm
      unfold qf_X16_findRings_L32_b
      (try dsimp only)
      rw [if_pos (by omega)]
      exact qW_some ⟨T, R, stt, cnt, rfl, hT, fun s s0 s1 => hc s s0 s1 (by have := (ok s s0 s1).2.2.2.2.2.2.2.2.2.2.2.2.2.1; omega)⟩
  · rintro _ ⟨T, R, stt, cnt, rfl, hT, hc⟩
    exact qW_some ⟨R, stt, cnt, hT, hc⟩
end RS
