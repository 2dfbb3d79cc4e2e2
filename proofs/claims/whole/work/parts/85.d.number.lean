section ND
variable {M K A B C D D0 E F G H T : qm} {n m p k v z l x y w c r i j a b s t L R N f L0 S : Int} {q stt cnt u o : Int → Int}
def AXE (E T : qm) : Prop := (∀ i, (T 2166 i 0) = (E 2166 i 0)) ∧ (∀ i, (T 2167 i 0) = (E 2167 i 0)) ∧ (T 2157 12 0) = (E 2157 12 0) ∧ (T 2157 13 0) = (E 2157 13 0)
theorem kuf_o (h : AXE E T) : kuf T x y = kuf E x y := by
  have e1 : colr T = colr E := by
    funext x c
    unfold colr
    rw [h.2.2.1]
    have : ∀ j, (T 2166 j 0) = (E 2166 j 0) := h.1
    simp only [this]
  have e2 : rowr T = rowr E := by
    funext x c
    unfold rowr
    rw [h.2.2.2]
    have : ∀ j, (T 2167 j 0) = (E 2167 j 0) := h.2.1
    simp only [this]
  unfold kuf colf rowf
  rw [e1, e2]
theorem AXS_o (h : AXS M E n) (ho : AXE E T) : AXS M T n := by
  obtain ⟨h1, h2, h3, h4⟩ := h
  obtain ⟨o1, o2, o3, o4⟩ := ho
  refine ⟨?_, ?_, fun z => ?_, fun z => ?_⟩
  · rw [o3]
    exact SRx_o h1 o1
  · rw [o4]
    exact SRy_o h2 o2
  · rw [← h3 z, o3]
    simp only [o1]
  · rw [← h4 z, o4]
    simp only [o2]
/-- from finding the columns to the rings: what the reference holds -/
def RCH (M A E F G H : qm) (n m p R : Int) (stt cnt : Int → Int) : Prop := AXS M E n ∧ RFS M E F n ∧ FPI M F G m p ∧ RIN A G H p R stt cnt ∧ ∀ s, 0 ≤ s → s < 2 * p → cov (nxs A G p) stt cnt R s
theorem rch_axe (h : RCH M A E F G H n m p R stt cnt) : AXE E H := by
  obtain ⟨h1, h2, h3, h4, h5⟩ := h
  have f : ∀ b i, (b = 2166 ∨ b = 2167 ∨ (b = 2157 ∧ (i = 12 ∨ i = 13))) → H b i 0 = E b i 0 := fun b i hb => by
    rw [h4.1 b i 0 (by omega) (by omega) (by omega) (by omega), h3.1 b i 0 (by omega) (by omega), h2.1 b i 0 (by omega)]
  exact ⟨fun i => f _ i (Or.inl rfl), fun i => f _ i (Or.inr (Or.inl rfl)), f _ _ (Or.inr (Or.inr ⟨rfl, Or.inl rfl⟩)), f _ _ (Or.inr (Or.inr ⟨rfl, Or.inr rfl⟩))⟩
theorem rch_cell (h : RCH M A E F G H n m p R stt cnt) : (H 2168 k 0) = (F 2168 k 0) := by
  obtain ⟨h1, h2, h3, h4, h5⟩ := h
  rw [h4.1 _ k 0 (by decide) (by decide) (by decide) (by omega), h3.1 _ k 0 (Or.inl (by decide)) (by omega)]
theorem rch_pls (hK : PLS K E) (h : RCH M A E F G H n m p R stt cnt) : PLS K F := PLS_c hK h.2.1.1
/-- the reference's left of a side, before the numbers and behind them -/
theorem rch_left (h_lines : R_lines M K) (h_ends : R_ends M K) (h_alone : R_alone M K) (hA : WAL M A (M 7 0 0)) (hK : PLS K E) (h : RCH M A E F G H (M 7 0 0) m p R stt cnt) (hT : ∀ b i j, b ≠ 2182 → b ≠ 2168 → ¬ (b = 2157 ∧ i = 17) → T b i j = H b i j) (s0 : 0 ≤ s) (s1 : s < 2 * p) : qf_X16_left 20000 s T = some (T 2168 (kuf E (lux G s) (luy G s)) 0) := by
  have ax := rch_axe h
  have hKF : PFL M K F := PFL_p (rch_pls hK h)
  have s_lines := h_lines
  unfold R_lines at s_lines
  obtain ⟨h1, h2, h3, h4, h5⟩ := h
  have axT : AXE E T := ⟨fun i => (hT _ i 0 (by decide) (by decide) (by omega)).trans (ax.1 i), fun i => (hT _ i 0 (by decide) (by decide) (by omega)).trans (ax.2.1 i), (hT _ _ 0 (by decide) (by decide) (by omega)).trans ax.2.2.1, (hT _ _ 0 (by decide) (by decide) (by omega)).trans ax.2.2.2⟩
  have hX := AXS_o h1 axT
  have sd : ∀ b i, (b = 2160 ∨ (2174 ≤ b ∧ b ≤ 2178)) → T b i 0 = G b i 0 := fun b i hb => by
    rw [hT b i 0 (by omega) (by omega) (by omega)]
    exact RFR_side h4.1 b i hb
  have so := sid_o sd
  have os := side_ok h_lines h_ends h_alone hA hKF h3 s0 s1
  have p5 := h3.2.2.2.2.2.2.2.1
  have m5 := h3.2.2.2.1
  have w := (h3.2.2.2.2.2.2.2.2.1 (s / 2) (by omega) (by omega)).2.2
  have eF : (T 2177 (s / 2) 0) = (G 2177 (s / 2) 0) := sd _ _ (Or.inr (by decide))
  have ePx : ∀ i, (T 2174 i 0) = (G 2174 i 0) := fun i => sd _ _ (Or.inr (by decide))
  have ePy : ∀ i, (T 2175 i 0) = (G 2175 i 0) := fun i => sd _ _ (Or.inr (by decide))
  have pa := pt_ax h_lines h_ends hX ((h3.2.2.2.2.1 _ _).mp ⟨(G 2177 (s / 2) 0), w.1, by have := w.2.1; have := w.2.2.1; omega, rfl, rfl⟩)
  have el := left_e (H := T) hX.1 hX.2.1 s0 (by omega) (by rw [so.2.2.1]; exact os.2.2.1) (by rw [so.2.2.1]; have := os.2.2.2.1; omega) (by rw [eF]; exact w.1) (by rw [eF]; have := w.2.1; have := w.2.2.1; omega) (by rw [so.2.2.2.1]; exact os.2.2.2.2.2.2.2.2.1) (by rw [so.2.2.2.1]; exact os.2.2.2.2.2.2.2.2.2.1) (by rw [eF, ePx]; exact pa.1) (by rw [eF, ePy]; exact pa.2)
  have ex : lux T s = lux G s := by
    unfold lux
    rw [so.2.2.2.1, eF, ePx]
  have ey : luy T s = luy G s := by
    unfold luy
    rw [so.2.2.2.1, eF, ePy]
  rw [el, ex, ey, kuf_o axT]
theorem number_r (h_lines : R_lines M K) (h_ends : R_ends M K) (h_alone : R_alone M K) (hA : WAL M A (M 7 0 0)) (hK : PLS K E) (h : RCH M A E F G H (M 7 0 0) m p R stt cnt) (hS : FSP A D0 D q) (hB : CBS M A D (M 7 0 0)) : qW (qf_X16_number 20000 H) (fun r => (∀ b i j, b ≠ 2182 → b ≠ 2168 → ¬ (b = 2157 ∧ i = 17) → r.2 b i j = H b i j) ∧ r.2 2157 17 0 = (D 51 3 0) ∧ ∀ x y, -1 ≤ x → x ≤ 24 → -1 ≤ y → y ≤ 24 → r.2 2168 (kuf E x y) 0 = own D x y) := by
  have hKF : PFL M K F := PFL_p (rch_pls hK h)
  have ax := rch_axe h
  have cl := fun k => rch_cell (k := k) h
  have lf := fun T s (hT : ∀ b i j, b ≠ 2182 → b ≠ 2168 → ¬ (b = 2157 ∧ i = 17) → T b i j = H b i j) (s0 : 0 ≤ s) (s1 : s < 2 * p) => rch_left (T := T) h_lines h_ends h_alone hA hK h hT s0 s1
  obtain ⟨h1, h2, h3, h4, h5⟩ := h
  have room := rng_room h_lines h_ends h_alone hA hKF h3 h4.2.2.2.2.2 h4.2.1
  have p5 := h3.2.2.2.2.2.2.2.1
  have ord := ring_order h_lines h_ends h_alone hA hKF h3 hS hB h4.2.1 h5
  have kb := fun x y => kuf_b (x := x) (y := y) h1
  have lu := fun s (s0 : 0 ≤ s) (s1 : s < 2 * p) => left_u h_lines h_ends h_alone hA hKF h3 hB.2.2.1 s0 s1
  have mt := fun x y x' y' => meet_r (x := x) (y := y) (x' := x') (y' := y') h_ends h1 hA hS h2
  have cr : ∀ k, 0 ≤ k → k < 1764 → 0 ≤ (H 2168 k 0) ∧ (H 2168 k 0) < 1764 := fun k k0 k1 => by
    rw [cl]
    exact h2.2.1 k k0 k1
  have o1 : own D (-1) (-1) = -1 := ext_out (by omega)
  have k1 : kuf E (-1) (-1) = 0 := by
    unfold kuf
    rw [colf_lo h1.1 (by decide), rowf_lo h1.2.1 (by decide)]
    rfl
  have c00 := cr 0 (by decide) (by decide)
  obtain ⟨L0, hL0⟩ : ∃ L0, (H 2168 0 0) = L0 := ⟨_, rfl⟩
  have hL : (H 2168 (kuf E (-1) (-1)) 0) = L0 := by
    rw [k1]
    exact hL0
  have so : ∀ r, 0 ≤ r → r < R → 0 ≤ stt r ∧ stt r < 2 * p := fun r r0 r1 => ⟨(h4.2.1 r r0 r1).1, (h4.2.1 r r0 r1).2.1⟩
  have ow : ∀ s, 0 ≤ s → s < 2 * p → own D (lux G s) (luy G s) = lfs D G s := fun s s0 s1 => (lu s s0 s1).1
  have num := fun T => number_1 (T := T) (R := R) (H := H) (u := fun r => (H 2168 (kuf E (lux G (stt r)) (luy G (stt r))) 0)) (o := fun r => lfs D G (stt r)) (L0 := L0) h4.2.2.2.2.2 (by omega) (fun r r0 r1 => cr _ (kb _ _).1 (kb _ _).2.1) (fun r r0 r1 => lfs_b hB) (fun r t r0 r1 t0 t1 => by
    have a := lu _ (so r r0 r1).1 (so r r0 r1).2
    have b := lu _ (so t t0 t1).1 (so t t0 t1).2
    (try dsimp only)
    rw [cl, cl, ← mt _ _ _ _ a.2.1 a.2.2.1 a.2.2.2.1 a.2.2.2.2 b.2.1 b.2.2.1 b.2.2.2.1 b.2.2.2.2, ow _ (so r r0 r1).1 (so r r0 r1).2, ow _ (so t t0 t1).1 (so t t0 t1).2]) (fun r r0 r1 => by
    have a := lu _ (so r r0 r1).1 (so r r0 r1).2
    (try dsimp only)
    rw [← hL, cl, cl, ← mt _ _ _ _ a.2.1 a.2.2.1 a.2.2.2.1 a.2.2.2.2 (by decide) (by decide) (by decide) (by decide), ow _ (so r r0 r1).1 (so r r0 r1).2, o1]) ord.1 (by omega) (by omega) h4.2.2.2.2.1
  unfold qf_X16_number
  refine qW_bnd ?_
  have e0 : ∀ v, qw H 2157 17 0 v 2168 0 0 = L0 := fun v => (qw_a (by decide)).trans hL0
  rw [e0]
  refine qW_call (Q := fun o => ∃ T, o = .inr ((), T) ∧ (∀ b i j, b ≠ 2182 → ¬ (b = 2157 ∧ i = 17) → T b i j = H b i j) ∧ T 2157 17 0 = 0 ∧ ∀ c, 0 ≤ c → c < 1764 → (T 2182 c 0) = -2) ?_ ?_
  · unfold qf_X16_number_L14
    refine qW_for 1764 (fun i s => ∃ T, s = (L0, i, T) ∧ (∀ b i j, b ≠ 2182 → ¬ (b = 2157 ∧ i = 17) → T b i j = H b i j) ∧ T 2157 17 0 = 0 ∧ ∀ c, 0 ≤ c → c < i → (T 2182 c 0) = -2) ?_ ?_ ⟨_, rfl, fun b i j b1 b2 => by rw [qw_ap, if_neg (by omega)], qw_s, fun c a b => by omega⟩ (by omega) (by omega)
    · rintro i _ i0 i1 ⟨T, rfl, t1, t2, t3⟩
      unfold qf_X16_number_L14_b
      (try dsimp only)
      rw [if_neg (by omega), if_pos ⟨i0, i1⟩, w32_id (x := i + 1) (by omega) (by omega)]
      refine qW_bnd (qW_some ⟨_, rfl, fun b i j b1 b2 => (qw_a b1).trans (t1 b i j b1 b2), (qw_a (by decide)).trans t2, fun c a b => ?_⟩)
      by_cases g : c = i
      · rw [g]
        exact qw_s
      · rw [qw_i g]
        exact t3 c a (by omega)
    · rintro _ ⟨T, rfl, t1, t2, t3⟩
      unfold qf_X16_number_L14_b
      (try dsimp only)
      rw [if_pos (by decide)]
      exact qW_some ⟨T, rfl, t1, t2, t3⟩
  rintro _ ⟨T, rfl, t1, t2, t3⟩
  (try dsimp only)
  rw [if_pos (by omega)]
  refine qW_bnd ?_
  have el : ∀ c, qw T 2182 L0 0 (-1) 2182 c 0 = if c = L0 then -1 else (T 2182 c 0) := fun c => by
    simp only [qw_ap, false_and, true_and, and_true, and_false, and_self, if_false, if_true, reduceIte, Nat.reduceEqDiff, Int.reduceEq]
  refine qW_call (num (qw T 2182 L0 0 (-1)) (fun V i hV i0 i1 => ?_) (fun b i j b1 b2 => (qw_a b1).trans (t1 b i j b1 b2)) ((qw_a (by decide)).trans t2) (fun c c0 c1 => ⟨fun e => by rw [el, if_pos e], fun e => ⟨fun r r0 r1 => by omega, fun _ => by rw [el, if_neg e]; exact t3 c c0 c1⟩⟩)) ?_
  · have es := (hV 2180 i 0 (by decide) (by omega)).trans (h4.2.2.2.1 i i0 i1).1
    rw [es, lf V (stt i) (fun b i j b1 b2 b3 => hV b i j b1 b3) (so i i0 i1).1 (so i i0 i1).2, hV _ _ _ (by decide) (by omega)]
  · rintro _ ⟨V, k, rfl, v1, v2, v3, v4, v5, v6⟩
    (try dsimp only)
    have C5 := SRx_n h1.1
    have R5 := SRy_n h1.2.1
    have vc := (v1 2157 12 0 (by decide) (by omega)).trans ax.2.2.1
    have vr := (v1 2157 13 0 (by decide) (by omega)).trans ax.2.2.2
    have vl : ∀ k, (V 2168 k 0) = (H 2168 k 0) := fun k => v1 _ k 0 (by decide) (by omega)
    refine qW_call (number_2 (T := V) ⟨by rw [vc]; exact h1.1.1, by rw [vc]; exact C5, by rw [vr]; exact h1.2.1.1, by rw [vr]; exact R5⟩ (fun k k0 k1 => by rw [vl]; exact cr k k0 k1)) ?_
    rintro _ ⟨W, rfl, w1, w2⟩
    (try dsimp only)
    refine qW_some ⟨fun b i j b1 b2 b3 => (w1 b i j b2).trans (v1 b i j b1 b3), ?_, fun x y x0 x1 y0 y1 => ?_⟩
    · (try dsimp only)
      rw [w1 _ _ _ (by decide), v2]
      have up := ord.2.2
      have all := ord.2.1
      apply Classical.byContradiction
      intro ne
      rcases Int.lt_or_gt_of_ne ne with z | z
      · obtain ⟨r, r0, r1, r2⟩ := all k v3 z
        have := v5 r r0 r1
        omega
      · obtain ⟨r, r0, r1, r2⟩ := v4 (D 51 3 0) hS.2.2.2.2.2.2.1 z
        have := up r r0 r1
        omega
    · (try dsimp only)
      have ks := kb x y
      have cs := colf_s (x := x) h1.1
      have rs := rowf_s (x := y) h1.2.1
      have q := w2 (rowf E y) (colf E x) rs.1 (by rw [vr]; exact rs.2.1) cs.1 (by rw [vc]; exact cs.2.1)
      have ek : 42 * rowf E y + colf E x = kuf E x y := rfl
      rw [ek, vl] at q
      rw [q]
      have cc := cr (kuf E x y) ks.1 ks.2.1
      have nl := v6 _ cc.1 cc.2
      have mo := fun x' y' a b c d => mt x y x' y' x0 x1 y0 y1 a b c d
      by_cases g : own D x y = -1
      · have e2 : (H 2168 (kuf E x y) 0) = L0 := by
          rw [← hL, cl, cl]
          exact (mo (-1) (-1) (by decide) (by decide) (by decide) (by decide)).mp (g.trans o1.symm)
        rw [nl.1 e2, g]
      · have hne : (H 2168 (kuf E x y) 0) ≠ L0 := fun e2 => by
          rw [← hL, cl, cl] at e2
          exact g (((mo (-1) (-1) (by decide) (by decide) (by decide) (by decide)).mpr e2).trans o1)
        have gi : 0 ≤ x ∧ x < 24 ∧ 0 ≤ y ∧ y < 24 := by
          apply Classical.byContradiction
          intro z
          exact g (ext_out z)
        have eo : own D x y = (D 56 (24 * x + y) 0) := if_pos gi
        have b := hS.2.2.1 (24 * x + y) (by omega) (by omega)
        obtain ⟨r, r0, r1, r2⟩ := ord.2.1 (own D x y) (by omega) (by omega)
        have a := lu _ (so r r0 r1).1 (so r r0 r1).2
        have e3 := (mo _ _ a.2.1 a.2.2.1 a.2.2.2.1 a.2.2.2.2).mp (by rw [ow _ (so r r0 r1).1 (so r r0 r1).2]; exact r2.symm)
        rw [(nl.2 hne).1 r r0 r1 (by (try dsimp only); rw [cl, cl]; exact e3.symm)]
        exact r2
end ND
