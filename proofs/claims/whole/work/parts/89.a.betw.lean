/-! ===== the call between ===== -/
section BW
variable {M K A B C D D0 E F G H T V K0 M0 : qm} {a b c d k n m p r q' s t u v x y h i j R S w x1 x2 L N : Int} {q stt cnt o f : Int → Int} {P : Int → Prop}
theorem opp_s (w0 : 0 ≤ w) (w1 : w ≤ 3) : opp (opp w) = w ∧ 0 ≤ opp w ∧ opp w ≤ 3 ∧ gx (opp w) (gx w x N) j = gx w x (N - j) ∧ gy (opp w) (gy w y N) j = gy w y (N - j) := by
  have c : w = 0 ∨ w = 1 ∨ w = 2 ∨ w = 3 := by omega
  rcases c with rfl | rfl | rfl | rfl
  · refine ⟨rfl, by decide, by decide, ?_, rfl⟩
    show x + N - j = x + (N - j)
    omega
  · refine ⟨rfl, by decide, by decide, rfl, ?_⟩
    show y + N - j = y + (N - j)
    omega
  · refine ⟨rfl, by decide, by decide, ?_, rfl⟩
    show x - N + j = x - (N - j)
    omega
  · refine ⟨rfl, by decide, by decide, rfl, ?_⟩
    show y - N + j = y - (N - j)
    omega
/-- a wall is of one piece -/
theorem unit_piece (h : FNW M K M0 K0 A D0 D E F G H C q m p R stt cnt) (x0 : 0 ≤ x) (x1 : x ≤ 24) (y0 : 0 ≤ y) (y1 : y ≤ 24) (d0 : 0 ≤ d) (d1 : d ≤ 1) (hn : wf A d x y ≠ -1) : ∃ s j, 0 ≤ s ∧ s < p ∧ sW G (2 * s) = d ∧ 0 ≤ j ∧ j < sN G (2 * s) ∧ gx d (sX G (2 * s)) j = x ∧ gy d (sY G (2 * s)) j = y := by
  have fp := fnw_fpi h
  obtain ⟨h1, h2, h3, h4, _⟩ := h.1
  have d3 : d ≤ 3 := by omega
  have gi := go_in h2 h4 x0 x1 y0 y1 d0 d3 hn
  have op := opp_s (x := x) (y := y) (N := 1) (j := 0) d0 d3
  obtain ⟨X, hX⟩ : ∃ X, gx d x 1 = X := ⟨_, rfl⟩
  obtain ⟨Y, hY⟩ : ∃ Y, gy d y 1 = Y := ⟨_, rfl⟩
  rw [hX, hY] at gi
  have hb : wf A (opp d) X Y ≠ -1 := by
    rw [gi.2.2.2.2.2.2.2]
    omega
  obtain ⟨L, hL⟩ := PCE_ex h2 h3 h4 gi.2.2.2.1 gi.2.2.2.2.1 gi.2.2.2.2.2.1 gi.2.2.2.2.2.2.1 op.2.1 op.2.2.1 hb
  obtain ⟨L1, L24, Lr, Lw, Lp, LP⟩ := hL
  have rE := Lr L (by omega) (Int.le_refl L)
  have rB := Lr (L - 1) (by omega) (by omega)
  have wB := Lw (L - 1) (by omega) (by omega)
  have gb := go_in h2 h4 rB.1 rB.2.1 rB.2.2.1 rB.2.2.2 op.2.1 op.2.2.1 (by rw [wB]; exact hb)
  rw [← gx_s, ← gy_s, show L - 1 + 1 = L by omega, op.1] at gb
  have wP : wf A d (gx (opp d) X L) (gy (opp d) Y L) ≠ -1 := by
    rw [gb.2.2.2.2.2.2.2, wB]
    exact hb
  have ex : ∀ i, gx (opp d) X i = gx d x (1 - i) := fun i => by rw [← hX]; exact (opp_s (x := x) (y := y) (N := 1) (j := i) d0 d3).2.2.2.1
  have ey : ∀ i, gy (opp d) Y i = gy d y (1 - i) := fun i => by rw [← hY]; exact (opp_s (x := x) (y := y) (N := 1) (j := i) d0 d3).2.2.2.2
  obtain ⟨s, s0, s1, s2, s3, s4⟩ := side_ex h1 h2 h3 h4 fp.2.2 fp.2.1 rE.1 rE.2.1 rE.2.2.1 rE.2.2.2 d0 d3 LP wP
  have ok := (fnw_ok h s0 s1).1
  have par : s % 2 = 0 := by
    unfold sW at s4
    split at s4 <;> omega
  have e2 : 2 * (s / 2) = s := by omega
  have pos : ∀ i, gx d (sX G s) i = gx d x (1 - L + i) ∧ gy d (sY G s) i = gy d y (1 - L + i) := fun i => by
    rw [s2, s3, ex, ey]
    have c : d = 0 ∨ d = 1 := by omega
    rcases c with rfl | rfl
    · refine ⟨?_, rfl⟩
      show x + (1 - L) + i = x + (1 - L + i)
      omega
    · refine ⟨rfl, ?_⟩
      show y + (1 - L) + i = y + (1 - L + i)
      omega
  have lt : L - 1 < sN G s := by
    apply Classical.byContradiction
    intro z
    have pe := ok.1.2.2.2.2.2
    have n1 := ok.1.1
    rw [s4, (pos _).1, (pos _).2] at pe
    have no := Lp (L - sN G s) (by omega) (by omega)
    rw [ex, ey, show 1 - (L - sN G s) = 1 - L + sN G s by omega] at no
    exact no pe
  refine ⟨s / 2, L - 1, by omega, by omega, by rw [e2]; exact s4, by omega, by rw [e2]; exact lt, ?_, ?_⟩
  · rw [e2, (pos _).1, show 1 - L + (L - 1) = 0 by omega, gx_0]
  · rw [e2, (pos _).2, show 1 - L + (L - 1) = 0 by omega, gy_0]
/-- and of no other -/
theorem unit_one (h : FNW M K M0 K0 A D0 D E F G H C q m p R stt cnt) (s0 : 0 ≤ s) (s1 : s < p) (t0 : 0 ≤ t) (t1 : t < p) (ws : sW G (2 * s) = d) (wt : sW G (2 * t) = d) (i0 : 0 ≤ i) (i1 : i < sN G (2 * s)) (j0 : 0 ≤ j) (j1 : j < sN G (2 * t)) (ex : gx d (sX G (2 * s)) i = gx d (sX G (2 * t)) j) (ey : gy d (sY G (2 * s)) i = gy d (sY G (2 * t)) j) : s = t ∧ i = j := by
  have fp := fnw_fpi h
  have os := (fnw_ok h (by omega : 0 ≤ 2 * s) (by omega)).1
  have ot := (fnw_ok h (by omega : 0 ≤ 2 * t) (by omega)).1
  have ps := side_pt h.1.1 h.1.2.1 h.1.2.2.1 h.1.2.2.2.1 fp.2.2 fp.2.1 (by omega : 0 ≤ 2 * s) (by omega)
  have pt := side_pt h.1.1 h.1.2.1 h.1.2.2.1 h.1.2.2.2.1 fp.2.2 fp.2.1 (by omega : 0 ≤ 2 * t) (by omega)
  have w0 := os.2.2.2.2.2.2.2.2.1
  have w1 := os.2.2.2.2.2.2.2.2.2.1
  rw [ws] at w0 w1
  have sh : ∀ x y i j, gx d x i = gx d y j → x = gx d y (j - i) := fun x y i j e => by
    unfold gx at e ⊢
    split at e <;> (try split at e) <;> (try split) <;> (try split) <;> omega
  have sh2 : ∀ x y i j, gy d x i = gy d y j → x = gy d y (j - i) := fun x y i j e => by
    unfold gy at e ⊢
    split at e <;> (try split at e) <;> (try split) <;> (try split) <;> omega
  have eij : i = j := by
    rcases Int.lt_trichotomy i j with g | g | g
    · exfalso
      have no := ot.1.2.2.2.2.1 (j - i) (by omega) (by omega)
      rw [wt, ← sh _ _ _ _ ex, ← sh2 _ _ _ _ ey] at no
      exact no ps
    · exact g
    · exfalso
      have no := os.1.2.2.2.2.1 (i - j) (by omega) (by omega)
      rw [ws, ← sh _ _ _ _ ex.symm, ← sh2 _ _ _ _ ey.symm] at no
      exact no pt
  refine ⟨?_, eij⟩
  rw [eij] at ex ey
  have e1 := sh _ _ _ _ ex
  have e2 := sh2 _ _ _ _ ey
  rw [Int.sub_self, gx_0] at e1
  rw [Int.sub_self, gy_0] at e2
  have := side_one h.1.1 h.1.2.1 h.1.2.2.1 h.1.2.2.2.1 fp.2.2 fp.2.1 (by omega : 0 ≤ 2 * s) (by omega) (by omega : 0 ≤ 2 * t) (by omega) e1 e2 (ws.trans wt.symm)
  omega
/-- what is beside a unit of a piece -/
theorem unit_lr (h : FNW M K M0 K0 A D0 D E F G H C q m p R stt cnt) (s0 : 0 ≤ s) (s1 : s < p) (i0 : 0 ≤ i) (i1 : i < sN G (2 * s)) : lfo (oF D) (-1) (gx (sW G (2 * s)) (sX G (2 * s)) i) (gy (sW G (2 * s)) (sY G (2 * s)) i) (sW G (2 * s)) = lfs D G (2 * s) ∧ lfo (oF D) (-1) (gx (sW G (2 * s)) (sX G (2 * s)) i) (gy (sW G (2 * s)) (sY G (2 * s)) i) (rgt (sW G (2 * s))) = lfs D G (2 * s + 1) := by
  have fp := fnw_fpi h
  have o1 := (fnw_ok h (by omega : 0 ≤ 2 * s) (by omega)).1
  have o2 := (fnw_ok h (by omega : 0 ≤ 2 * s + 1) (by omega)).1
  have hB := h.1.2.2.2.2.2.2.2.2.1
  have f := flp_s (G := G) (p := p) (by omega : 0 ≤ 2 * s)
  have ef : flp (2 * s) = 2 * s + 1 := by unfold flp; rw [if_pos (by omega)]
  have wf2 := flp_w (G := G) (by omega : 0 ≤ 2 * s)
  rw [ef] at f wf2
  have w0 := o1.2.2.2.2.2.2.2.2.1
  have w1 := o1.2.2.2.2.2.2.2.2.2.1
  have op := fun N j => opp_s (x := sX G (2 * s)) (y := sY G (2 * s)) (N := N) (j := j) w0 w1
  have lp1 := lfo_p h.1.2.1 h.1.2.2.1 h.1.2.2.2.1 hB.2.2.1 w0 w1 o1.1 (by rw [o1.2.1]; have := o1.2.2.1; omega)
  have lp2 := lfo_p h.1.2.1 h.1.2.2.1 h.1.2.2.2.1 hB.2.2.1 o2.2.2.2.2.2.2.2.2.1 o2.2.2.2.2.2.2.2.2.2.1 o2.1 (by rw [o2.2.1]; have := o2.2.2.1; omega)
  refine ⟨lp1.1 i i0 i1, ?_⟩
  have eX : sX G (2 * s + 1) = gx (sW G (2 * s)) (sX G (2 * s)) (sN G (2 * s)) := by
    rw [← o1.2.2.2.2.2.2.2.2.2.2.1]
    unfold sX
    rw [f.2.2.2.2.1]
  have eY : sY G (2 * s + 1) = gy (sW G (2 * s)) (sY G (2 * s)) (sN G (2 * s)) := by
    rw [← o1.2.2.2.2.2.2.2.2.2.2.2.1]
    unfold sY
    rw [f.2.2.2.2.1]
  have g := lp2.1 (sN G (2 * s) - 1 - i) (by omega) (by rw [f.2.2.2.2.2.2.2]; omega)
  have lg := lfo_g (F := oF D) (f := -1) (x := gx (sW G (2 * s + 1)) (sX G (2 * s + 1)) (sN G (2 * s) - 1 - i)) (y := gy (sW G (2 * s + 1)) (sY G (2 * s + 1)) (sN G (2 * s) - 1 - i)) o2.2.2.2.2.2.2.2.2.1 o2.2.2.2.2.2.2.2.2.2.1
  rw [← gx_s, ← gy_s, show sN G (2 * s) - 1 - i + 1 = sN G (2 * s) - i by omega, g, wf2, eX, eY, (op _ _).2.2.2.1, (op _ _).2.2.2.2, show sN G (2 * s) - (sN G (2 * s) - i) = i by omega, (rgt_lft w0 w1).2.2.2.2.2.2.2.2] at lg
  unfold lfs
  rw [lg, wf2, eX, eY]
end BW
