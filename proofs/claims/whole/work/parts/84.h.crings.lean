/-! ===== the class's rings ===== -/
section CH
variable {M K A B C E G : qm} {n m p k v z l x y w c r i j a b s t L R N : Int} {stt cnt : Int → Int}
def CFR (B C : qm) : Prop := ∀ b i j, b ≠ 724 → b ≠ 62 → b ≠ 283 → b ≠ 61 → ¬ (b = 51 ∧ (i = 12 ∨ i = 14)) → C b i j = B b i j
/-- what is to the left of a side -/
def lfs (B G : qm) (s : Int) : Int := lfo (oF B) (-1) (sX G s) (sY G s) (sW G s)
/-- a row of the class's table of sides -/
def SDR (B G C : qm) (c s : Int) : Prop := (C 283 c 0) = sL G s ∧ (C 283 c 1) = sX G s ∧ (C 283 c 2) = sY G s ∧ (C 283 c 3) = gx (sW G s) (sX G s) (sN G s) ∧ (C 283 c 4) = gy (sW G s) (sY G s) (sN G s) ∧ (C 283 c 5) = lfo (oF B) (-1) (sX G s) (sY G s) (rgt (sW G s))
theorem noteSide_e (hw : ∀ i j, C 52 i j = A 52 i j) (hc : (C 51 14 0) = c) (c0 : 0 ≤ c) (c1 : c < 440) (x0 : 0 ≤ x) (x1 : x ≤ 24) (y0 : 0 ≤ y) (y1 : y ≤ 24) (w0 : 0 ≤ w) (w1 : w ≤ 3) (hX : 0 ≤ gx w x L ∧ gx w x L ≤ 24) (hY : 0 ≤ gy w y L ∧ gy w y L ≤ 24) (hL : 1 ≤ L ∧ L ≤ 24) : ∃ D, qf_X2_noteSide 20000 x y w L C = some ((), D) ∧ (∀ b i j, b ≠ 283 → ¬ (b = 51 ∧ i = 14) → D b i j = C b i j) ∧ (∀ i j, i ≠ c → D 283 i j = C 283 i j) ∧ (D 51 14 0) = c + 1 ∧ (D 283 c 0) = wf A w x y ∧ (D 283 c 1) = x ∧ (D 283 c 2) = y ∧ (D 283 c 3) = gx w x L ∧ (D 283 c 4) = gy w y L ∧ (D 283 c 5) = lfo (oF C) (-1) x y (rgt w) := by
  have ew := wallFrom_e (A := C) (w := w) x0 x1 y0 y1
  rw [wf_o hw] at ew
  have cw : 0 ≤ w ∧ w < 4 := by omega
  have gX := qT2_g (x := x) (j := L) w0 w1
  have gY := qT3_g (y := y) (j := L) w0 w1
  have c4 : w = 0 ∨ w = 1 ∨ w = 2 ∨ w = 3 := by omega
  have t2 : w32 (L * qT2 w) = L * qT2 w := by
    rcases c4 with rfl | rfl | rfl | rfl
    · show w32 (L * 1) = L * 1
      exact w32_id (by omega) (by omega)
    · show w32 (L * 0) = L * 0
      exact w32_id (by omega) (by omega)
    · show w32 (L * -1) = L * -1
      exact w32_id (by omega) (by omega)
    · show w32 (L * 0) = L * 0
      exact w32_id (by omega) (by omega)
  have t3 : w32 (L * qT3 w) = L * qT3 w := by
    rcases c4 with rfl | rfl | rfl | rfl
    · show w32 (L * 0) = L * 0
      exact w32_id (by omega) (by omega)
    · show w32 (L * 1) = L * 1
      exact w32_id (by omega) (by omega)
    · show w32 (L * 0) = L * 0
      exact w32_id (by omega) (by omega)
    · show w32 (L * -1) = L * -1
      exact w32_id (by omega) (by omega)
  have e : qf_X2_noteSide 20000 x y w L C = some ((), qw (qw (qw (qw (qw (qw (qw C 283 c 0 (wf A w x y)) 283 c 1 x) 283 c 2 y) 283 c 3 (gx w x L)) 283 c 4 (gy w y L)) 283 c 5 (lfo (oF C) (-1) x y (rgt w))) 51 14 0 (c + 1)) := by
    unfold qf_X2_noteSide
    rw [hc, if_neg (by omega), if_pos ⟨c0, c1⟩, t2, t3, gX, gY, w32_id (x := gx w x L) (by omega) (by omega), w32_id (x := gy w y L) (by omega) (by omega)]
    refine qW_e (qW_eq ew ?_)
    refine qW_bnd (qW_bnd (qW_bnd ?_))
    rw [if_pos cw]
    refine qW_bnd ?_
    rw [if_pos cw]
    refine qW_bnd ?_
    have er := rightOf_e (C := qw (qw (qw (qw (qw C 283 c 0 (wf A w x y)) 283 c 1 x) 283 c 2 y) 283 c 3 (gx w x L)) 283 c 4 (gy w y L)) x0 x1 y0 y1 w0 w1
    refine qW_eq er ?_
    refine qW_bnd (qW_bnd ?_)
    have hc' : qw (qw (qw (qw (qw (qw C 283 c 0 (wf A w x y)) 283 c 1 x) 283 c 2 y) 283 c 3 (gx w x L)) 283 c 4 (gy w y L)) 283 c 5 (lfo (oF (qw (qw (qw (qw (qw C 283 c 0 (wf A w x y)) 283 c 1 x) 283 c 2 y) 283 c 3 (gx w x L)) 283 c 4 (gy w y L))) (-1) x y (rgt w)) 51 14 0 = c := by
      rw [qw_a (by decide), qw_a (by decide), qw_a (by decide), qw_a (by decide), qw_a (by decide), qw_a (by decide)]
      exact hc
    rw [hc', w32_id (x := c + 1) (by omega) (by omega)]
    have eo : oF (qw (qw (qw (qw (qw C 283 c 0 (wf A w x y)) 283 c 1 x) 283 c 2 y) 283 c 3 (gx w x L)) 283 c 4 (gy w y L)) = oF C := by
      funext v
      unfold oF
      rw [qw_a (by decide), qw_a (by decide), qw_a (by decide), qw_a (by decide), qw_a (by decide)]
    rw [eo]
    exact qW_some rfl
  refine ⟨_, e, fun b i j b1 b2 => ?_, fun i j hi => ?_, qw_s, ?_, ?_, ?_, ?_, ?_, ?_⟩
  · rw [qw_ap, if_neg (by omega), qw_a b1, qw_a b1, qw_a b1, qw_a b1, qw_a b1, qw_a b1]
  · rw [qw_a (by decide), qw_i hi, qw_i hi, qw_i hi, qw_i hi, qw_i hi, qw_i hi]
  · simp only [qw_ap, false_and, true_and, and_true, and_false, and_self, if_false, if_true, reduceIte, Nat.reduceEqDiff, Int.reduceEq]
  · simp only [qw_ap, false_and, true_and, and_true, and_false, and_self, if_false, if_true, reduceIte, Nat.reduceEqDiff, Int.reduceEq]
  · simp only [qw_ap, false_and, true_and, and_true, and_false, and_self, if_false, if_true, reduceIte, Nat.reduceEqDiff, Int.reduceEq]
  · simp only [qw_ap, false_and, true_and, and_true, and_false, and_self, if_false, if_true, reduceIte, Nat.reduceEqDiff, Int.reduceEq]
  · simp only [qw_ap, false_and, true_and, and_true, and_false, and_self, if_false, if_true, reduceIte, Nat.reduceEqDiff, Int.reduceEq]
  · simp only [qw_ap, false_and, true_and, and_true, and_false, and_self, if_false, if_true, reduceIte, Nat.reduceEqDiff, Int.reduceEq]
theorem sI_mono {f : Int → Int} (a0 : 0 ≤ a) (ab : a ≤ b) (h : ∀ i, a ≤ i → i < b → 0 ≤ f i) : sI f a ≤ sI f b := by
  have q := sI_app (f := f) (a := a) (b := b - a) a0 (by omega)
  rw [show a + (b - a) = b by omega] at q
  have q2 : 0 ≤ sI (fun i => f (a + i)) (b - a) := sI_n (fun i i0 i1 => h _ (by omega) (by omega))
  omega
/-- what the class has walked so far -/
def CRI (A B G C : qm) (p R : Int) (stt cnt : Int → Int) : Prop := CFR B C ∧ (∀ r, 0 ≤ r → r < R → RNG (nxs A G p) (2 * p) (skey G) stt cnt r) ∧ (∀ s, 0 ≤ s → s < 2 * p → (C 724 (skey G s) 0) = b01 (cov (nxs A G p) stt cnt R s)) ∧ (∀ r, 0 ≤ r → r < R → (C 62 r 0) = lfs B G (stt r) ∧ (C 62 r 1) = sI cnt r ∧ (C 62 r 2) = cnt r) ∧ (∀ r j, 0 ≤ r → r < R → 0 ≤ j → j < cnt r → SDR B G C (sI cnt r + j) (stI (nxs A G p) (stt r) j)) ∧ (∀ v, 0 ≤ v → v < 100 → (C 61 v 0) = sI (fun r => b01 (lfs B G (stt r) = v) * sI (fun j => sN G (stI (nxs A G p) (stt r) j)) (cnt r)) R) ∧ (C 51 12 0) = R ∧ (C 51 14 0) = sI cnt R ∧ 0 ≤ R
end CH
