/-! ===== the class's functions of a ring ===== -/
section CG
variable {M K A B C E G : qm} {n m p k v z l x y w c r i j a b s t L R N : Int}
theorem qloop_r {σ ρ : Type} {f : σ → Option (ρ ⊕ σ)} {s : σ} {r : ρ} {N : Nat} (e : f s = some (.inl r)) : qloop f (N + 1) s = some r := by
  unfold qloop
  rw [e]
theorem qloop_n {σ ρ : Type} {f : σ → Option (ρ ⊕ σ)} {s s' : σ} {N : Nat} (e : f s = some (.inr s')) : qloop f (N + 1) s = qloop f N s' := by
  conv => lhs; unfold qloop
  rw [e]
def oF (C : qm) : Int → Int := fun v => (C 56 v 0)
theorem spaceAt_e (x0 : -1 ≤ x) (x1 : x ≤ 24) (y0 : -1 ≤ y) (y1 : y ≤ 24) : qf_X2_spaceAt 20000 x y C = some (ext (oF C) (-1) x y) := by
  unfold qf_X2_spaceAt ext oF
  by_cases g1 : x < 0
  · rw [if_pos g1, if_neg (by omega)]
  · rw [if_neg g1]
    by_cases g2 : 24 ≤ x
    · rw [if_pos g2, if_neg (by omega)]
    · rw [if_neg g2]
      by_cases g3 : y < 0
      · rw [if_pos g3, if_neg (by omega)]
      · rw [if_neg g3]
        by_cases g4 : 24 ≤ y
        · rw [if_pos g4, if_neg (by omega)]
        · rw [if_neg g4, if_pos (show 0 ≤ x ∧ x < 24 ∧ 0 ≤ y ∧ y < 24 by omega), w32_id (x := x * 24) (by omega) (by omega), w32_id (x := x * 24 + y) (by omega) (by omega), if_pos (by omega), show x * 24 + y = 24 * x + y by omega]
theorem leftOf_e (x0 : 0 ≤ x) (x1 : x ≤ 24) (y0 : 0 ≤ y) (y1 : y ≤ 24) (w0 : 0 ≤ w) (w1 : w ≤ 3) : qf_X2_leftOf 20000 x y w C = some (lfo (oF C) (-1) x y w) := by
  have c : w = 0 ∨ w = 1 ∨ w = 2 ∨ w = 3 := by omega
  have s1 := w32_id (x := x - 1) (by omega) (by omega)
  have s2 := w32_id (x := y - 1) (by omega) (by omega)
  unfold qf_X2_leftOf qf_X2_leftOf_J11 qf_X2_leftOf_J18 lfo
  refine qW_e ?_
  rcases c with rfl | rfl | rfl | rfl
  · rw [if_neg (by decide), if_neg (by decide), if_pos (by decide)]
    exact qW_eq (spaceAt_e (by omega) x1 (by omega) y1) (qW_some rfl)
  · rw [if_pos rfl, if_pos (by decide), s1]
    exact qW_eq (spaceAt_e (by omega) (by omega) (by omega) y1) (qW_some rfl)
  · rw [if_neg (by decide), if_pos rfl, if_neg (by decide), s1, s2]
    exact qW_eq (spaceAt_e (by omega) (by omega) (by omega) (by omega)) (qW_some rfl)
  · rw [if_neg (by decide), if_neg (by decide), if_neg (by decide), s2]
    exact qW_eq (spaceAt_e (by omega) x1 (by omega) (by omega)) (qW_some rfl)
theorem rightOf_e (x0 : 0 ≤ x) (x1 : x ≤ 24) (y0 : 0 ≤ y) (y1 : y ≤ 24) (w0 : 0 ≤ w) (w1 : w ≤ 3) : qf_X2_rightOf 20000 x y w C = some (lfo (oF C) (-1) x y (rgt w)) := by
  have c : w = 0 ∨ w = 1 ∨ w = 2 ∨ w = 3 := by omega
  have s1 := w32_id (x := x - 1) (by omega) (by omega)
  have s2 := w32_id (x := y - 1) (by omega) (by omega)
  unfold qf_X2_rightOf qf_X2_rightOf_J13 qf_X2_rightOf_J22 lfo
  refine qW_e ?_
  rcases c with rfl | rfl | rfl | rfl
  · rw [if_pos (by decide), if_pos rfl, s2]
    exact qW_eq (spaceAt_e (by omega) x1 (by omega) (by omega)) (qW_some rfl)
  · rw [if_pos (by decide), if_neg (by decide), if_neg (by decide)]
    exact qW_eq (spaceAt_e (by omega) x1 (by omega) y1) (qW_some rfl)
  · rw [if_neg (by decide), if_neg (by decide), if_neg (by decide), s1]
    exact qW_eq (spaceAt_e (by omega) (by omega) (by omega) y1) (qW_some rfl)
  · rw [if_neg (by decide), if_neg (by decide), if_pos rfl, s1, s2]
    exact qW_eq (spaceAt_e (by omega) (by omega) (by omega) (by omega)) (qW_some rfl)
theorem pieceLength_e (hw : ∀ i j, C 52 i j = A 52 i j) (hp : ∀ x y, 0 ≤ x → x ≤ 24 → 0 ≤ y → y ≤ 24 → (C 55 (25 * x + y) 0) = b01 (PT M A n x y)) (w0 : 0 ≤ w) (w1 : w ≤ 3) (hP : PCE M A n x y w L) (hn : wf A w x y ≠ -1) : qf_X2_pieceLength 20000 x y w C = some L := by
  obtain ⟨L1, L24, Lr, Lw, Lp, LP⟩ := hP
  have cw : 0 ≤ w ∧ w < 4 := by omega
  refine qW_e ?_
  unfold qf_X2_pieceLength
  refine qW_call (Q := fun o => o = .inl L ∨ o = .inr L) ?_ (fun o ho => by
    rcases ho with e | e <;> rw [e] <;> exact qW_some rfl)
  unfold qf_X2_pieceLength_L6
  have one : ∀ i, 0 ≤ i → i < L → i + 1 < 24 → qf_X2_pieceLength_L6_b 20000 (gx w x i) (gy w y i) w (i + 1) (i + 1) C = some (if b01 (PT M A n (gx w x (i + 1)) (gy w y (i + 1))) = 0 then .inr (gx w x (i + 1), gy w y (i + 1), w, i + 1 + 1, i + 1 + 1) else .inl (.inl (i + 1))) := by
    intro i i0 i1 i2
    have r := Lr i i0 (by omega)
    have r2 := Lr (i + 1) (by omega) (by omega)
    have ew := wallFrom_e (A := C) (w := w) r.1 r.2.1 r.2.2.1 r.2.2.2
    rw [wf_o hw, Lw i i0 i1] at ew
    have gX := qT2_g (x := gx w x i) (j := 1) w0 w1
    have gY := qT3_g (y := gy w y i) (j := 1) w0 w1
    rw [Int.one_mul, ← gx_s] at gX
    rw [Int.one_mul, ← gy_s] at gY
    unfold qf_X2_pieceLength_L6_b
    rw [if_neg (by omega), gX, gY, w32_id (x := gx w x (i + 1)) (by omega) (by omega), w32_id (x := gy w y (i + 1)) (by omega) (by omega), w32_id (x := gx w x (i + 1) * 25) (by omega) (by omega), w32_id (x := gx w x (i + 1) * 25 + gy w y (i + 1)) (by omega) (by omega), show gx w x (i + 1) * 25 + gy w y (i + 1) = 25 * gx w x (i + 1) + gy w y (i + 1) by omega, hp _ _ r2.1 r2.2.1 r2.2.2.1 r2.2.2.2, w32_id (x := i + 1 + 1) (by omega) (by omega)]
    refine qW_e (qW_eq ew ?_)
    rw [if_neg hn, if_pos cw, if_pos cw, if_pos (by omega)]
    split
    · exact qW_some rfl
    · exact qW_some rfl
  refine qW_for (L - 1) (fun i s => s = (gx w x i, gy w y i, w, i + 1, i + 1)) ?_ ?_ ?_ (by omega) (by omega)
  · rintro i _ i0 i1 rfl
    have o := one i i0 (by omega) (by omega)
    rw [b01_f (Lp (i + 1) (by omega) (by omega)), if_pos rfl] at o
    exact ⟨_, o, rfl⟩
  · rintro _ rfl
    (try dsimp only)
    by_cases g : L = 24
    · rw [g]
      unfold qf_X2_pieceLength_L6_b
      rw [if_pos (by decide)]
      exact qW_some (Or.inr rfl)
    · have o := one (L - 1) (by omega) (by omega) (by omega)
      rw [show L - 1 + 1 = L by omega] at o ⊢
      rw [b01_t LP, if_neg (by decide)] at o
      exact ⟨_, o, Or.inl rfl⟩
  · rw [gx_0, gy_0]
    rfl
theorem turnAt_e (hw : ∀ i j, C 52 i j = A 52 i j) (x0 : 0 ≤ x) (x1 : x ≤ 24) (y0 : 0 ≤ y) (y1 : y ≤ 24) (w0 : 0 ≤ w) (w1 : w ≤ 3) (hb : wf A (opp w) x y ≠ -1) : qf_X2_turnAt 20000 x y w C = some (tn A x y w) := by
  have ew := fun d => wallFrom_e (A := C) (w := d) x0 x1 y0 y1
  have tm : ∀ k, (k = 0 ∨ k = 1 ∨ k = 2 ∨ k = 3) → Int.tmod (w32 (w + qT4 k)) 4 = if k = 0 then lft w else if k = 1 then w else if k = 2 then rgt w else opp w := by
    intro k hk
    have cw : w = 0 ∨ w = 1 ∨ w = 2 ∨ w = 3 := by omega
    rcases cw with rfl | rfl | rfl | rfl <;> rcases hk with rfl | rfl | rfl | rfl <;> decide
  have q0 := tm 0 (Or.inl rfl)
  have q1 := tm 1 (Or.inr (Or.inl rfl))
  have q2 := tm 2 (Or.inr (Or.inr (Or.inl rfl)))
  have q3 := tm 3 (Or.inr (Or.inr (Or.inr rfl)))
  rw [if_pos rfl] at q0
  rw [if_neg (by decide), if_pos rfl] at q1
  rw [if_neg (by decide), if_neg (by decide), if_pos rfl] at q2
  rw [if_neg (by decide), if_neg (by decide), if_neg (by decide)] at q3
  have body : ∀ k d, 0 ≤ k → k < 4 → Int.tmod (w32 (w + qT4 k)) 4 = d → qf_X2_turnAt_L3_b 20000 x y w k C = some (if wf A d x y = -1 then .inr (x, y, w, w32 (k + 1)) else .inl (.inl d)) := by
    intro k d k0 k1 e
    have w1 := ew d
    rw [wf_o hw] at w1
    unfold qf_X2_turnAt_L3_b
    rw [if_neg (by omega), if_pos ⟨k0, k1⟩, e]
    refine qW_e (qW_eq w1 ?_)
    split
    · exact qW_some rfl
    · exact qW_some rfl
  refine qW_e ?_
  unfold qf_X2_turnAt
  refine qW_call (Q := fun o => o = .inl (tn A x y w)) ?_ (fun o ho => by rw [ho]; exact qW_some rfl)
  unfold qf_X2_turnAt_L3 tn
  have b0 := body 0 _ (by decide) (by decide) q0
  have b1 := body 1 _ (by decide) (by decide) q1
  have b2 := body 2 _ (by decide) (by decide) q2
  have b3 := body 3 _ (by decide) (by decide) q3
  rw [show w32 (0 + 1) = 1 from rfl] at b0
  rw [show w32 (1 + 1) = 2 from rfl] at b1
  rw [show w32 (2 + 1) = 3 from rfl] at b2
  by_cases g0 : wf A (lft w) x y = -1
  · rw [if_pos g0] at b0
    rw [if_neg (fun z => z g0), qloop_n (N := 19999) b0]
    by_cases g1 : wf A w x y = -1
    · rw [if_pos g1] at b1
      rw [if_neg (fun z => z g1), qloop_n (N := 19998) b1]
      by_cases g2 : wf A (rgt w) x y = -1
      · rw [if_pos g2] at b2
        rw [if_neg (fun z => z g2), qloop_n (N := 19997) b2]
        rw [if_neg hb] at b3
        rw [qloop_r (N := 19996) b3]
        exact qW_some rfl
      · rw [if_neg g2] at b2
        rw [if_pos g2, qloop_r (N := 19997) b2]
        exact qW_some rfl
    · rw [if_neg g1] at b1
      rw [if_pos g1, qloop_r (N := 19998) b1]
      exact qW_some rfl
  · rw [if_neg g0] at b0
    rw [if_pos g0, qloop_r (N := 19999) b0]
    exact qW_some rfl
end CG
