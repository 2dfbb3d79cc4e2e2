/-! ===== spaces get their numbers ===== -/
section NB
variable {M K A B C D D0 E F G H T : qm} {n m p k v z l x y w c r i j a b s t L R N f : Int} {q stt cnt : Int → Int}
/-- the spaces in the order of their first rings -/
theorem first_side (h_lines : R_lines M K) (h_ends : R_ends M K) (h_alone : R_alone M K) (hA : WAL M A (M 7 0 0)) (hK : PFL M K F) (hF : FPI M F G m p) (hS : FSP A D0 D q) (t0 : 0 ≤ t) (t1 : t < (D 51 3 0)) : ∃ s, 0 ≤ s ∧ s < 2 * p ∧ sX G s = q t / 24 ∧ sY G s = q t % 24 ∧ sW G s = 0 ∧ lfs D G s = t := by
  obtain ⟨s1, s2, s3, s4, s5, s6, s7, s8⟩ := hS
  obtain ⟨q0, q1, q2, q3, q4⟩ := s5 t t0 t1
  (try dsimp only at q2 q4)
  have cl : CLO A (fun v => (D 56 v 0)) := fun c d c0 c1 d0 d1 hw hc _ => (s2 c d c0 c1 d0 d1 hw).2 hc
  have bo : BOR A (fun v => (D 56 v 0)) := fun c d c0 c1 d0 d1 hc hw => (s2 c d c0 c1 d0 d1 hw).1 hc
  have co := cor_of cl bo q0 q1 (by (try dsimp only); omega) (fun v v0 v1 => by
    have := q4 v v0 v1
    (try dsimp only)
    omega)
  have u3 : wf A 0 (q t / 24) (q t % 24) ≠ -1 := by
    unfold wf
    rw [if_pos rfl, if_neg (by omega), ← wb_3 (A := A) (c := q t)]
    exact co.2
  have u1 : wf A 1 (q t / 24) (q t % 24) ≠ -1 := by
    unfold wf
    rw [if_neg (by decide), if_pos rfl, if_neg (by omega), ← wb_1 (A := A) (c := q t)]
    exact co.1
  obtain ⟨s, a0, a1, a2, a3, a4⟩ := side_ex h_lines h_ends h_alone hA hK hF (x := q t / 24) (y := q t % 24) (w := 0) (by omega) (by omega) (by omega) (by omega) (by decide) (by decide) (Or.inl ⟨Or.inl u3, Or.inl u1⟩) u3
  refine ⟨s, a0, a1, a2, a3, a4, ?_⟩
  unfold lfs
  rw [a2, a3, a4]
  show ext (oF D) (-1) (q t / 24) (q t % 24) = t
  unfold ext
  rw [if_pos (by omega), show 24 * (q t / 24) + q t % 24 = q t by omega]
  exact q2
theorem ring_order (h_lines : R_lines M K) (h_ends : R_ends M K) (h_alone : R_alone M K) (hA : WAL M A (M 7 0 0)) (hK : PFL M K F) (hF : FPI M F G m p) (hS : FSP A D0 D q) (hB : CBS M A D (M 7 0 0)) (h : ∀ r, 0 ≤ r → r < R → RNG (nxs A G p) (2 * p) (skey G) stt cnt r) (hc : ∀ s, 0 ≤ s → s < 2 * p → cov (nxs A G p) stt cnt R s) : (∀ r t, 0 ≤ r → r < R → 0 ≤ t → t < lfs D G (stt r) → ∃ i, 0 ≤ i ∧ i < r ∧ lfs D G (stt i) = t) ∧ (∀ t, 0 ≤ t → t < (D 51 3 0) → ∃ i, 0 ≤ i ∧ i < R ∧ lfs D G (stt i) = t) ∧ ∀ r, 0 ≤ r → r < R → lfs D G (stt r) < (D 51 3 0) := by
  have ring := fun s j => lfs_ring (s := s) (j := j) h_lines h_ends h_alone hA hK hF hB
  have up : ∀ r, 0 ≤ r → r < R → lfs D G (stt r) < (D 51 3 0) := by
    intro r r0 r1
    unfold lfs lfo ext
    split
    · exact (hS.2.2.1 _ (by omega) (by omega)).2
    · have := hS.2.2.2.2.2.2.1
      omega
  have cv : ∀ r s t, cov (nxs A G p) stt cnt r s → r ≤ R → lfs D G s = t → ∃ i, 0 ≤ i ∧ i < r ∧ lfs D G (stt i) = t := by
    rintro r s t ⟨i, j, i0, i1, j0, j1, e⟩ rR hs
    have hi := h i i0 (by omega)
    refine ⟨i, i0, i1, ?_⟩
    rw [← hs, e, ring (stt i) j hi.1 hi.2.1 j0]
  refine ⟨fun r t r0 r1 t0 t1 => ?_, fun t t0 t1 => ?_, up⟩
  · have hr := h r r0 r1
    have ub := up r r0 r1
    obtain ⟨s, a0, a1, a2, a3, a4, a5⟩ := first_side h_lines h_ends h_alone hA hK hF hS t0 (by omega)
    refine cv r s t (hr.2.2.2.1 s a0 a1 ?_) (by omega) a5
    have fi := hS.2.2.2.2.1
    have ft := fi t t0 (by omega)
    have fs := fi (lfs D G (stt r)) (by omega) ub
    have o := side_ok h_lines h_ends h_alone hA hK hF hr.1 hr.2.1
    obtain ⟨_, _, _, _, x0, x1, y0, y1, w0, w1, _⟩ := o
    obtain ⟨V, hV⟩ : ∃ V, lfs D G (stt r) = V := ⟨_, rfl⟩
    have hl := hV
    rw [hV] at t1 fs ub
    unfold lfs lfo ext at hl
    have lt : q t < q V := by
      apply Classical.byContradiction
      intro z
      by_cases e : q t = q V
      · have w1 := ft.2.2.1
        have w2 := fs.2.2.1
        rw [e] at w1
        omega
      · have w := ft.2.2.2.2 (q V) fs.1 (by omega)
        have w2 := fs.2.2.1
        omega
    have cw : sW G (stt r) = 0 ∨ sW G (stt r) = 1 ∨ sW G (stt r) = 2 ∨ sW G (stt r) = 3 := by omega
    unfold skey
    rw [a2, a3, a4]
    by_cases gi : 0 ≤ lfx (sW G (stt r)) (sX G (stt r)) ∧ lfx (sW G (stt r)) (sX G (stt r)) < 24 ∧ 0 ≤ lfy (sW G (stt r)) (sY G (stt r)) ∧ lfy (sW G (stt r)) (sY G (stt r)) < 24
    · rw [if_pos gi] at hl
      have ge : q V ≤ 24 * lfx (sW G (stt r)) (sX G (stt r)) + lfy (sW G (stt r)) (sY G (stt r)) := by
        apply Classical.byContradiction
        intro z
        have w := fs.2.2.2.2 _ (by omega) (by omega : 24 * lfx (sW G (stt r)) (sX G (stt r)) + lfy (sW G (stt r)) (sY G (stt r)) < q V)
        have w2 : (D 56 (24 * lfx (sW G (stt r)) (sX G (stt r)) + lfy (sW G (stt r)) (sY G (stt r))) 0) = V := hl
        (try dsimp only at w)
        omega
      rcases cw with g | g | g | g
      · have u : lfx 0 (sX G (stt r)) = sX G (stt r) := rfl
        have v : lfy 0 (sY G (stt r)) = sY G (stt r) := rfl
        rw [g] at gi ge
        omega
      · have u : lfx 1 (sX G (stt r)) = sX G (stt r) - 1 := rfl
        have v : lfy 1 (sY G (stt r)) = sY G (stt r) := rfl
        rw [g] at gi ge
        omega
      · have u : lfx 2 (sX G (stt r)) = sX G (stt r) - 1 := rfl
        have v : lfy 2 (sY G (stt r)) = sY G (stt r) - 1 := rfl
        rw [g] at gi ge
        omega
      · have u : lfx 3 (sX G (stt r)) = sX G (stt r) := rfl
        have v : lfy 3 (sY G (stt r)) = sY G (stt r) - 1 := rfl
        rw [g] at gi ge
        omega
    · rw [if_neg gi] at hl
      omega
  · obtain ⟨s, a0, a1, a2, a3, a4, a5⟩ := first_side h_lines h_ends h_alone hA hK hF hS t0 t1
    exact cv R s t (hc s a0 a1) (Int.le_refl R) a5
end NB
