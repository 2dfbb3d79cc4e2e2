/-! ===== the reference's next side ===== -/
section NX
variable {M K A E G H : qm} {n m p k v z l x y w c r i j a b s t L d : Int}
/-- t comes behind s -/
def NXT (A G : qm) (p s t : Int) : Prop := 0 ≤ t ∧ t < 2 * p ∧ sX G t = gx (sW G s) (sX G s) (sN G s) ∧ sY G t = gy (sW G s) (sY G s) (sN G s) ∧ sW G t = tn A (gx (sW G s) (sX G s) (sN G s)) (gy (sW G s) (sY G s) (sN G s)) (sW G s)
theorem side_end (h_lines : R_lines M K) (h_ends : R_ends M K) (h_alone : R_alone M K) (hA : WAL M A (M 7 0 0)) (h : SDE M A G (M 7 0 0) s) : wf A (opp (sW G s)) (gx (sW G s) (sX G s) (sN G s)) (gy (sW G s) (sY G s) (sN G s)) ≠ -1 ∧ 0 ≤ gx (sW G s) (sX G s) (sN G s) ∧ gx (sW G s) (sX G s) (sN G s) ≤ 24 ∧ 0 ≤ gy (sW G s) (sY G s) (sN G s) ∧ gy (sW G s) (sY G s) (sN G s) ≤ 24 ∧ PT M A (M 7 0 0) (gx (sW G s) (sX G s) (sN G s)) (gy (sW G s) (sY G s) (sN G s)) := by
  obtain ⟨⟨L1, L24, Lr, Lw, Lp, LP⟩, hw, l0, l1, x0, x1, y0, y1, w0, w1, _⟩ := h
  have rE := Lr _ (by omega) (Int.le_refl _)
  have r := Lr (sN G s - 1) (by omega) (by omega)
  have q := Lw (sN G s - 1) (by omega) (by omega)
  have g := go_in h_ends hA r.1 r.2.1 r.2.2.1 r.2.2.2 w0 w1 (by rw [q]; omega)
  rw [← gx_s, ← gy_s, show sN G s - 1 + 1 = sN G s by omega] at g
  refine ⟨?_, rE.1, rE.2.1, rE.2.2.1, rE.2.2.2, LP⟩
  rw [g.2.2.2.2.2.2.2, q]
  omega
theorem NXT_ex (h_lines : R_lines M K) (h_ends : R_ends M K) (h_alone : R_alone M K) (hA : WAL M A (M 7 0 0)) (hK : PFL M K E) (h : FPI M E G m p) (s0 : 0 ≤ s) (s1 : s < 2 * p) : ∃ t, NXT A G p s t := by
  have hs := side_ok h_lines h_ends h_alone hA hK h s0 s1
  have se := side_end h_lines h_ends h_alone hA hs
  have tb := tn_b hs.2.2.2.2.2.2.2.2.1 hs.2.2.2.2.2.2.2.2.2.1 se.1
  obtain ⟨t, t0, t1, t2, t3, t4⟩ := side_ex h_lines h_ends h_alone hA hK h se.2.1 se.2.2.1 se.2.2.2.1 se.2.2.2.2.1 tb.1 tb.2.1 se.2.2.2.2.2 tb.2.2
  exact ⟨t, t0, t1, t2, t3, t4⟩
noncomputable def nxs (A G : qm) (p s : Int) : Int := @dite Int (∃ t, NXT A G p s t) (Classical.propDecidable _) (fun h => Classical.choose h) (fun _ => 0)
theorem nxs_s (h_lines : R_lines M K) (h_ends : R_ends M K) (h_alone : R_alone M K) (hA : WAL M A (M 7 0 0)) (hK : PFL M K E) (h : FPI M E G m p) (s0 : 0 ≤ s) (s1 : s < 2 * p) : NXT A G p s (nxs A G p s) := by
  unfold nxs
  rw [dif_pos (NXT_ex h_lines h_ends h_alone hA hK h s0 s1)]
  exact Classical.choose_spec (NXT_ex h_lines h_ends h_alone hA hK h s0 s1)
theorem nxs_e (h_lines : R_lines M K) (h_ends : R_ends M K) (h_alone : R_alone M K) (hA : WAL M A (M 7 0 0)) (hK : PFL M K E) (h : FPI M E G m p) (s0 : 0 ≤ s) (s1 : s < 2 * p) (ht : NXT A G p s t) : nxs A G p s = t := by
  have q := nxs_s h_lines h_ends h_alone hA hK h s0 s1
  exact side_one h_lines h_ends h_alone hA hK h q.1 q.2.1 ht.1 ht.2.1 (q.2.2.1.trans ht.2.2.1.symm) (q.2.2.2.1.trans ht.2.2.2.1.symm) (q.2.2.2.2.trans ht.2.2.2.2.symm)
theorem leaving_e (h_lines : R_lines M K) (h_ends : R_ends M K) (h_alone : R_alone M K) (hA : WAL M A (M 7 0 0)) (hK : PFL M K E) (h : FPI M E G m p) (i0 : 0 ≤ i) (i1 : i < m) (w0 : 0 ≤ w) (w1 : w ≤ 3) : ∃ t, qf_X16_leaving 20000 i w G = some t ∧ ((wf A w (G 2174 i 0) (G 2175 i 0) = -1 ∧ t = -1) ∨ (wf A w (G 2174 i 0) (G 2175 i 0) ≠ -1 ∧ 0 ≤ t ∧ t < 2 * p ∧ sX G t = (G 2174 i 0) ∧ sY G t = (G 2175 i 0) ∧ sW G t = w)) := by
  have s_lines := h_lines
  unfold R_lines at s_lines
  have ok := fun s => side_ok (s := s) h_lines h_ends h_alone hA hK h
  have h' := h
  obtain ⟨f1, f2, f3, f4, f5, f6, f7, f8, f9, f10, f11⟩ := h
  have bi := f2.2.1 i i0 i1
  have q : qW (qf_X16_leaving 20000 i w G) (fun t => (t = -1 ∧ ∀ s, 0 ≤ s → s < 2 * p → ¬ (sF G s = i ∧ sW G s = w)) ∨ (0 ≤ t ∧ t < 2 * p ∧ sF G t = i ∧ sW G t = w)) := by
    unfold qf_X16_leaving
    refine qW_call (Q := fun o => ∃ t, o = .inr t ∧ ((t = -1 ∧ ∀ s, 0 ≤ s → s < 2 * p → ¬ (sF G s = i ∧ sW G s = w)) ∨ (0 ≤ t ∧ t < 2 * p ∧ sF G t = i ∧ sW G t = w))) ?_ ?_
    · unfold qf_X16_leaving_L5
      refine qW_for (2 * p) (fun j s => ∃ t, s = (i, w, t, j) ∧ ((t = -1 ∧ ∀ s, 0 ≤ s → s < j → ¬ (sF G s = i ∧ sW G s = w)) ∨ (0 ≤ t ∧ t < 2 * p ∧ sF G t = i ∧ sW G t = w))) ?_ ?_ ⟨-1, rfl, Or.inl ⟨rfl, fun s a b => by omega⟩⟩ (by omega) (by omega)
      · rintro j _ j0 j1 ⟨t, rfl, ht⟩
        have oj := ok j j0 j1
        have e1 := sF_e (G := G) (s := j) j0 (by omega)
        have e2 := sW_e (G := G) (s := j) j0 (by omega) oj.2.2.1 (by have := oj.2.2.2.1; omega)
        unfold qf_X16_leaving_L5_b qf_X16_leaving_J41
        (try dsimp only)
        rw [f6, w32_id (x := 2 * p) (by omega) (by omega), if_neg (by omega), w32_id (x := j + 1) (by omega) (by omega)]
        refine qW_eq e1 ?_
        have no : ¬ (sF G j = i ∧ sW G j = w) → ∃ u, (i, w, t, j + 1) = (i, w, u, j + 1) ∧ ((u = -1 ∧ ∀ s, 0 ≤ s → s < j + 1 → ¬ (sF G s = i ∧ sW G s = w)) ∨ (0 ≤ u ∧ u < 2 * p ∧ sF G u = i ∧ sW G u = w)) := by
          intro z
          refine ⟨t, rfl, ?_⟩
          rcases ht with ⟨h1, h2⟩ | h1
          · exact Or.inl ⟨h1, all_s h2 z⟩
          · exact Or.inr h1
        (try dsimp only)
        by_cases g1 : sF G j = i
        · rw [if_pos g1]
          refine qW_eq e2 ?_
          (try dsimp only)
          by_cases g2 : sW G j = w
          · rw [if_pos g2]
            exact qW_some ⟨j, rfl, Or.inr ⟨j0, j1, g1, g2⟩⟩
          · rw [if_neg g2]
            exact qW_some (no (fun z => g2 z.2))
        · rw [if_neg g1]
          exact qW_some (no (fun z => g1 z.1))
      · rintro _ ⟨t, rfl, ht⟩
        unfold qf_X16_leaving_L5_b
        (try dsimp only)
        rw [f6, w32_id (x := 2 * p) (by omega) (by omega), if_pos (Int.le_refl _)]
        exact qW_some ⟨t, rfl, ht⟩
    · rintro _ ⟨t, rfl, ht⟩
      exact qW_some ht
  obtain ⟨t, et, ht⟩ := q
  refine ⟨t, et, ?_⟩
  rcases ht with ⟨h1, h2⟩ | ⟨t0, t1, t2, t3⟩
  · refine Or.inl ⟨?_, h1⟩
    apply Classical.byContradiction
    intro z
    have pt : PT M A (M 7 0 0) (G 2174 i 0) (G 2175 i 0) := (PL_PT h_ends hA bi.1 bi.2.1 bi.2.2.1 bi.2.2.2).mp ((f5 _ _).mp ⟨i, i0, i1, rfl, rfl⟩)
    obtain ⟨s, s0, s1, s2, s3, s4⟩ := side_ex h_lines h_ends h_alone hA hK h' bi.1 bi.2.1 bi.2.2.1 bi.2.2.2 w0 w1 pt z
    have os := ok s s0 s1
    refine h2 s s0 s1 ⟨?_, s4⟩
    refine kp_eq f2 os.2.2.2.2.2.2.2.2.2.2.2.2.1 (by have := os.2.2.2.2.2.2.2.2.2.2.2.2.2.1; omega) i0 i1 ?_
    unfold kp
    unfold sX at s2
    unfold sY at s3
    rw [s2, s3]
  · have os := ok t t0 t1
    have ex : sX G t = (G 2174 i 0) := by unfold sX; rw [t2]
    have ey : sY G t = (G 2175 i 0) := by unfold sY; rw [t2]
    refine Or.inr ⟨?_, t0, t1, ex, ey, t3⟩
    rw [← ex, ← ey, ← t3, os.2.1]
    have := os.2.2.1
    omega
theorem next_e (h_lines : R_lines M K) (h_ends : R_ends M K) (h_alone : R_alone M K) (hA : WAL M A (M 7 0 0)) (hK : PFL M K E) (h : FPI M E G m p) (s0 : 0 ≤ s) (s1 : s < 2 * p) : qf_X16_next 20000 s G = some (nxs A G p s) := by
  have s_lines := h_lines
  unfold R_lines at s_lines
  have os := side_ok h_lines h_ends h_alone hA hK h s0 s1
  have p5 := h.2.2.2.2.2.2.2.1
  have em := h.2.2.1
  have se := side_end h_lines h_ends h_alone hA os
  have eT := sT_e (G := G) (s := s) s0 (by omega)
  have eW := sW_e (G := G) (s := s) s0 (by omega) os.2.2.1 (by have := os.2.2.2.1; omega)
  have lv := fun w (w0 : 0 ≤ w) (w1 : w ≤ 3) => leaving_e (i := sT G s) (w := w) h_lines h_ends h_alone hA hK h os.2.2.2.2.2.2.2.2.2.2.2.2.2.2.1 (by have := os.2.2.2.2.2.2.2.2.2.2.2.2.2.2.2; omega) w0 w1
  rw [os.2.2.2.2.2.2.2.2.2.2.1, os.2.2.2.2.2.2.2.2.2.2.2.1] at lv
  have w0 := os.2.2.2.2.2.2.2.2.1
  have w1 := os.2.2.2.2.2.2.2.2.2.1
  obtain ⟨X, hX⟩ : ∃ v, gx (sW G s) (sX G s) (sN G s) = v := ⟨_, rfl⟩
  obtain ⟨Y, hY⟩ : ∃ v, gy (sW G s) (sY G s) (sN G s) = v := ⟨_, rfl⟩
  have fin : ∀ t w, sX G t = X → sY G t = Y → sW G t = w → 0 ≤ t → t < 2 * p → tn A X Y (sW G s) = w → nxs A G p s = t := by
    intro t w t2 t3 t4 t0 t1 e
    refine nxs_e h_lines h_ends h_alone hA hK h s0 s1 ⟨t0, t1, ?_, ?_, ?_⟩
    · rw [hX]
      exact t2
    · rw [hY]
      exact t3
    · rw [hX, hY, e]
      exact t4
  rw [hX, hY] at lv se
  have rl := rgt_lft w0 w1
  obtain ⟨t1, e1, c1⟩ := lv (lft (sW G s)) rl.2.1 rl.2.2.1
  obtain ⟨t2, e2, c2⟩ := lv (sW G s) w0 w1
  obtain ⟨t3, e3, c3⟩ := lv (rgt (sW G s)) rl.2.2.2.1 rl.2.2.2.2.1
  obtain ⟨t4, e4, c4⟩ := lv (opp (sW G s)) rl.2.2.2.2.2.1 rl.2.2.2.2.2.2.1
  have tm : ∀ d, (d = 1 ∨ d = 0 ∨ d = -1 ∨ d = -2) → Int.tmod (w32 (w32 (sW G s + d) + 4)) 4 = if d = 1 then lft (sW G s) else if d = 0 then sW G s else if d = -1 then rgt (sW G s) else opp (sW G s) := by
    intro d hd
    have cw : sW G s = 0 ∨ sW G s = 1 ∨ sW G s = 2 ∨ sW G s = 3 := by omega
    rcases cw with g | g | g | g <;> rw [g] <;> rcases hd with rfl | rfl | rfl | rfl <;> decide
  refine qW_e ?_
  unfold qf_X16_next
  refine qW_call (Q := fun o => o = .inr (nxs A G p s)) ?_ (fun o ho => by rw [ho]; exact qW_some rfl)
  have stop : ∀ d t, 0 ≤ t → nxs A G p s = t → qW (qloop (fun s => qf_X16_next_L4_b 20000 s.1 s.2.1 s.2.2 G) 19990 (s, t, d)) (fun o => o = .inr (nxs A G p s)) := by
    intro d t t0 e
    unfold qloop qf_X16_next_L4_b
    (try dsimp only)
    by_cases g : d ≤ -3
    · rw [if_pos g, e]
      exact qW_some rfl
    · rw [if_neg g, if_pos t0, e]
      exact qW_some rfl
  have step : ∀ (N : Nat) d u, u < 0 → -3 < d → (∀ t, qf_X16_leaving 20000 (sT G s) (Int.tmod (w32 (w32 (sW G s + d) + 4)) 4) G = some t → qW (qloop (fun s => qf_X16_next_L4_b 20000 s.1 s.2.1 s.2.2 G) N (s, t, w32 (d - 1))) (fun o => o = .inr (nxs A G p s))) → (∃ t, qf_X16_leaving 20000 (sT G s) (Int.tmod (w32 (w32 (sW G s + d) + 4)) 4) G = some t) → qW (qloop (fun s => qf_X16_next_L4_b 20000 s.1 s.2.1 s.2.2 G) (N + 1) (s, u, d)) (fun o => o = .inr (nxs A G p s)) := by
    rintro N d u u0 d3 hh ⟨t, ht⟩
    unfold qloop
    have e : qf_X16_next_L4_b 20000 s u d G = some (.inr (s, t, w32 (d - 1))) := by
      refine qW_e ?_
      unfold qf_X16_next_L4_b
      rw [if_neg (by omega), if_neg (by omega)]
      refine qW_eq eT ?_
      refine qW_eq eW ?_
      refine qW_eq ht ?_
      exact qW_some rfl
    (try dsimp only)
    rw [e]
    exact hh t ht
  have stopN : ∀ (N : Nat) d t, 0 ≤ t → nxs A G p s = t → qW (qloop (fun s => qf_X16_next_L4_b 20000 s.1 s.2.1 s.2.2 G) (N + 1) (s, t, d)) (fun o => o = .inr (nxs A G p s)) := by
    intro N d t t0 e
    unfold qloop qf_X16_next_L4_b
    (try dsimp only)
    by_cases g : d ≤ -3
    · rw [if_pos g, e]
      exact qW_some rfl
    · rw [if_neg g, if_pos t0, e]
      exact qW_some rfl
  unfold qf_X16_next_L4
  have q1 := tm 1 (Or.inl rfl)
  have q2 := tm 0 (Or.inr (Or.inl rfl))
  have q3 := tm (-1) (Or.inr (Or.inr (Or.inl rfl)))
  have q4 := tm (-2) (Or.inr (Or.inr (Or.inr rfl)))
  rw [if_pos rfl] at q1
  rw [if_neg (by decide), if_pos rfl] at q2
  rw [if_neg (by decide), if_neg (by decide), if_pos rfl] at q3
  rw [if_neg (by decide), if_neg (by decide), if_neg (by decide)] at q4
  have tdef : tn A X Y (sW G s) = if wf A (lft (sW G s)) X Y ≠ -1 then lft (sW G s) else if wf A (sW G s) X Y ≠ -1 then sW G s else if wf A (rgt (sW G s)) X Y ≠ -1 then rgt (sW G s) else opp (sW G s) := rfl
  refine step 19999 1 (-1) (by decide) (by decide) (fun t ht => ?_) ⟨t1, by rw [q1]; exact e1⟩
  rw [q1, e1] at ht
  cases ht
  rcases c1 with ⟨g1, b1⟩ | ⟨g1, b1⟩
  · rw [if_neg (fun z => z g1)] at tdef
    refine step 19998 0 _ (by omega) (by decide) (fun t ht => ?_) ⟨t2, by rw [q2]; exact e2⟩
    rw [q2, e2] at ht
    cases ht
    rcases c2 with ⟨g2, b2⟩ | ⟨g2, b2⟩
    · rw [if_neg (fun z => z g2)] at tdef
      rw [show w32 (0 - 1) = -1 from rfl]
      refine step 19997 (-1) _ (by omega) (by decide) (fun t ht => ?_) ⟨t3, by rw [q3]; exact e3⟩
      rw [q3, e3] at ht
      cases ht
      rcases c3 with ⟨g3, b3⟩ | ⟨g3, b3⟩
      · rw [if_neg (fun z => z g3)] at tdef
        rw [show w32 (-1 - 1) = -2 from rfl]
        refine step 19996 (-2) _ (by omega) (by decide) (fun t ht => ?_) ⟨t4, by rw [q4]; exact e4⟩
        rw [q4, e4] at ht
        cases ht
        rcases c4 with ⟨g4, b4⟩ | ⟨g4, b4⟩
        · exact absurd g4 se.1
        · exact stopN 19995 _ _ b4.1 (fin _ _ b4.2.2.1 b4.2.2.2.1 b4.2.2.2.2 b4.1 b4.2.1 tdef)
      · rw [if_pos g3] at tdef
        exact stopN 19996 _ _ b3.1 (fin _ _ b3.2.2.1 b3.2.2.2.1 b3.2.2.2.2 b3.1 b3.2.1 tdef)
    · rw [if_pos g2] at tdef
      exact stopN 19997 _ _ b2.1 (fin _ _ b2.2.2.1 b2.2.2.2.1 b2.2.2.2.2 b2.1 b2.2.1 tdef)
  · rw [if_pos g1] at tdef
    exact stopN 19998 _ _ b1.1 (fin _ _ b1.2.2.1 b1.2.2.2.1 b1.2.2.2.2 b1.1 b1.2.1 tdef)
end NX
