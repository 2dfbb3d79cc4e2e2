/-! ===== the reference's left ===== -/
section RL
variable {M K A B C D E F' G H : qm} {n m p k v z l x y w c r i j a b s t L R N f : Int} {F : Int → Int}
def lux (G : qm) (s : Int) : Int := if sW G s = 1 then (G 2174 (G 2177 (s / 2) 0) 0) - 1 else (G 2174 (G 2177 (s / 2) 0) 0)
def luy (G : qm) (s : Int) : Int := if sW G s = 2 then (G 2175 (G 2177 (s / 2) 0) 0) - 1 else (G 2175 (G 2177 (s / 2) 0) 0)
/-- columns and rows hold the points -/
def AXP (M E : qm) (n : Int) : Prop := AXS M E n
theorem pt_ax (h_lines : R_lines M K) (h_ends : R_ends M K) (hX : AXS M E (M 7 0 0)) (h : PL M (M 7 0 0) (M 7 0 0) x y) : (∃ j, 0 ≤ j ∧ j < (E 2157 12 0) ∧ (E 2166 j 0) = x) ∧ ∃ j, 0 ≤ j ∧ j < (E 2157 13 0) ∧ (E 2167 j 0) = y := by
  obtain ⟨l, l0, l1, (⟨e1, e2⟩ | ⟨e1, e2⟩) | ⟨b, b0, b1, _, _, e1, e2, _, _⟩⟩ := h
  · exact ⟨(hX.2.2.1 x).mpr ⟨l, l0, l1, Or.inl e1⟩, (hX.2.2.2 y).mpr ⟨l, l0, l1, Or.inl e2⟩⟩
  · exact ⟨(hX.2.2.1 x).mpr ⟨l, l0, l1, Or.inr e1⟩, (hX.2.2.2 y).mpr ⟨l, l0, l1, Or.inr e2⟩⟩
  · exact ⟨(hX.2.2.1 x).mpr ⟨b, b0, b1, Or.inl e1⟩, (hX.2.2.2 y).mpr ⟨l, l0, l1, Or.inl e2⟩⟩
theorem indexX_e (h : SRx H n) (n5 : n ≤ 25) (j0 : 0 ≤ j) (j1 : j < n) (e : (H 2166 j 0) = v) : qf_X16_indexOf 20000 v H = some j := by
  refine qW_e ?_
  unfold qf_X16_indexOf
  refine qW_call (Q := fun o => o = .inr j) ?_ (fun o ho => by rw [ho]; exact qW_some rfl)
  unfold qf_X16_indexOf_L2
  refine qW_for j (fun i s => s = (v, i)) ?_ ?_ rfl j0 (by omega)
  · rintro i _ i0 i1 rfl
    unfold qf_X16_indexOf_L2_b
    have := h.2.1 i j i0 i1 j1
    (try dsimp only)
    rw [if_pos (by omega), if_neg (by omega), w32_id (x := i + 1) (by omega) (by omega)]
    exact qW_some rfl
  · rintro _ rfl
    unfold qf_X16_indexOf_L2_b
    (try dsimp only)
    rw [if_pos (by omega), if_pos e]
    exact qW_some rfl
theorem indexY_e (h : SRy H n) (n5 : n ≤ 25) (j0 : 0 ≤ j) (j1 : j < n) (e : (H 2167 j 0) = v) : qf_X16_indexOf_s1 20000 v H = some j := by
  refine qW_e ?_
  unfold qf_X16_indexOf_s1
  refine qW_call (Q := fun o => o = .inr j) ?_ (fun o ho => by rw [ho]; exact qW_some rfl)
  unfold qf_X16_indexOf_L2_s1
  refine qW_for j (fun i s => s = (v, i)) ?_ ?_ rfl j0 (by omega)
  · rintro i _ i0 i1 rfl
    unfold qf_X16_indexOf_L2_s1_b
    have := h.2.1 i j i0 i1 j1
    (try dsimp only)
    rw [if_pos (by omega), if_neg (by omega), w32_id (x := i + 1) (by omega) (by omega)]
    exact qW_some rfl
  · rintro _ rfl
    unfold qf_X16_indexOf_L2_s1_b
    (try dsimp only)
    rw [if_pos (by omega), if_pos e]
    exact qW_some rfl
/-- the cell that the reference looks at -/
theorem left_e (hx : SRx H (H 2157 12 0)) (hy : SRy H (H 2157 13 0)) (s0 : 0 ≤ s) (s1 : s < 440) (l0 : 0 ≤ sL H s) (l1 : sL H s < 20) (a0 : 0 ≤ (H 2177 (s / 2) 0)) (a1 : (H 2177 (s / 2) 0) < 460) (w0 : 0 ≤ sW H s) (w1 : sW H s ≤ 3) (mx : ∃ j, 0 ≤ j ∧ j < (H 2157 12 0) ∧ (H 2166 j 0) = (H 2174 (H 2177 (s / 2) 0) 0)) (my : ∃ j, 0 ≤ j ∧ j < (H 2157 13 0) ∧ (H 2167 j 0) = (H 2175 (H 2177 (s / 2) 0) 0)) : qf_X16_left 20000 s H = some (H 2168 (kuf H (lux H s) (luy H s)) 0) := by
  obtain ⟨c, c0, c1, ec⟩ := mx
  obtain ⟨r, r0, r1, er⟩ := my
  have C5 := SRx_n hx
  have R5 := SRy_n hy
  have qx := colf_hit hx c0 c1 ec
  have qy := rowf_hit hy r0 r1 er
  have ix := indexX_e hx C5 c0 c1 ec
  have iy := indexY_e hy R5 r0 r1 er
  have eW := sW_e (G := H) s0 (by omega) l0 l1
  have td : Int.tdiv s 2 = s / 2 := Int.tdiv_eq_ediv_of_nonneg s0
  refine qW_e ?_
  unfold qf_X16_left
  rw [td, if_pos (by omega), if_pos ⟨a0, a1⟩]
  refine qW_eq ix ?_
  (try dsimp only)
  rw [if_pos ⟨a0, a1⟩]
  refine qW_eq iy ?_
  refine qW_eq eW ?_
  (try dsimp only)
  rw [w32_id (x := r + 1) (by omega) (by omega), w32_id (x := 42 * (r + 1)) (by omega) (by omega), w32_id (x := 42 * (r + 1) + c) (by omega) (by omega), w32_id (x := 42 * (r + 1) + c + 1) (by omega) (by omega), w32_id (x := 42 * r) (by omega) (by omega), w32_id (x := 42 * r + c) (by omega) (by omega), w32_id (x := 42 * r + c + 1) (by omega) (by omega)]
  have cw : sW H s = 0 ∨ sW H s = 1 ∨ sW H s = 2 ∨ sW H s = 3 := by omega
  unfold kuf lux luy
  rcases cw with g | g | g | g
  · rw [g, if_pos rfl, if_pos (by omega), if_neg (by decide), if_neg (by decide), qx.1, qy.1]
    exact qW_some (by rw [show 42 * (r + 1) + c + 1 = 42 * (r + 1) + (c + 1) by omega])
  · rw [g, if_neg (by decide), if_pos rfl, if_pos (by omega), if_pos rfl, if_neg (by decide), qx.2, qy.1]
    exact qW_some rfl
  · rw [g, if_neg (by decide), if_neg (by decide), if_pos rfl, if_pos (by omega), if_pos rfl, if_neg (by decide), qx.1, qy.2]
    exact qW_some (by rw [show 42 * r + c + 1 = 42 * r + (c + 1) by omega])
  · rw [g, if_neg (by decide), if_neg (by decide), if_neg (by decide), if_pos (by omega), if_neg (by decide), if_neg (by decide), qx.1, qy.1]
    exact qW_some (by rw [show 42 * (r + 1) + c + 1 = 42 * (r + 1) + (c + 1) by omega])
/-- it is of the space to the left -/
theorem left_u (h_lines : R_lines M K) (h_ends : R_ends M K) (h_alone : R_alone M K) (hA : WAL M A (M 7 0 0)) (hK : PFL M K E) (hF : FPI M E G m p) (hC : CMP A F f) (s0 : 0 ≤ s) (s1 : s < 2 * p) : ext F f (lux G s) (luy G s) = lfo F f (sX G s) (sY G s) (sW G s) ∧ -1 ≤ lux G s ∧ lux G s ≤ 24 ∧ -1 ≤ luy G s ∧ luy G s ≤ 24 := by
  have os := side_ok h_lines h_ends h_alone hA hK hF s0 s1
  have w0 := os.2.2.2.2.2.2.2.2.1
  have w1 := os.2.2.2.2.2.2.2.2.2.1
  have lp := (lfo_p h_ends h_alone hA hC w0 w1 os.1 (by rw [os.2.1]; have := os.2.2.1; omega)).1 (sN G s - 1) (by have := os.1.1; omega) (by omega)
  have L1 := os.1.1
  have tx := os.2.2.2.2.2.2.2.2.2.2.1
  have ty := os.2.2.2.2.2.2.2.2.2.2.2.1
  have x0 := os.2.2.2.2.1
  have x1 := os.2.2.2.2.2.1
  have y0 := os.2.2.2.2.2.2.1
  have y1 := os.2.2.2.2.2.2.2.1
  have rE := os.1.2.2.1 (sN G s) (by omega) (Int.le_refl _)
  have wp : sW G s = (sW G s) % 2 + 2 * (s % 2) := by
    unfold sW
    split <;> omega
  have cw : sW G s = 0 ∨ sW G s = 1 ∨ sW G s = 2 ∨ sW G s = 3 := by omega
  unfold lux luy
  rcases cw with g | g | g | g
  · have e0 : s % 2 = 0 := by omega
    have eX : (G 2174 (G 2177 (s / 2) 0) 0) = sX G s := by unfold sX sF; rw [if_pos e0]
    have eY : (G 2175 (G 2177 (s / 2) 0) 0) = sY G s := by unfold sY sF; rw [if_pos e0]
    rw [g, if_neg (by decide), if_neg (by decide), eX, eY]
    exact ⟨rfl, by omega, by omega, by omega, by omega⟩
  · have e0 : s % 2 = 0 := by omega
    have eX : (G 2174 (G 2177 (s / 2) 0) 0) = sX G s := by unfold sX sF; rw [if_pos e0]
    have eY : (G 2175 (G 2177 (s / 2) 0) 0) = sY G s := by unfold sY sF; rw [if_pos e0]
    rw [g, if_pos rfl, if_neg (by decide), eX, eY]
    exact ⟨rfl, by omega, by omega, by omega, by omega⟩
  · have e0 : ¬ s % 2 = 0 := by omega
    have eX : (G 2174 (G 2177 (s / 2) 0) 0) = sX G s - sN G s := by
      rw [g] at tx
      unfold sT at tx
      rw [if_neg e0] at tx
      exact tx
    have eY : (G 2175 (G 2177 (s / 2) 0) 0) = sY G s := by
      rw [g] at ty
      unfold sT at ty
      rw [if_neg e0] at ty
      exact ty
    rw [g] at lp rE
    have gX : gx 2 (sX G s) (sN G s) = sX G s - sN G s := rfl
    rw [g, if_neg (by decide), if_pos rfl, eX, eY]
    refine ⟨?_, by omega, by omega, by omega, by omega⟩
    rw [← lp]
    show ext F f (sX G s - sN G s) (sY G s - 1) = ext F f (sX G s - (sN G s - 1) - 1) (sY G s - 1)
    rw [show sX G s - (sN G s - 1) - 1 = sX G s - sN G s by omega]
  · have e0 : ¬ s % 2 = 0 := by omega
    have eX : (G 2174 (G 2177 (s / 2) 0) 0) = sX G s := by
      rw [g] at tx
      unfold sT at tx
      rw [if_neg e0] at tx
      exact tx
    have eY : (G 2175 (G 2177 (s / 2) 0) 0) = sY G s - sN G s := by
      rw [g] at ty
      unfold sT at ty
      rw [if_neg e0] at ty
      exact ty
    rw [g] at lp rE
    have gY : gy 3 (sY G s) (sN G s) = sY G s - sN G s := rfl
    rw [g, if_neg (by decide), if_neg (by decide), eX, eY]
    refine ⟨?_, by omega, by omega, by omega, by omega⟩
    rw [← lp]
    show ext F f (sX G s) (sY G s - sN G s) = ext F f (sX G s) (sY G s - (sN G s - 1) - 1)
    rw [show sY G s - (sN G s - 1) - 1 = sY G s - sN G s by omega]
end RL
