section IJ
variable {M K A E G : qm} {n m p k v z l x y w c r i j a b s t L R : Int} {stt cnt : Int → Int}
/-- the other side of a side's piece -/
def flp (s : Int) : Int := if s % 2 = 0 then s + 1 else s - 1
theorem flp_s (h : 0 ≤ s) : flp (flp s) = s ∧ 0 ≤ flp s ∧ flp s / 2 = s / 2 ∧ (s < 2 * p → flp s < 2 * p) ∧ sF G (flp s) = sT G s ∧ sT G (flp s) = sF G s ∧ sL G (flp s) = sL G s ∧ sN G (flp s) = sN G s := by
  by_cases g : s % 2 = 0
  · have e : flp s = s + 1 := if_pos g
    have e2 : flp (s + 1) = s := by unfold flp; rw [if_neg (by omega)]; omega
    have e3 : (s + 1) / 2 = s / 2 := by omega
    rw [e, e2]
    refine ⟨rfl, by omega, e3, fun _ => by omega, ?_, ?_, ?_, ?_⟩
    · unfold sF sT
      rw [if_neg (by omega), if_pos g, e3]
    · unfold sF sT
      rw [if_neg (by omega), if_pos g, e3]
    · unfold sL
      rw [e3]
    · unfold sN
      rw [e3]
  · have e : flp s = s - 1 := if_neg g
    have e2 : flp (s - 1) = s := by unfold flp; rw [if_pos (by omega)]; omega
    have e3 : (s - 1) / 2 = s / 2 := by omega
    rw [e, e2]
    refine ⟨rfl, by omega, e3, fun _ => by omega, ?_, ?_, ?_, ?_⟩
    · unfold sF sT
      rw [if_pos (by omega), if_neg g, e3]
    · unfold sF sT
      rw [if_pos (by omega), if_neg g, e3]
    · unfold sL
      rw [e3]
    · unfold sN
      rw [e3]
theorem flp_w (h : 0 ≤ s) : sW G (flp s) = opp (sW G s) := by
  have f := flp_s (G := G) (p := 0) h
  unfold sW
  rw [f.2.2.2.2.2.2.1]
  unfold opp flp
  split <;> split <;> split <;> omega
theorem tn_inj {u : Int} (w0 : 0 ≤ w) (w1 : w ≤ 3) (u0 : 0 ≤ u) (u1 : u ≤ 3) (hw : wf A (opp w) x y ≠ -1) (hu : wf A (opp u) x y ≠ -1) (h : tn A x y w = tn A x y u) : w = u := by
  have t0 : tn A x y 0 = if wf A 1 x y ≠ -1 then 1 else if wf A 0 x y ≠ -1 then 0 else if wf A 3 x y ≠ -1 then 3 else 2 := rfl
  have t1 : tn A x y 1 = if wf A 2 x y ≠ -1 then 2 else if wf A 1 x y ≠ -1 then 1 else if wf A 0 x y ≠ -1 then 0 else 3 := rfl
  have t2 : tn A x y 2 = if wf A 3 x y ≠ -1 then 3 else if wf A 2 x y ≠ -1 then 2 else if wf A 1 x y ≠ -1 then 1 else 0 := rfl
  have t3 : tn A x y 3 = if wf A 0 x y ≠ -1 then 0 else if wf A 3 x y ≠ -1 then 3 else if wf A 2 x y ≠ -1 then 2 else 1 := rfl
  have o0 : opp 0 = 2 := rfl
  have o1 : opp 1 = 3 := rfl
  have o2 : opp 2 = 0 := rfl
  have o3 : opp 3 = 1 := rfl
  have cw : w = 0 ∨ w = 1 ∨ w = 2 ∨ w = 3 := by omega
  have cu : u = 0 ∨ u = 1 ∨ u = 2 ∨ u = 3 := by omega
  rcases cw with rfl | rfl | rfl | rfl <;> rcases cu with rfl | rfl | rfl | rfl <;> first
    | rfl
    | (exfalso
       first | rw [t0] at h | rw [t1] at h | rw [t2] at h | rw [t3] at h
       first | rw [t1] at h | rw [t2] at h | rw [t3] at h
       first | rw [o0] at hw | rw [o1] at hw | rw [o2] at hw | rw [o3] at hw
       first | rw [o0] at hu | rw [o1] at hu | rw [o2] at hu | rw [o3] at hu
       clear t0 t1 t2 t3 o0 o1 o2 o3
       split at h <;> (try split at h) <;> (try split at h) <;> (try split at h) <;> (try split at h) <;> (try split at h) <;> first | omega | contradiction)
theorem nxs_inj (h_lines : R_lines M K) (h_ends : R_ends M K) (h_alone : R_alone M K) (hA : WAL M A (M 7 0 0)) (hK : PFL M K E) (h : FPI M E G m p) : ∀ s t, 0 ≤ s → s < 2 * p → 0 ≤ t → t < 2 * p → nxs A G p s = nxs A G p t → s = t := by
  intro s t s0 s1 t0 t1 e
  have os := side_ok h_lines h_ends h_alone hA hK h s0 s1
  have ot := side_ok h_lines h_ends h_alone hA hK h t0 t1
  have ns := nxs_s h_lines h_ends h_alone hA hK h s0 s1
  have nt := nxs_s h_lines h_ends h_alone hA hK h t0 t1
  have es := side_end h_lines h_ends h_alone hA os
  have et := side_end h_lines h_ends h_alone hA ot
  rw [← e] at nt
  have eX : gx (sW G s) (sX G s) (sN G s) = gx (sW G t) (sX G t) (sN G t) := ns.2.2.1.symm.trans nt.2.2.1
  have eY : gy (sW G s) (sY G s) (sN G s) = gy (sW G t) (sY G t) (sN G t) := ns.2.2.2.1.symm.trans nt.2.2.2.1
  have eT := ns.2.2.2.2.symm.trans nt.2.2.2.2
  rw [eX, eY] at es eT
  have ew := tn_inj os.2.2.2.2.2.2.2.2.1 os.2.2.2.2.2.2.2.2.2.1 ot.2.2.2.2.2.2.2.2.1 ot.2.2.2.2.2.2.2.2.2.1 es.1 et.1 eT
  have fs := flp_s (G := G) (p := p) s0
  have ft := flp_s (G := G) (p := p) t0
  have ff : flp s = flp t := by
    refine side_one h_lines h_ends h_alone hA hK h fs.2.1 (fs.2.2.2.1 s1) ft.2.1 (ft.2.2.2.1 t1) ?_ ?_ ?_
    · unfold sX
      rw [fs.2.2.2.2.1, ft.2.2.2.2.1, os.2.2.2.2.2.2.2.2.2.2.1, ot.2.2.2.2.2.2.2.2.2.2.1]
      exact eX
    · unfold sY
      rw [fs.2.2.2.2.1, ft.2.2.2.2.1, os.2.2.2.2.2.2.2.2.2.2.2.1, ot.2.2.2.2.2.2.2.2.2.2.2.1]
      exact eY
    · rw [flp_w s0, flp_w t0, ew]
  rw [← fs.1, ff, ft.1]
theorem nxs_ne (h_lines : R_lines M K) (h_ends : R_ends M K) (h_alone : R_alone M K) (hA : WAL M A (M 7 0 0)) (hK : PFL M K E) (h : FPI M E G m p) : ∀ s, 0 ≤ s → s < 2 * p → nxs A G p s ≠ s := by
  intro s s0 s1 e
  have os := side_ok h_lines h_ends h_alone hA hK h s0 s1
  have ns := nxs_s h_lines h_ends h_alone hA hK h s0 s1
  rw [e] at ns
  have a := ns.2.2.1
  have b := ns.2.2.2.1
  have L1 := os.1.1
  have w0 := os.2.2.2.2.2.2.2.2.1
  have w1 := os.2.2.2.2.2.2.2.2.2.1
  have cw : sW G s = 0 ∨ sW G s = 1 ∨ sW G s = 2 ∨ sW G s = 3 := by omega
  rcases cw with g | g | g | g <;> rw [g] at a b
  · have u : gx 0 (sX G s) (sN G s) = sX G s + sN G s := rfl
    omega
  · have u : gy 1 (sY G s) (sN G s) = sY G s + sN G s := rfl
    omega
  · have u : gx 2 (sX G s) (sN G s) = sX G s - sN G s := rfl
    omega
  · have u : gy 3 (sY G s) (sN G s) = sY G s - sN G s := rfl
    omega
def skey (G : qm) (s : Int) : Int := 4 * (25 * sX G s + sY G s) + sW G s
theorem skey_inj (h_lines : R_lines M K) (h_ends : R_ends M K) (h_alone : R_alone M K) (hA : WAL M A (M 7 0 0)) (hK : PFL M K E) (h : FPI M E G m p) : ∀ s t, 0 ≤ s → s < 2 * p → 0 ≤ t → t < 2 * p → skey G s = skey G t → s = t := by
  intro s t s0 s1 t0 t1 e
  have os := side_ok h_lines h_ends h_alone hA hK h s0 s1
  have ot := side_ok h_lines h_ends h_alone hA hK h t0 t1
  obtain ⟨_, _, _, _, a1, a2, a3, a4, a5, a6, _⟩ := os
  obtain ⟨_, _, _, _, b1, b2, b3, b4, b5, b6, _⟩ := ot
  unfold skey at e
  exact side_one h_lines h_ends h_alone hA hK h s0 s1 t0 t1 (by omega) (by omega) (by omega)
theorem nxs_v (h_lines : R_lines M K) (h_ends : R_ends M K) (h_alone : R_alone M K) (hA : WAL M A (M 7 0 0)) (hK : PFL M K E) (h : FPI M E G m p) : ∀ s, 0 ≤ s → s < 2 * p → 0 ≤ nxs A G p s ∧ nxs A G p s < 2 * p := fun s s0 s1 => by
  have ns := nxs_s h_lines h_ends h_alone hA hK h s0 s1
  exact ⟨ns.1, ns.2.1⟩
/-- the class's numbers hold them all: 440 sides, 220 rings -/
theorem rng_room (h_lines : R_lines M K) (h_ends : R_ends M K) (h_alone : R_alone M K) (hA : WAL M A (M 7 0 0)) (hK : PFL M K E) (h : FPI M E G m p) (R0 : 0 ≤ R) (hr : ∀ r, 0 ≤ r → r < R → RNG (nxs A G p) (2 * p) (skey G) stt cnt r) : sI cnt R = sI (fun s => b01 (cov (nxs A G p) stt cnt R s)) (2 * p) ∧ sI cnt R ≤ 2 * p ∧ 2 * R ≤ sI cnt R := by
  have hv := nxs_v h_lines h_ends h_alone hA hK h
  have q := cov_sum (f := fun _ => 1) hv R0 hr
  have e1 : sI (fun s => b01 (cov (nxs A G p) stt cnt R s) * 1) (2 * p) = sI (fun s => b01 (cov (nxs A G p) stt cnt R s)) (2 * p) := sI_c (fun _ _ _ => by omega)
  have e2 : sI (fun r => sI (fun _ => 1) (cnt r)) R = sI cnt R := sI_c (fun r r0 r1 => by
    (try dsimp only)
    rw [sI_const]
    have := (hr r r0 r1).2.2.1
    omega)
  (try dsimp only at q)
  rw [e1, e2] at q
  have l1 : sI (fun s => b01 (cov (nxs A G p) stt cnt R s)) (2 * p) ≤ 2 * p := sI_l (by have := h.2.2.2.2.2.2.1; omega) (fun _ _ _ => b01_b.2)
  have two := (rng_two hv (nxs_inj h_lines h_ends h_alone hA hK h) (nxs_ne h_lines h_ends h_alone hA hK h) R0 hr).2
  have l2 : sI (fun _ => 2) R ≤ sI cnt R := sI_le (fun r r0 r1 => (two r r0 r1).1)
  rw [sI_const] at l2
  exact ⟨q.symm, by omega, by omega⟩
end IJ
