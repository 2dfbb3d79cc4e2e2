/-! ===== the matrix: the reference says the same of zones, rows, acts ===== -/
theorem counts_e {M K : qm} (h_mfault : R_mfault M K) (h_muntil : R_muntil M K) (h_mnow : R_mnow M K) {p : Int} (p0 : 0 ≤ p) (p1 : p < 50) : qf_X14_counts 20000 p K = some (b01 (akC M (M 6 12 0) p)) := by
  have q1 := h_mfault p p0 p1
  have q2 := h_muntil p p0 p1
  unfold R_mnow at h_mnow
  refine qW_e ?_
  unfold qf_X14_counts akC
  repeat' first
    | with_reducible refine qW_within (fun _ => ?_) (fun _ _ => ?_)
    | with_reducible refine qW_isIn (fun _ => ?_) (fun _ _ => ?_)
    | (exfalso; omega)
    | with_reducible refine qW_bind ?_
    | with_reducible refine qW_bnd ?_
    | with_reducible refine qW_some ?_
    | ((with_reducible refine qW_no ?_); omega)
    | with_reducible refine qW_pos rfl ?_
    | ((with_reducible refine qW_pos ?_ ?_); omega)
    | ((with_reducible refine qW_neg ?_ ?_); (first | omega | decide))
    | with_reducible refine qW_ite (fun _ => ?_) (fun _ => ?_)
    | dsimp only
  all_goals first
    | exact (b01_t (by omega)).symm
    | exact (b01_f (by omega)).symm
theorem ofZone1_e {M K : qm} (h_mfault : R_mfault M K) (h_muntil : R_muntil M K) (h_mnow : R_mnow M K) (h_mvalue : R_mvalue M K) (h_mzones : R_mzones M K) (h_mzonep : R_mzonep M K) (hz : znC M) {z : Int} (z0 : 0 ≤ z) (z1 : z < 20) (ht : (K 2215 z 0) = 1) : qf_X14_ofZone 20000 z 1 K = some (cOn M (M 6 12 0) z) := by
  obtain ⟨n0, n1, hp⟩ := hz z z0 z1
  have es : (K 2217 z 0) = (M 1176 z 1) := by
    have q := h_mzones z z0 z1
    omega
  unfold cOn
  refine qW_e ?_
  unfold qf_X14_ofZone qf_X14_ofZone_L5
  refine qW_call (Q := fun o => o = .inr (sI (fun i => b01 (onC M (M 6 12 0) (M 1176 z (2 + i)))) ((M 1176 z 1)))) ?_ ?_
  · refine qW_for ((M 1176 z 1)) (fun i s => s = (z, 1, sI (fun i => b01 (onC M (M 6 12 0) (M 1176 z (2 + i)))) i, i)) ?_ ?_ rfl (by omega) (by omega)
    · rintro i _ i0 i1 rfl
      have hb := sI_b (g := (fun i => b01 (onC M (M 6 12 0) (M 1176 z (2 + i))))) i0 (fun _ _ _ => b01_b)
      have hs := sI_s (f := (fun i => b01 (onC M (M 6 12 0) (M 1176 z (2 + i))))) i0
      have e1 : w32 (i + 1) = i + 1 := w32_id (by omega) (by omega)
      have e2 : w32 (12 * z) = 12 * z := w32_id (by omega) (by omega)
      have e4 : w32 (12 * z + i) = 12 * z + i := w32_id (by omega) (by omega)
      have e5 := (h_mzonep z i z0 z1 ht i0 i1).1
      have e3 := counts_e h_mfault h_muntil h_mnow (hp i i0 i1).1 (hp i i0 i1).2
      have e6 := h_mvalue _ (hp i i0 i1).1 (hp i i0 i1).2
      have e7 := hp i i0 i1
      unfold onC at *
      (try dsimp only at hs ⊢); generalize sI (fun i => b01 (onC M (M 6 12 0) (M 1176 z (2 + i)))) i = sv at hb hs ⊢; unfold qf_X14_ofZone_L5_b qf_X14_ofZone_J56 qf_X14_ofZone_J60 qf_X14_ofZone_J61
      repeat' first
        | (rw [es])
        | (rw [e2, e4, e5])
        | (rw [e5])
        | with_reducible refine qW_eq e3 ?_
        | (rw [e6])
        | with_reducible refine qW_b (fun _ => ?_) (fun _ => ?_)
        | with_reducible refine qW_within (fun _ => ?_) (fun _ _ => ?_)
        | with_reducible refine qW_isIn (fun _ => ?_) (fun _ _ => ?_)
        | (exfalso; omega)
        | with_reducible refine qW_bind ?_
        | with_reducible refine qW_bnd ?_
        | with_reducible refine qW_some ?_
        | ((with_reducible refine qW_no ?_); omega)
        | with_reducible refine qW_pos rfl ?_
        | ((with_reducible refine qW_pos ?_ ?_); omega)
        | ((with_reducible refine qW_neg ?_ ?_); (first | omega | decide))
        | with_reducible refine qW_ite (fun _ => ?_) (fun _ => ?_)
        | dsimp only
      all_goals (rw [hs, e1]; first | (rw [b01_t (by first | assumption | omega | grind)]) | (rw [b01_f (by first | assumption | omega | grind)]))
      all_goals (rw [w32_id (by omega) (by omega)])
    · rintro _ rfl
      (try dsimp only); unfold qf_X14_ofZone_L5_b qf_X14_ofZone_J56 qf_X14_ofZone_J60 qf_X14_ofZone_J61
      repeat' first
        | with_reducible refine qW_within (fun _ => ?_) (fun _ _ => ?_)
        | with_reducible refine qW_isIn (fun _ => ?_) (fun _ _ => ?_)
        | (exfalso; omega)
        | with_reducible refine qW_bind ?_
        | with_reducible refine qW_bnd ?_
        | with_reducible refine qW_some ?_
        | ((with_reducible refine qW_no ?_); omega)
        | with_reducible refine qW_pos rfl ?_
        | ((with_reducible refine qW_pos ?_ ?_); omega)
        | ((with_reducible refine qW_neg ?_ ?_); (first | omega | decide))
        | with_reducible refine qW_ite (fun _ => ?_) (fun _ => ?_)
        | dsimp only
      all_goals rfl
  · rintro _ rfl
    exact qW_some rfl
theorem ofZone0_e {M K : qm} (h_mfault : R_mfault M K) (h_muntil : R_muntil M K) (h_mnow : R_mnow M K) (h_mvalue : R_mvalue M K) (h_mzones : R_mzones M K) (h_mzonep : R_mzonep M K) (hz : znC M) {z : Int} (z0 : 0 ≤ z) (z1 : z < 20) (ht : (K 2215 z 0) = 1) : qf_X14_ofZone 20000 z 0 K = some (cAk M (M 6 12 0) z) := by
  obtain ⟨n0, n1, hp⟩ := hz z z0 z1
  have es : (K 2217 z 0) = (M 1176 z 1) := by
    have q := h_mzones z z0 z1
    omega
  unfold cAk
  refine qW_e ?_
  unfold qf_X14_ofZone qf_X14_ofZone_L5
  refine qW_call (Q := fun o => o = .inr (sI (fun i => b01 (akC M (M 6 12 0) (M 1176 z (2 + i)))) ((M 1176 z 1)))) ?_ ?_
  · refine qW_for ((M 1176 z 1)) (fun i s => s = (z, 0, sI (fun i => b01 (akC M (M 6 12 0) (M 1176 z (2 + i)))) i, i)) ?_ ?_ rfl (by omega) (by omega)
    · rintro i _ i0 i1 rfl
      have hb := sI_b (g := (fun i => b01 (akC M (M 6 12 0) (M 1176 z (2 + i))))) i0 (fun _ _ _ => b01_b)
      have hs := sI_s (f := (fun i => b01 (akC M (M 6 12 0) (M 1176 z (2 + i))))) i0
      have e1 : w32 (i + 1) = i + 1 := w32_id (by omega) (by omega)
      have e2 : w32 (12 * z) = 12 * z := w32_id (by omega) (by omega)
      have e4 : w32 (12 * z + i) = 12 * z + i := w32_id (by omega) (by omega)
      have e5 := (h_mzonep z i z0 z1 ht i0 i1).1
      have e3 := counts_e h_mfault h_muntil h_mnow (hp i i0 i1).1 (hp i i0 i1).2
      (try dsimp only at hs ⊢); generalize sI (fun i => b01 (akC M (M 6 12 0) (M 1176 z (2 + i)))) i = sv at hb hs ⊢; unfold qf_X14_ofZone_L5_b qf_X14_ofZone_J56 qf_X14_ofZone_J60 qf_X14_ofZone_J61
      repeat' first
        | (rw [es])
        | (rw [e2, e4, e5])
        | (rw [e5])
        | with_reducible refine qW_eq e3 ?_
        | with_reducible refine qW_b (fun _ => ?_) (fun _ => ?_)
        | with_reducible refine qW_within (fun _ => ?_) (fun _ _ => ?_)
        | with_reducible refine qW_isIn (fun _ => ?_) (fun _ _ => ?_)
        | (exfalso; omega)
        | with_reducible refine qW_bind ?_
        | with_reducible refine qW_bnd ?_
        | with_reducible refine qW_some ?_
        | ((with_reducible refine qW_no ?_); omega)
        | with_reducible refine qW_pos rfl ?_
        | ((with_reducible refine qW_pos ?_ ?_); omega)
        | ((with_reducible refine qW_neg ?_ ?_); (first | omega | decide))
        | with_reducible refine qW_ite (fun _ => ?_) (fun _ => ?_)
        | dsimp only
      all_goals (rw [hs, e1]; first | (rw [b01_t (by first | assumption | omega | grind)]) | (rw [b01_f (by first | assumption | omega | grind)]))
      all_goals (rw [w32_id (by omega) (by omega)])
    · rintro _ rfl
      (try dsimp only); unfold qf_X14_ofZone_L5_b qf_X14_ofZone_J56 qf_X14_ofZone_J60 qf_X14_ofZone_J61
      repeat' first
        | with_reducible refine qW_within (fun _ => ?_) (fun _ _ => ?_)
        | with_reducible refine qW_isIn (fun _ => ?_) (fun _ _ => ?_)
        | (exfalso; omega)
        | with_reducible refine qW_bind ?_
        | with_reducible refine qW_bnd ?_
        | with_reducible refine qW_some ?_
        | ((with_reducible refine qW_no ?_); omega)
        | with_reducible refine qW_pos rfl ?_
        | ((with_reducible refine qW_pos ?_ ?_); omega)
        | ((with_reducible refine qW_neg ?_ ?_); (first | omega | decide))
        | with_reducible refine qW_ite (fun _ => ?_) (fun _ => ?_)
        | dsimp only
      all_goals rfl
  · rintro _ rfl
    exact qW_some rfl
theorem isOnR_e {M K : qm} (h_mfault : R_mfault M K) (h_muntil : R_muntil M K) (h_mnow : R_mnow M K) (h_mvalue : R_mvalue M K) (h_mzones : R_mzones M K) (h_mzonep : R_mzonep M K) (hz : znC M) {z : Int} (z0 : 0 ≤ z) (z1 : z < 20) (ht : (K 2215 z 0) = 1) : qf_X14_isOn 20000 z K = some (b01 (zOn M (M 6 12 0) z)) := by
  have en : (K 2216 z 0) = (M 1176 z 0) := by
    have q := h_mzones z z0 z1
    omega
  refine qW_e ?_
  unfold qf_X14_isOn zOn
  refine qW_eq (ofZone1_e h_mfault h_muntil h_mnow h_mvalue h_mzones h_mzonep hz z0 z1 ht) ?_
  rw [en]
  repeat' first
    | with_reducible refine qW_within (fun _ => ?_) (fun _ _ => ?_)
    | with_reducible refine qW_isIn (fun _ => ?_) (fun _ _ => ?_)
    | (exfalso; omega)
    | with_reducible refine qW_bind ?_
    | with_reducible refine qW_bnd ?_
    | with_reducible refine qW_some ?_
    | ((with_reducible refine qW_no ?_); omega)
    | with_reducible refine qW_pos rfl ?_
    | ((with_reducible refine qW_pos ?_ ?_); omega)
    | ((with_reducible refine qW_neg ?_ ?_); (first | omega | decide))
    | with_reducible refine qW_ite (fun _ => ?_) (fun _ => ?_)
    | dsimp only
  all_goals first
    | exact (b01_t (by omega)).symm
    | exact (b01_f (by omega)).symm
theorem isSureR_e {M K : qm} (h_mfault : R_mfault M K) (h_muntil : R_muntil M K) (h_mnow : R_mnow M K) (h_mvalue : R_mvalue M K) (h_mzones : R_mzones M K) (h_mzonep : R_mzonep M K) (hz : znC M) {z : Int} (z0 : 0 ≤ z) (z1 : z < 20) (ht : (K 2215 z 0) = 1) : qf_X14_isSure 20000 z K = some (b01 (zSu M (M 6 12 0) z)) := by
  refine qW_e ?_
  unfold qf_X14_isSure zSu
  refine qW_eq (ofZone0_e h_mfault h_muntil h_mnow h_mvalue h_mzones h_mzonep hz z0 z1 ht) ?_
  have e1 := ofZone1_e h_mfault h_muntil h_mnow h_mvalue h_mzones h_mzonep hz z0 z1 ht
  repeat' first
    | with_reducible refine qW_eq e1 ?_
    | with_reducible refine qW_within (fun _ => ?_) (fun _ _ => ?_)
    | with_reducible refine qW_isIn (fun _ => ?_) (fun _ _ => ?_)
    | (exfalso; omega)
    | with_reducible refine qW_bind ?_
    | with_reducible refine qW_bnd ?_
    | with_reducible refine qW_some ?_
    | ((with_reducible refine qW_no ?_); omega)
    | with_reducible refine qW_pos rfl ?_
    | ((with_reducible refine qW_pos ?_ ?_); omega)
    | ((with_reducible refine qW_neg ?_ ?_); (first | omega | decide))
    | with_reducible refine qW_ite (fun _ => ?_) (fun _ => ?_)
    | dsimp only
  all_goals first
    | exact (b01_t (by omega)).symm
    | exact (b01_f (by omega)).symm
theorem isMetR_e {M K : qm} (h_mfault : R_mfault M K) (h_muntil : R_muntil M K) (h_mnow : R_mnow M K) (h_mvalue : R_mvalue M K) (h_mzones : R_mzones M K) (h_mzonep : R_mzonep M K) (h_mrows : R_mrows M K) (h_mrow : R_mrow M K) (hz : znC M) {r : Int} (r0 : 0 ≤ r) (r1 : r < (M 1172 9 0)) : qf_X14_isMet 20000 r K = some (b01 (mtC M (M 6 12 0) r)) := by
  have q := h_mrow r r0 r1
  have n := h_mrows
  unfold R_mrows at n
  have f1 := isOnR_e h_mfault h_muntil h_mnow h_mvalue h_mzones h_mzonep hz q.2.2.2.1 q.2.2.2.2.1 q.2.2.2.2.2.1
  refine qW_e ?_
  unfold qf_X14_isMet mtC
  rw [if_pos ⟨r0, by omega⟩]
  refine qW_eq f1 ?_
  rw [q.1]
  refine qW_b (fun w => ?_) (fun w => ?_)
  · exact qW_some (b01_f (fun x => w x.1)).symm
  · rw [if_pos ⟨r0, by omega⟩]
    by_cases e : (K 2225 r 0) < 0
    · rw [if_pos e]
      exact qW_some (b01_t ⟨w, Or.inl (by omega)⟩).symm
    · rw [if_neg e, if_pos ⟨r0, by omega⟩]
      have f2 := isOnR_e h_mfault h_muntil h_mnow h_mvalue h_mzones h_mzonep hz (z := (K 2225 r 0)) (by omega) (by omega) (q.2.2.2.2.2.2.2.2.1 (by omega))
      refine qW_eq f2 ?_
      rw [q.2.1]
      refine qW_b (fun w2 => ?_) (fun w2 => ?_)
      · refine qW_some (b01_f (fun x => ?_)).symm
        rcases x.2 with y | y
        · omega
        · exact w2 y
      · exact qW_some (b01_t ⟨w, Or.inr w2⟩).symm
