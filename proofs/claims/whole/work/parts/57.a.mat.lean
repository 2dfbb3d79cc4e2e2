/-! ===== the matrix: zones on, rows met, acts called ===== -/
/-- a point is asked; it is on (class) -/
def akC (M : qm) (t p : Int) : Prop := (M 1174 p 0) = 0 ∧ (M 1175 p 0) ≤ t
def onC (M : qm) (t p : Int) : Prop := 50 ≤ (M 1173 p 0) ∧ akC M t p
theorem isAsked_e {M : qm} {p t : Int} (p0 : 0 ≤ p) (p1 : p < 50) : qf_X4_isAsked 20000 p t M = some (b01 (akC M t p)) := by
  refine qW_e ?_
  unfold qf_X4_isAsked akC
  repeat' first
    | with_reducible refine qW_within (fun _ => ?_) (fun _ _ => ?_)
    | with_reducible refine qW_isIn (fun _ => ?_) (fun _ _ => ?_)
    | (exfalso; omega)
    | with_reducible refine qW_bind ?_
    | with_reducible refine qW_bnd ?_
    | with_reducible refine qW_some ?_
    | ((with_reducible refine qW_no ?_); omega)
    | with_reducible refine qW_pos rfl ?_
    | ((with_reducible refine qW_pos ?_ ?_); omega)
    | ((with_reducible refine qW_neg ?_ ?_); (first | omega | decide))
    | with_reducible refine qW_ite (fun _ => ?_) (fun _ => ?_)
    | dsimp only
  all_goals first
    | exact (b01_t (by omega)).symm
    | exact (b01_f (by omega)).symm
theorem isOn_e {M : qm} {p t : Int} (p0 : 0 ≤ p) (p1 : p < 50) : qf_X4_isOn 20000 p t M = some (b01 (onC M t p)) := by
  refine qW_e ?_
  unfold qf_X4_isOn onC
  repeat' first
    | with_reducible refine qW_eq (isAsked_e p0 p1) ?_
    | with_reducible refine qW_b (fun _ => ?_) (fun _ => ?_)
    | with_reducible refine qW_within (fun _ => ?_) (fun _ _ => ?_)
    | with_reducible refine qW_isIn (fun _ => ?_) (fun _ _ => ?_)
    | (exfalso; omega)
    | with_reducible refine qW_bind ?_
    | with_reducible refine qW_bnd ?_
    | with_reducible refine qW_some ?_
    | ((with_reducible refine qW_no ?_); omega)
    | with_reducible refine qW_pos rfl ?_
    | ((with_reducible refine qW_pos ?_ ?_); omega)
    | ((with_reducible refine qW_neg ?_ ?_); (first | omega | decide))
    | with_reducible refine qW_ite (fun _ => ?_) (fun _ => ?_)
    | dsimp only
  all_goals first
    | exact (b01_t ⟨by omega, by assumption⟩).symm
    | exact (b01_f (fun x => by omega)).symm
    | exact (b01_f (fun x => by have y := x.2; contradiction)).symm
/-- what the class's zones are like -/
def znC (M : qm) : Prop := ∀ z, 0 ≤ z → z < 20 → 0 ≤ (M 1176 z 1) ∧ (M 1176 z 1) ≤ 12 ∧ ∀ k, 0 ≤ k → k < (M 1176 z 1) → 0 ≤ (M 1176 z (2 + k)) ∧ (M 1176 z (2 + k)) < 50
noncomputable def cOn (M : qm) (t z : Int) : Int := sI (fun k => b01 (onC M t (M 1176 z (2 + k)))) (M 1176 z 1)
noncomputable def cAk (M : qm) (t z : Int) : Int := sI (fun k => b01 (akC M t (M 1176 z (2 + k)))) (M 1176 z 1)
theorem countOn_e {M : qm} (h : znC M) {z t : Int} (z0 : 0 ≤ z) (z1 : z < 20) : qf_X4_countOn 20000 z t M = some (cOn M t z) := by
  obtain ⟨n0, n1, hp⟩ := h z z0 z1
  unfold cOn
  refine qW_e ?_
  unfold qf_X4_countOn qf_X4_countOn_L5
  refine qW_call (Q := fun o => o = .inr (sI (fun i => b01 (onC M t (M 1176 z (2 + i)))) ((M 1176 z 1)))) ?_ ?_
  · refine qW_for ((M 1176 z 1)) (fun i s => s = (z, t, sI (fun i => b01 (onC M t (M 1176 z (2 + i)))) i, i)) ?_ ?_ rfl (by omega) (by omega)
    · rintro i _ i0 i1 rfl
      have hb := sI_b (g := (fun i => b01 (onC M t (M 1176 z (2 + i))))) i0 (fun _ _ _ => b01_b)
      have hs := sI_s (f := (fun i => b01 (onC M t (M 1176 z (2 + i))))) i0
      have e1 : w32 (i + 1) = i + 1 := w32_id (by omega) (by omega)
      have e2 : w32 (2 + i) = 2 + i := w32_id (by omega) (by omega)
      have e3 := isOn_e (M := M) (t := t) (hp i i0 i1).1 (hp i i0 i1).2
      (try dsimp only at hs ⊢); generalize sI (fun i => b01 (onC M t (M 1176 z (2 + i)))) i = sv at hb hs ⊢; unfold qf_X4_countOn_L5_b qf_X4_countOn_J43
      repeat' first
        | (rw [e2])
        | with_reducible refine qW_eq e3 ?_
        | with_reducible refine qW_b (fun _ => ?_) (fun _ => ?_)
        | with_reducible refine qW_within (fun _ => ?_) (fun _ _ => ?_)
        | with_reducible refine qW_isIn (fun _ => ?_) (fun _ _ => ?_)
        | (exfalso; omega)
        | with_reducible refine qW_bind ?_
        | with_reducible refine qW_bnd ?_
        | with_reducible refine qW_some ?_
        | ((with_reducible refine qW_no ?_); omega)
        | with_reducible refine qW_pos rfl ?_
        | ((with_reducible refine qW_pos ?_ ?_); omega)
        | ((with_reducible refine qW_neg ?_ ?_); (first | omega | decide))
        | with_reducible refine qW_ite (fun _ => ?_) (fun _ => ?_)
        | dsimp only
      all_goals (rw [hs, e1]; first | (rw [b01_t (by first | assumption | omega | grind)]) | (rw [b01_f (by first | assumption | omega | grind)]))
      all_goals (rw [w32_id (by omega) (by omega)])
    · rintro _ rfl
      (try dsimp only); unfold qf_X4_countOn_L5_b qf_X4_countOn_J43
      repeat' first
        | with_reducible refine qW_within (fun _ => ?_) (fun _ _ => ?_)
        | with_reducible refine qW_isIn (fun _ => ?_) (fun _ _ => ?_)
        | (exfalso; omega)
        | with_reducible refine qW_bind ?_
        | with_reducible refine qW_bnd ?_
        | with_reducible refine qW_some ?_
        | ((with_reducible refine qW_no ?_); omega)
        | with_reducible refine qW_pos rfl ?_
        | ((with_reducible refine qW_pos ?_ ?_); omega)
        | ((with_reducible refine qW_neg ?_ ?_); (first | omega | decide))
        | with_reducible refine qW_ite (fun _ => ?_) (fun _ => ?_)
        | dsimp only
      all_goals rfl
  · rintro _ rfl
    exact qW_some rfl
theorem countAsked_e {M : qm} (h : znC M) {z t : Int} (z0 : 0 ≤ z) (z1 : z < 20) : qf_X4_countAsked 20000 z t M = some (cAk M t z) := by
  obtain ⟨n0, n1, hp⟩ := h z z0 z1
  unfold cAk
  refine qW_e ?_
  unfold qf_X4_countAsked qf_X4_countAsked_L5
  refine qW_call (Q := fun o => o = .inr (sI (fun i => b01 (akC M t (M 1176 z (2 + i)))) ((M 1176 z 1)))) ?_ ?_
  · refine qW_for ((M 1176 z 1)) (fun i s => s = (z, t, sI (fun i => b01 (akC M t (M 1176 z (2 + i)))) i, i)) ?_ ?_ rfl (by omega) (by omega)
    · rintro i _ i0 i1 rfl
      have hb := sI_b (g := (fun i => b01 (akC M t (M 1176 z (2 + i))))) i0 (fun _ _ _ => b01_b)
      have hs := sI_s (f := (fun i => b01 (akC M t (M 1176 z (2 + i))))) i0
      have e1 : w32 (i + 1) = i + 1 := w32_id (by omega) (by omega)
      have e2 : w32 (2 + i) = 2 + i := w32_id (by omega) (by omega)
      have e3 := isAsked_e (M := M) (t := t) (hp i i0 i1).1 (hp i i0 i1).2
      (try dsimp only at hs ⊢); generalize sI (fun i => b01 (akC M t (M 1176 z (2 + i)))) i = sv at hb hs ⊢; unfold qf_X4_countAsked_L5_b qf_X4_countAsked_J43
      repeat' first
        | (rw [e2])
        | with_reducible refine qW_eq e3 ?_
        | with_reducible refine qW_b (fun _ => ?_) (fun _ => ?_)
        | with_reducible refine qW_within (fun _ => ?_) (fun _ _ => ?_)
        | with_reducible refine qW_isIn (fun _ => ?_) (fun _ _ => ?_)
        | (exfalso; omega)
        | with_reducible refine qW_bind ?_
        | with_reducible refine qW_bnd ?_
        | with_reducible refine qW_some ?_
        | ((with_reducible refine qW_no ?_); omega)
        | with_reducible refine qW_pos rfl ?_
        | ((with_reducible refine qW_pos ?_ ?_); omega)
        | ((with_reducible refine qW_neg ?_ ?_); (first | omega | decide))
        | with_reducible refine qW_ite (fun _ => ?_) (fun _ => ?_)
        | dsimp only
      all_goals (rw [hs, e1]; first | (rw [b01_t (by first | assumption | omega | grind)]) | (rw [b01_f (by first | assumption | omega | grind)]))
      all_goals (rw [w32_id (by omega) (by omega)])
    · rintro _ rfl
      (try dsimp only); unfold qf_X4_countAsked_L5_b qf_X4_countAsked_J43
      repeat' first
        | with_reducible refine qW_within (fun _ => ?_) (fun _ _ => ?_)
        | with_reducible refine qW_isIn (fun _ => ?_) (fun _ _ => ?_)
        | (exfalso; omega)
        | with_reducible refine qW_bind ?_
        | with_reducible refine qW_bnd ?_
        | with_reducible refine qW_some ?_
        | ((with_reducible refine qW_no ?_); omega)
        | with_reducible refine qW_pos rfl ?_
        | ((with_reducible refine qW_pos ?_ ?_); omega)
        | ((with_reducible refine qW_neg ?_ ?_); (first | omega | decide))
        | with_reducible refine qW_ite (fun _ => ?_) (fun _ => ?_)
        | dsimp only
      all_goals rfl
  · rintro _ rfl
    exact qW_some rfl
