/-! ===== the matrix: acts called, the reference ===== -/
theorem ex_s {P : Int → Prop} {i : Int} (h : 0 ≤ i) : (∃ k, 0 ≤ k ∧ k < i + 1 ∧ P k) ↔ ((∃ k, 0 ≤ k ∧ k < i ∧ P k) ∨ P i) := by
  constructor
  · rintro ⟨k, a, b, c⟩
    by_cases e : k = i
    · rw [e] at c
      exact Or.inr c
    · exact Or.inl ⟨k, a, by omega, c⟩
  · rintro (⟨k, a, b, c⟩ | c)
    · exact ⟨k, a, by omega, c⟩
    · exact ⟨i, h, by omega, c⟩
theorem isCalledR0_e {M K : qm} (h_mfault : R_mfault M K) (h_muntil : R_muntil M K) (h_mnow : R_mnow M K) (h_mvalue : R_mvalue M K) (h_mzones : R_mzones M K) (h_mzonep : R_mzonep M K) (h_mrows : R_mrows M K) (h_mrow : R_mrow M K) (hz : znC M) {a : Int} : qf_X14_isCalled 20000 a 0 K = some (b01 (clC M (M 6 12 0) a)) := by
  have n := h_mrows
  unfold R_mrows at n
  refine qW_e ?_
  unfold qf_X14_isCalled qf_X14_isCalled_L5 clC
  refine qW_call (Q := fun o => o = .inr (b01 (∃ r, 0 ≤ r ∧ r < (M 1172 9 0) ∧ ((M 1218 r 2) = a ∧ mtC M (M 6 12 0) r)))) ?_ ?_
  · skip
    refine qW_for ((M 1172 9 0)) (fun i s => s = (a, 0, b01 (∃ k, 0 ≤ k ∧ k < i ∧ (M 1218 k 2) = a ∧ mtC M (M 6 12 0) k), i)) ?_ ?_ ?_ (by omega) (by omega)
    · rintro i _ i0 i1 rfl
      have hs : b01 (∃ k, 0 ≤ k ∧ k < i + 1 ∧ (M 1218 k 2) = a ∧ mtC M (M 6 12 0) k) = b01 ((∃ k, 0 ≤ k ∧ k < i ∧ (M 1218 k 2) = a ∧ mtC M (M 6 12 0) k) ∨ ((M 1218 i 2) = a ∧ mtC M (M 6 12 0) i)) := b01_c (ex_s i0)
      have e1 : w32 (i + 1) = i + 1 := w32_id (by omega) (by omega)
      have e3 := isMetR_e h_mfault h_muntil h_mnow h_mvalue h_mzones h_mzonep h_mrows h_mrow hz i0 i1
      have q := h_mrow i i0 i1
      have f1 := isSureR_e h_mfault h_muntil h_mnow h_mvalue h_mzones h_mzonep hz q.2.2.2.1 q.2.2.2.2.1 q.2.2.2.2.2.1
      have f2 := fun (y : 0 ≤ (K 2225 i 0)) => isSureR_e h_mfault h_muntil h_mnow h_mvalue h_mzones h_mzonep hz (z := (K 2225 i 0)) y q.2.2.2.2.2.2.2.1 (q.2.2.2.2.2.2.2.2.1 y)
      (try dsimp only at hs ⊢); generalize (∃ k, 0 ≤ k ∧ k < i ∧ (M 1218 k 2) = a ∧ mtC M (M 6 12 0) k) = sv at hs ⊢; unfold qf_X14_isCalled_L5_b qf_X14_isCalled_J38 qf_X14_isCalled_J39 qf_X14_isCalled_J84 qf_X14_isCalled_J88 qf_X14_isCalled_J89 qf_X14_isCalled_J112 qf_X14_isCalled_J116
      repeat' first
        | with_reducible refine qW_eq e3 ?_
        | with_reducible refine qW_eq f1 ?_
        | with_reducible refine qW_eq (f2 (by omega)) ?_
        | with_reducible refine qW_b (fun _ => ?_) (fun _ => ?_)
        | with_reducible refine qW_within (fun _ => ?_) (fun _ _ => ?_)
        | with_reducible refine qW_isIn (fun _ => ?_) (fun _ _ => ?_)
        | (exfalso; omega)
        | with_reducible refine qW_bind ?_
        | with_reducible refine qW_bnd ?_
        | with_reducible refine qW_some ?_
        | ((with_reducible refine qW_no ?_); omega)
        | with_reducible refine qW_pos rfl ?_
        | ((with_reducible refine qW_pos ?_ ?_); omega)
        | ((with_reducible refine qW_neg ?_ ?_); (first | omega | decide))
        | with_reducible refine qW_ite (fun _ => ?_) (fun _ => ?_)
        | dsimp only
      all_goals (rw [hs, e1]; first | (rw [b01_t (by first | assumption | exact Or.inl (by assumption) | exact Or.inr (by first | assumption | omega | grind) | grind)]) | (rw [b01_f (by first | assumption | omega | grind)]))
    · rintro _ rfl
      (try dsimp only); unfold qf_X14_isCalled_L5_b qf_X14_isCalled_J38 qf_X14_isCalled_J39 qf_X14_isCalled_J84 qf_X14_isCalled_J88 qf_X14_isCalled_J89 qf_X14_isCalled_J112 qf_X14_isCalled_J116
      repeat' first
        | with_reducible refine qW_within (fun _ => ?_) (fun _ _ => ?_)
        | with_reducible refine qW_isIn (fun _ => ?_) (fun _ _ => ?_)
        | (exfalso; omega)
        | with_reducible refine qW_bind ?_
        | with_reducible refine qW_bnd ?_
        | with_reducible refine qW_some ?_
        | ((with_reducible refine qW_no ?_); omega)
        | with_reducible refine qW_pos rfl ?_
        | ((with_reducible refine qW_pos ?_ ?_); omega)
        | ((with_reducible refine qW_neg ?_ ?_); (first | omega | decide))
        | with_reducible refine qW_ite (fun _ => ?_) (fun _ => ?_)
        | dsimp only
      all_goals rfl
    · rw [b01_f (by rintro ⟨k, k0, k1, _⟩; omega)]
  · rintro _ rfl
    (try dsimp only)
    rw [if_pos b01_01]
    exact qW_some rfl
theorem isCalledR1_e {M K : qm} (h_mfault : R_mfault M K) (h_muntil : R_muntil M K) (h_mnow : R_mnow M K) (h_mvalue : R_mvalue M K) (h_mzones : R_mzones M K) (h_mzonep : R_mzonep M K) (h_mrows : R_mrows M K) (h_mrow : R_mrow M K) (hz : znC M) {a : Int} : qf_X14_isCalled 20000 a 1 K = some (b01 (slC M (M 6 12 0) a)) := by
  have n := h_mrows
  unfold R_mrows at n
  refine qW_e ?_
  unfold qf_X14_isCalled qf_X14_isCalled_L5 slC
  refine qW_call (Q := fun o => o = .inr (b01 (∃ r, 0 ≤ r ∧ r < (M 1172 9 0) ∧ ((M 1218 r 2) = a ∧ mtC M (M 6 12 0) r ∧ suC M (M 6 12 0) r)))) ?_ ?_
  · skip
    refine qW_for ((M 1172 9 0)) (fun i s => s = (a, 1, b01 (∃ k, 0 ≤ k ∧ k < i ∧ (M 1218 k 2) = a ∧ mtC M (M 6 12 0) k ∧ suC M (M 6 12 0) k), i)) ?_ ?_ ?_ (by omega) (by omega)
    · rintro i _ i0 i1 rfl
      have hs : b01 (∃ k, 0 ≤ k ∧ k < i + 1 ∧ (M 1218 k 2) = a ∧ mtC M (M 6 12 0) k ∧ suC M (M 6 12 0) k) = b01 ((∃ k, 0 ≤ k ∧ k < i ∧ (M 1218 k 2) = a ∧ mtC M (M 6 12 0) k ∧ suC M (M 6 12 0) k) ∨ ((M 1218 i 2) = a ∧ mtC M (M 6 12 0) i ∧ suC M (M 6 12 0) i)) := b01_c (ex_s i0)
      have e1 : w32 (i + 1) = i + 1 := w32_id (by omega) (by omega)
      have e3 := isMetR_e h_mfault h_muntil h_mnow h_mvalue h_mzones h_mzonep h_mrows h_mrow hz i0 i1
      have q := h_mrow i i0 i1
      unfold suC at *
      have f1 := isSureR_e h_mfault h_muntil h_mnow h_mvalue h_mzones h_mzonep hz q.2.2.2.1 q.2.2.2.2.1 q.2.2.2.2.2.1
      have f2 := fun (y : 0 ≤ (K 2225 i 0)) => isSureR_e h_mfault h_muntil h_mnow h_mvalue h_mzones h_mzonep hz (z := (K 2225 i 0)) y q.2.2.2.2.2.2.2.1 (q.2.2.2.2.2.2.2.2.1 y)
      (try dsimp only at hs ⊢); generalize (∃ k, 0 ≤ k ∧ k < i ∧ (M 1218 k 2) = a ∧ mtC M (M 6 12 0) k ∧ suC M (M 6 12 0) k) = sv at hs ⊢; unfold qf_X14_isCalled_L5_b qf_X14_isCalled_J38 qf_X14_isCalled_J39 qf_X14_isCalled_J84 qf_X14_isCalled_J88 qf_X14_isCalled_J89 qf_X14_isCalled_J112 qf_X14_isCalled_J116
      repeat' first
        | with_reducible refine qW_eq e3 ?_
        | with_reducible refine qW_eq f1 ?_
        | with_reducible refine qW_eq (f2 (by omega)) ?_
        | with_reducible refine qW_b (fun _ => ?_) (fun _ => ?_)
        | with_reducible refine qW_within (fun _ => ?_) (fun _ _ => ?_)
        | with_reducible refine qW_isIn (fun _ => ?_) (fun _ _ => ?_)
        | (exfalso; omega)
        | with_reducible refine qW_bind ?_
        | with_reducible refine qW_bnd ?_
        | with_reducible refine qW_some ?_
        | ((with_reducible refine qW_no ?_); omega)
        | with_reducible refine qW_pos rfl ?_
        | ((with_reducible refine qW_pos ?_ ?_); omega)
        | ((with_reducible refine qW_neg ?_ ?_); (first | omega | decide))
        | with_reducible refine qW_ite (fun _ => ?_) (fun _ => ?_)
        | dsimp only
      all_goals (rw [hs, e1]; first | (rw [b01_t (by first | assumption | exact Or.inl (by assumption) | exact Or.inr (by first | assumption | omega | grind) | grind)]) | (rw [b01_f (by first | assumption | omega | grind)]))
    · rintro _ rfl
      (try dsimp only); unfold qf_X14_isCalled_L5_b qf_X14_isCalled_J38 qf_X14_isCalled_J39 qf_X14_isCalled_J84 qf_X14_isCalled_J88 qf_X14_isCalled_J89 qf_X14_isCalled_J112 qf_X14_isCalled_J116
      repeat' first
        | with_reducible refine qW_within (fun _ => ?_) (fun _ _ => ?_)
        | with_reducible refine qW_isIn (fun _ => ?_) (fun _ _ => ?_)
        | (exfalso; omega)
        | with_reducible refine qW_bind ?_
        | with_reducible refine qW_bnd ?_
        | with_reducible refine qW_some ?_
        | ((with_reducible refine qW_no ?_); omega)
        | with_reducible refine qW_pos rfl ?_
        | ((with_reducible refine qW_pos ?_ ?_); omega)
        | ((with_reducible refine qW_neg ?_ ?_); (first | omega | decide))
        | with_reducible refine qW_ite (fun _ => ?_) (fun _ => ?_)
        | dsimp only
      all_goals rfl
    · rw [b01_f (by rintro ⟨k, k0, k1, _⟩; omega)]
  · rintro _ rfl
    (try dsimp only)
    rw [if_pos b01_01]
    exact qW_some rfl
