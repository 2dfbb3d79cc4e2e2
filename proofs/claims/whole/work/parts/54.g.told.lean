/-! ===== the calls told, cell, inside, fire ===== -/
set_option maxHeartbeats 1000000 in
theorem op_told {M K : qm} {x1 : Int} (h_built : R_built M K) (h_time : R_time M K) (h_personn : R_personn M K) (h_persons : R_persons M K) (h_personb : R_personb M K) (h_rooms : R_rooms M K) (h_smoky : R_smoky M K) (h_opens : R_opens M K) (h_calln : R_calln M K) (h_calls : R_calls M K) (h_macts : R_macts M K) (h_mstate : R_mstate M K) (h_portn : R_portn M K) : oK2 cI (qf_L_told 20000 x1 M) (qf_X18_told 20000 x1 K) (fun _ _ => True) := by
  have s_built := h_built
  unfold R_built at s_built
  have s_time := h_time
  unfold R_time at s_time
  have s_personn := h_personn
  unfold R_personn at s_personn
  have s_smoky := h_smoky
  unfold R_smoky at s_smoky
  have s_calln := h_calln
  unfold R_calln at s_calln
  have s_portn := h_portn
  unfold R_portn at s_portn
  have k1 := fun _ : Unit => opens_eq2 h_calls h_opens h_calln
  have k2 := fun _ : Unit => free_eq h_personn h_persons h_personb
  have k3 := fun _ : Unit => done_eq h_macts h_mstate
  have d0 : ∀ k, 0 ≤ k → qW (qf_X14_done 20000 k (qw K 2156 0 0 0)) (fun r => (0 < r ∧ kdC M k) ∨ (r = 0 ∧ ¬ kdC M k)) := fun k h => done2_r (M := M) (K := qw K 2156 0 0 0) (R_macts_x (M := M) (K := K) (fun _ _ => rfl) (fun _ _ => rfl) (fun _ _ => rfl) (fun _ _ => rfl) (fun _ _ => rfl) (fun _ _ => rfl) (fun _ _ => rfl) (fun _ _ => rfl) h_macts) (R_mstate_x (M := M) (K := K) rfl (fun _ _ => rfl) (fun _ _ => rfl) (fun _ _ => rfl) (fun _ _ => rfl) (fun _ _ => rfl) (fun _ _ => rfl) (fun _ _ => rfl) (fun _ _ => rfl) h_mstate) h
  have k5 : Unit → sI (fun c => if (K 2326 c 0) ≠ 0 ∧ ((-1 : Int) < 0 ∨ (K 2329 c 0) = -1) then 1 else 0) 576 = (M 756 4 0) := by
    intro _
    rw [s_smoky]
    refine sI_c (fun c _ _ => ?_)
    (try dsimp only)
    by_cases e : (K 2326 c 0) = 0
    · rw [if_pos e, if_neg (fun x => x.1 e)]
    · rw [if_neg e, if_pos ⟨e, Or.inl (by decide)⟩]
  clear s_smoky
  unfold oK2
  unfold qf_L_told qf_X11_told qf_X11_told_J130 qf_X11_doPersonsLeave qf_X11_told_J117 qf_X11_isHome qf_X11_told_J104 qf_X11_isReleased qf_X11_told_J96 qf_X11_told_J88 qf_X11_told_J80 qf_X11_told_J72 qf_X11_told_J64 qf_X18_told qf_X18_told_J131 qf_X18_told_J114 qf_X18_told_J101 qf_X18_isReleased qf_X18_told_J93 qf_X18_told_J87 qf_X18_told_J78
  repeat' first
    | (exfalso; first | exact hk2 hk | exact hk hk2)
    | (with_reducible refine qW_call (countFreeInside_r (psC_of h_personn h_persons h_personb)) ?_; rintro _ rfl)
    | (with_reducible refine qW_call countDone_r ?_; rintro _ rfl)
    | (with_reducible refine qW_call isKindDone_r ?_; rintro _ (⟨rfl, hk⟩ | ⟨rfl, hk⟩))
    | (with_reducible refine qW_call (inSpaces_r (by try simp only [qw_ap, qfl1_ap, qfl2_ap, qcp1_ap, qcp2_ap, false_and, true_and, and_true, and_false, and_self, if_false, if_true, reduceIte, Nat.reduceEqDiff, Int.reduceEq, Int.reduceNeg]; omega) (by try simp only [qw_ap, qfl1_ap, qfl2_ap, qcp1_ap, qcp2_ap, false_and, true_and, and_true, and_false, and_self, if_false, if_true, reduceIte, Nat.reduceEqDiff, Int.reduceEq, Int.reduceNeg]; omega)) ?_; rintro _ rfl)
    | (with_reducible refine qW_call (d0 _ (by decide)) ?_; rintro d (⟨hd, hk2⟩ | ⟨hd, hk2⟩))
    | (with_reducible refine qW_call done_r ?_; rintro _ rfl)
    | (with_reducible refine qW_call smokes_r ?_; rintro _ rfl)
    | (with_reducible refine qW_call (many_r (by try simp only [qw_ap, qfl1_ap, qfl2_ap, qcp1_ap, qcp2_ap, false_and, true_and, and_true, and_false, and_self, if_false, if_true, reduceIte, Nat.reduceEqDiff, Int.reduceEq, Int.reduceNeg]; omega) (by try simp only [qw_ap, qfl1_ap, qfl2_ap, qcp1_ap, qcp2_ap, false_and, true_and, and_true, and_false, and_self, if_false, if_true, reduceIte, Nat.reduceEqDiff, Int.reduceEq, Int.reduceNeg]; omega)) ?_; rintro _ rfl)
    | with_reducible refine qW_within (fun _ => ?_) (fun _ _ => ?_)
    | with_reducible refine qW_isIn (fun _ => ?_) (fun _ _ => ?_)
    | with_reducible refine qW_na (fun _ => ?_) (fun _ => ?_)
    | with_reducible refine qW_ns (fun _ => ?_) (fun _ => ?_)
    | (with_reducible refine qW_goes (fun _ => ?_) (fun _ _ => ?_) (fun _ _ => ?_) <;> (try dsimp only) <;> (try simp only [qw_ap, qfl1_ap, qfl2_ap, qcp1_ap, qcp2_ap, false_and, true_and, and_true, and_false, and_self, if_false, if_true, reduceIte, Nat.reduceEqDiff, Int.reduceEq, Int.reduceNeg]))
    | (with_reducible refine qW_stays (by omega) (fun _ => ?_) (fun _ => ?_) <;> (try dsimp only) <;> (try simp only [qw_ap, qfl1_ap, qfl2_ap, qcp1_ap, qcp2_ap, false_and, true_and, and_true, and_false, and_self, if_false, if_true, reduceIte, Nat.reduceEqDiff, Int.reduceEq, Int.reduceNeg]))
    | (exfalso; omega)
    | with_reducible refine qW_bind ?_
    | (with_reducible refine qW_bnd ?_; try simp only [qw_ap, qfl1_ap, qfl2_ap, qcp1_ap, qcp2_ap, false_and, true_and, and_true, and_false, and_self, if_false, if_true, reduceIte, Nat.reduceEqDiff, Int.reduceEq, Int.reduceNeg])
    | (with_reducible refine qW_some ?_; (try dsimp only); try simp only [qw_ap, qfl1_ap, qfl2_ap, qcp1_ap, qcp2_ap, false_and, true_and, and_true, and_false, and_self, if_false, if_true, reduceIte, Nat.reduceEqDiff, Int.reduceEq, Int.reduceNeg])
    | ((with_reducible refine qW_no ?_); omega)
    | with_reducible refine qW_pos rfl ?_
    | ((with_reducible refine qW_pos ?_ ?_); omega)
    | ((with_reducible refine qW_neg ?_ ?_); (first | omega | decide))
    | with_reducible refine qW_ite (fun _ => ?_) (fun _ => ?_)
    | dsimp only
  all_goals first
    | (intro hz; exact absurd hz (by decide))
    | (intro _; show cI _ _; unfold cI; (try simp only [qw_ap, false_and, true_and, and_true, and_false, and_self, if_false, if_true, reduceIte, Nat.reduceEqDiff, Int.reduceEq]); first | done | with_reducible rfl | with_reducible exact s_portn.2.2.1.symm | with_reducible exact (k2 ()).symm | with_reducible exact (k3 ()).symm | with_reducible exact (k5 ()).symm | with_reducible exact (k1 ()).symm | with_reducible exact s_time.2.2.symm)
  all_goals trace_state
