/-! ===== counts ===== -/
theorem countDone_r {M : qm} : qW (qf_X4_countDone 20000 M) (fun r => r = sI (fun a => if (M 1270 a 0) = 2 then 1 else 0) 20) := by
  unfold qf_X4_countDone qf_X4_countDone_L4
  refine qW_call (Q := fun o => o = .inr (sI (fun i => if (M 1270 i 0) = 2 then 1 else 0) (20))) ?_ ?_
  · refine qW_for (20) (fun i s => s = (sI (fun i => if (M 1270 i 0) = 2 then 1 else 0) i, i)) ?_ ?_ rfl (by omega) (by omega)
    · rintro i _ i0 i1 rfl
      have hb := sI_b (g := (fun i => if (M 1270 i 0) = 2 then 1 else 0)) i0 (fun _ _ _ => ite01)
      (try dsimp only); unfold qf_X4_countDone_L4_b qf_X4_countDone_J29
      repeat' first
        | (refine qW_no ?_; omega)
        | (with_reducible refine qW_bnd ?_; try simp only [qw_ap, qfl1_ap, qfl2_ap, qcp1_ap, qcp2_ap, false_and, true_and, and_true, and_false, and_self, if_false, if_true, reduceIte, Nat.reduceEqDiff])
        | with_reducible refine qW_within (fun _ => ?_) (fun _ _ => ?_)
        | with_reducible refine qW_isIn (fun _ => ?_) (fun _ _ => ?_)
        | with_reducible refine qW_na (fun _ => ?_) (fun _ => ?_)
        | with_reducible refine qW_ns (fun _ => ?_) (fun _ => ?_)
        | (with_reducible refine qW_goes (fun _ => ?_) (fun _ _ => ?_) (fun _ _ => ?_) <;> (try dsimp only) <;> (try simp only [qw_ap, qfl1_ap, qfl2_ap, qcp1_ap, qcp2_ap, false_and, true_and, and_true, and_false, and_self, if_false, if_true, reduceIte, Nat.reduceEqDiff]))
        | (with_reducible refine qW_stays (by omega) (fun _ => ?_) (fun _ => ?_) <;> (try dsimp only) <;> (try simp only [qw_ap, qfl1_ap, qfl2_ap, qcp1_ap, qcp2_ap, false_and, true_and, and_true, and_false, and_self, if_false, if_true, reduceIte, Nat.reduceEqDiff]))
        | (exfalso; omega)
        | with_reducible refine qW_bind ?_
        | (with_reducible refine qW_some ?_; (try dsimp only); try simp only [qw_ap, qfl1_ap, qfl2_ap, qcp1_ap, qcp2_ap, false_and, true_and, and_true, and_false, and_self, if_false, if_true, reduceIte, Nat.reduceEqDiff])
        | with_reducible refine qW_pos rfl ?_
        | (refine qW_pos (by omega) ?_)
        | (refine qW_neg (by first | omega | decide) ?_)
        | with_reducible refine qW_ite (fun _ => ?_) (fun _ => ?_)
        | dsimp only
      all_goals (have hs := sI_s (f := (fun i => if (M 1270 i 0) = 2 then 1 else 0)) i0; (try dsimp only at hs); (try simp only [Prod.mk.injEq, w32_id (x := i + 1) (by omega) (by omega), and_true, true_and, Sum.inr.injEq]); (try rw [hs]); (try rw [w32_id (by omega) (by omega)]); grind)
    · rintro _ rfl
      (try dsimp only); unfold qf_X4_countDone_L4_b qf_X4_countDone_J29
      repeat' first
        | (refine qW_no ?_; omega)
        | (with_reducible refine qW_bnd ?_; try simp only [qw_ap, qfl1_ap, qfl2_ap, qcp1_ap, qcp2_ap, false_and, true_and, and_true, and_false, and_self, if_false, if_true, reduceIte, Nat.reduceEqDiff])
        | with_reducible refine qW_within (fun _ => ?_) (fun _ _ => ?_)
        | with_reducible refine qW_isIn (fun _ => ?_) (fun _ _ => ?_)
        | with_reducible refine qW_na (fun _ => ?_) (fun _ => ?_)
        | with_reducible refine qW_ns (fun _ => ?_) (fun _ => ?_)
        | (with_reducible refine qW_goes (fun _ => ?_) (fun _ _ => ?_) (fun _ _ => ?_) <;> (try dsimp only) <;> (try simp only [qw_ap, qfl1_ap, qfl2_ap, qcp1_ap, qcp2_ap, false_and, true_and, and_true, and_false, and_self, if_false, if_true, reduceIte, Nat.reduceEqDiff]))
        | (with_reducible refine qW_stays (by omega) (fun _ => ?_) (fun _ => ?_) <;> (try dsimp only) <;> (try simp only [qw_ap, qfl1_ap, qfl2_ap, qcp1_ap, qcp2_ap, false_and, true_and, and_true, and_false, and_self, if_false, if_true, reduceIte, Nat.reduceEqDiff]))
        | (exfalso; omega)
        | with_reducible refine qW_bind ?_
        | (with_reducible refine qW_some ?_; (try dsimp only); try simp only [qw_ap, qfl1_ap, qfl2_ap, qcp1_ap, qcp2_ap, false_and, true_and, and_true, and_false, and_self, if_false, if_true, reduceIte, Nat.reduceEqDiff])
        | with_reducible refine qW_pos rfl ?_
        | (refine qW_pos (by omega) ?_)
        | (refine qW_neg (by first | omega | decide) ?_)
        | with_reducible refine qW_ite (fun _ => ?_) (fun _ => ?_)
        | dsimp only
      all_goals (first | rfl | omega | grind)
  · rintro _ rfl
    exact qW_some rfl
theorem done_r {M : qm} {x : Int} : qW (qf_X14_done 20000 x M) (fun r => r = sI (fun a => if (M 2219 a 0) ≠ 0 ∧ (M 2227 a 0) = 2 ∧ (x < 0 ∨ (M 2220 a 0) = x) then 1 else 0) 20) := by
  unfold qf_X14_done qf_X14_done_L4
  refine qW_call (Q := fun o => o = .inr (sI (fun i => if (M 2219 i 0) ≠ 0 ∧ (M 2227 i 0) = 2 ∧ (x < 0 ∨ (M 2220 i 0) = x) then 1 else 0) (20))) ?_ ?_
  · refine qW_for (20) (fun i s => s = (x, sI (fun i => if (M 2219 i 0) ≠ 0 ∧ (M 2227 i 0) = 2 ∧ (x < 0 ∨ (M 2220 i 0) = x) then 1 else 0) i, i)) ?_ ?_ rfl (by omega) (by omega)
    · rintro i _ i0 i1 rfl
      have hb := sI_b (g := (fun i => if (M 2219 i 0) ≠ 0 ∧ (M 2227 i 0) = 2 ∧ (x < 0 ∨ (M 2220 i 0) = x) then 1 else 0)) i0 (fun _ _ _ => ite01)
      (try dsimp only); unfold qf_X14_done_L4_b qf_X14_done_J44 qf_X14_done_J48 qf_X14_done_J49
      repeat' first
        | (refine qW_no ?_; omega)
        | (with_reducible refine qW_bnd ?_; try simp only [qw_ap, qfl1_ap, qfl2_ap, qcp1_ap, qcp2_ap, false_and, true_and, and_true, and_false, and_self, if_false, if_true, reduceIte, Nat.reduceEqDiff])
        | with_reducible refine qW_within (fun _ => ?_) (fun _ _ => ?_)
        | with_reducible refine qW_isIn (fun _ => ?_) (fun _ _ => ?_)
        | with_reducible refine qW_na (fun _ => ?_) (fun _ => ?_)
        | with_reducible refine qW_ns (fun _ => ?_) (fun _ => ?_)
        | (with_reducible refine qW_goes (fun _ => ?_) (fun _ _ => ?_) (fun _ _ => ?_) <;> (try dsimp only) <;> (try simp only [qw_ap, qfl1_ap, qfl2_ap, qcp1_ap, qcp2_ap, false_and, true_and, and_true, and_false, and_self, if_false, if_true, reduceIte, Nat.reduceEqDiff]))
        | (with_reducible refine qW_stays (by omega) (fun _ => ?_) (fun _ => ?_) <;> (try dsimp only) <;> (try simp only [qw_ap, qfl1_ap, qfl2_ap, qcp1_ap, qcp2_ap, false_and, true_and, and_true, and_false, and_self, if_false, if_true, reduceIte, Nat.reduceEqDiff]))
        | (exfalso; omega)
        | with_reducible refine qW_bind ?_
        | (with_reducible refine qW_some ?_; (try dsimp only); try simp only [qw_ap, qfl1_ap, qfl2_ap, qcp1_ap, qcp2_ap, false_and, true_and, and_true, and_false, and_self, if_false, if_true, reduceIte, Nat.reduceEqDiff])
        | with_reducible refine qW_pos rfl ?_
        | (refine qW_pos (by omega) ?_)
        | (refine qW_neg (by first | omega | decide) ?_)
        | with_reducible refine qW_ite (fun _ => ?_) (fun _ => ?_)
        | dsimp only
      all_goals (have hs := sI_s (f := (fun i => if (M 2219 i 0) ≠ 0 ∧ (M 2227 i 0) = 2 ∧ (x < 0 ∨ (M 2220 i 0) = x) then 1 else 0)) i0; (try dsimp only at hs); (try simp only [Prod.mk.injEq, w32_id (x := i + 1) (by omega) (by omega), and_true, true_and, Sum.inr.injEq]); (try rw [hs]); (try rw [w32_id (by omega) (by omega)]); grind)
    · rintro _ rfl
      (try dsimp only); unfold qf_X14_done_L4_b qf_X14_done_J44 qf_X14_done_J48 qf_X14_done_J49
      repeat' first
        | (refine qW_no ?_; omega)
        | (with_reducible refine qW_bnd ?_; try simp only [qw_ap, qfl1_ap, qfl2_ap, qcp1_ap, qcp2_ap, false_and, true_and, and_true, and_false, and_self, if_false, if_true, reduceIte, Nat.reduceEqDiff])
        | with_reducible refine qW_within (fun _ => ?_) (fun _ _ => ?_)
        | with_reducible refine qW_isIn (fun _ => ?_) (fun _ _ => ?_)
        | with_reducible refine qW_na (fun _ => ?_) (fun _ => ?_)
        | with_reducible refine qW_ns (fun _ => ?_) (fun _ => ?_)
        | (with_reducible refine qW_goes (fun _ => ?_) (fun _ _ => ?_) (fun _ _ => ?_) <;> (try dsimp only) <;> (try simp only [qw_ap, qfl1_ap, qfl2_ap, qcp1_ap, qcp2_ap, false_and, true_and, and_true, and_false, and_self, if_false, if_true, reduceIte, Nat.reduceEqDiff]))
        | (with_reducible refine qW_stays (by omega) (fun _ => ?_) (fun _ => ?_) <;> (try dsimp only) <;> (try simp only [qw_ap, qfl1_ap, qfl2_ap, qcp1_ap, qcp2_ap, false_and, true_and, and_true, and_false, and_self, if_false, if_true, reduceIte, Nat.reduceEqDiff]))
        | (exfalso; omega)
        | with_reducible refine qW_bind ?_
        | (with_reducible refine qW_some ?_; (try dsimp only); try simp only [qw_ap, qfl1_ap, qfl2_ap, qcp1_ap, qcp2_ap, false_and, true_and, and_true, and_false, and_self, if_false, if_true, reduceIte, Nat.reduceEqDiff])
        | with_reducible refine qW_pos rfl ?_
        | (refine qW_pos (by omega) ?_)
        | (refine qW_neg (by first | omega | decide) ?_)
        | with_reducible refine qW_ite (fun _ => ?_) (fun _ => ?_)
        | dsimp only
      all_goals (first | rfl | omega | grind)
  · rintro _ rfl
    exact qW_some rfl
theorem smokes_r {M : qm} {x : Int} : qW (qf_X18_smokes 20000 x M) (fun r => r = sI (fun c => if (M 2326 c 0) ≠ 0 ∧ (x < 0 ∨ (M 2329 c 0) = x) then 1 else 0) 576) := by
  unfold qf_X18_smokes qf_X18_smokes_L4
  refine qW_call (Q := fun o => o = .inr (sI (fun i => if (M 2326 i 0) ≠ 0 ∧ (x < 0 ∨ (M 2329 i 0) = x) then 1 else 0) (576))) ?_ ?_
  · refine qW_for (576) (fun i s => s = (x, sI (fun i => if (M 2326 i 0) ≠ 0 ∧ (x < 0 ∨ (M 2329 i 0) = x) then 1 else 0) i, i)) ?_ ?_ rfl (by omega) (by omega)
    · rintro i _ i0 i1 rfl
      have hb := sI_b (g := (fun i => if (M 2326 i 0) ≠ 0 ∧ (x < 0 ∨ (M 2329 i 0) = x) then 1 else 0)) i0 (fun _ _ _ => ite01)
      (try dsimp only); unfold qf_X18_smokes_L4_b qf_X18_smokes_J35 qf_X18_smokes_J39 qf_X18_smokes_J40
      repeat' first
        | (refine qW_no ?_; omega)
        | (with_reducible refine qW_bnd ?_; try simp only [qw_ap, qfl1_ap, qfl2_ap, qcp1_ap, qcp2_ap, false_and, true_and, and_true, and_false, and_self, if_false, if_true, reduceIte, Nat.reduceEqDiff])
        | with_reducible refine qW_within (fun _ => ?_) (fun _ _ => ?_)
        | with_reducible refine qW_isIn (fun _ => ?_) (fun _ _ => ?_)
        | with_reducible refine qW_na (fun _ => ?_) (fun _ => ?_)
        | with_reducible refine qW_ns (fun _ => ?_) (fun _ => ?_)
        | (with_reducible refine qW_goes (fun _ => ?_) (fun _ _ => ?_) (fun _ _ => ?_) <;> (try dsimp only) <;> (try simp only [qw_ap, qfl1_ap, qfl2_ap, qcp1_ap, qcp2_ap, false_and, true_and, and_true, and_false, and_self, if_false, if_true, reduceIte, Nat.reduceEqDiff]))
        | (with_reducible refine qW_stays (by omega) (fun _ => ?_) (fun _ => ?_) <;> (try dsimp only) <;> (try simp only [qw_ap, qfl1_ap, qfl2_ap, qcp1_ap, qcp2_ap, false_and, true_and, and_true, and_false, and_self, if_false, if_true, reduceIte, Nat.reduceEqDiff]))
        | (exfalso; omega)
        | with_reducible refine qW_bind ?_
        | (with_reducible refine qW_some ?_; (try dsimp only); try simp only [qw_ap, qfl1_ap, qfl2_ap, qcp1_ap, qcp2_ap, false_and, true_and, and_true, and_false, and_self, if_false, if_true, reduceIte, Nat.reduceEqDiff])
        | with_reducible refine qW_pos rfl ?_
        | (refine qW_pos (by omega) ?_)
        | (refine qW_neg (by first | omega | decide) ?_)
        | with_reducible refine qW_ite (fun _ => ?_) (fun _ => ?_)
        | dsimp only
      all_goals (have hs := sI_s (f := (fun i => if (M 2326 i 0) ≠ 0 ∧ (x < 0 ∨ (M 2329 i 0) = x) then 1 else 0)) i0; (try dsimp only at hs); (try simp only [Prod.mk.injEq, w32_id (x := i + 1) (by omega) (by omega), and_true, true_and, Sum.inr.injEq]); (try rw [hs]); (try rw [w32_id (by omega) (by omega)]); grind)
    · rintro _ rfl
      (try dsimp only); unfold qf_X18_smokes_L4_b qf_X18_smokes_J35 qf_X18_smokes_J39 qf_X18_smokes_J40
      repeat' first
        | (refine qW_no ?_; omega)
        | (with_reducible refine qW_bnd ?_; try simp only [qw_ap, qfl1_ap, qfl2_ap, qcp1_ap, qcp2_ap, false_and, true_and, and_true, and_false, and_self, if_false, if_true, reduceIte, Nat.reduceEqDiff])
        | with_reducible refine qW_within (fun _ => ?_) (fun _ _ => ?_)
        | with_reducible refine qW_isIn (fun _ => ?_) (fun _ _ => ?_)
        | with_reducible refine qW_na (fun _ => ?_) (fun _ => ?_)
        | with_reducible refine qW_ns (fun _ => ?_) (fun _ => ?_)
        | (with_reducible refine qW_goes (fun _ => ?_) (fun _ _ => ?_) (fun _ _ => ?_) <;> (try dsimp only) <;> (try simp only [qw_ap, qfl1_ap, qfl2_ap, qcp1_ap, qcp2_ap, false_and, true_and, and_true, and_false, and_self, if_false, if_true, reduceIte, Nat.reduceEqDiff]))
        | (with_reducible refine qW_stays (by omega) (fun _ => ?_) (fun _ => ?_) <;> (try dsimp only) <;> (try simp only [qw_ap, qfl1_ap, qfl2_ap, qcp1_ap, qcp2_ap, false_and, true_and, and_true, and_false, and_self, if_false, if_true, reduceIte, Nat.reduceEqDiff]))
        | (exfalso; omega)
        | with_reducible refine qW_bind ?_
        | (with_reducible refine qW_some ?_; (try dsimp only); try simp only [qw_ap, qfl1_ap, qfl2_ap, qcp1_ap, qcp2_ap, false_and, true_and, and_true, and_false, and_self, if_false, if_true, reduceIte, Nat.reduceEqDiff])
        | with_reducible refine qW_pos rfl ?_
        | (refine qW_pos (by omega) ?_)
        | (refine qW_neg (by first | omega | decide) ?_)
        | with_reducible refine qW_ite (fun _ => ?_) (fun _ => ?_)
        | dsimp only
      all_goals (first | rfl | omega | grind)
  · rintro _ rfl
    exact qW_some rfl
theorem inSpaces_r {M : qm} (h0 : 0 ≤ (M 2156 27 0)) (h1 : (M 2156 27 0) ≤ 40) : qW (qf_X18_inSpaces 20000 M) (fun r => r = sI (fun p => if (M 2306 p 0) < (M 2156 9 0) ∧ (M 2309 p 0) < 0 then 1 else 0) (M 2156 27 0)) := by
  unfold qf_X18_inSpaces qf_X18_inSpaces_L4
  refine qW_call (Q := fun o => o = .inr (sI (fun i => if (M 2306 i 0) < (M 2156 9 0) ∧ (M 2309 i 0) < 0 then 1 else 0) ((M 2156 27 0)))) ?_ ?_
  · refine qW_for ((M 2156 27 0)) (fun i s => s = (sI (fun i => if (M 2306 i 0) < (M 2156 9 0) ∧ (M 2309 i 0) < 0 then 1 else 0) i, i)) ?_ ?_ rfl (by omega) (by omega)
    · rintro i _ i0 i1 rfl
      have hb := sI_b (g := (fun i => if (M 2306 i 0) < (M 2156 9 0) ∧ (M 2309 i 0) < 0 then 1 else 0)) i0 (fun _ _ _ => ite01)
      (try dsimp only); unfold qf_X18_inSpaces_L4_b qf_X18_inSpaces_J39 qf_X18_inSpaces_J40
      repeat' first
        | (refine qW_no ?_; omega)
        | (with_reducible refine qW_bnd ?_; try simp only [qw_ap, qfl1_ap, qfl2_ap, qcp1_ap, qcp2_ap, false_and, true_and, and_true, and_false, and_self, if_false, if_true, reduceIte, Nat.reduceEqDiff])
        | with_reducible refine qW_within (fun _ => ?_) (fun _ _ => ?_)
        | with_reducible refine qW_isIn (fun _ => ?_) (fun _ _ => ?_)
        | with_reducible refine qW_na (fun _ => ?_) (fun _ => ?_)
        | with_reducible refine qW_ns (fun _ => ?_) (fun _ => ?_)
        | (with_reducible refine qW_goes (fun _ => ?_) (fun _ _ => ?_) (fun _ _ => ?_) <;> (try dsimp only) <;> (try simp only [qw_ap, qfl1_ap, qfl2_ap, qcp1_ap, qcp2_ap, false_and, true_and, and_true, and_false, and_self, if_false, if_true, reduceIte, Nat.reduceEqDiff]))
        | (with_reducible refine qW_stays (by omega) (fun _ => ?_) (fun _ => ?_) <;> (try dsimp only) <;> (try simp only [qw_ap, qfl1_ap, qfl2_ap, qcp1_ap, qcp2_ap, false_and, true_and, and_true, and_false, and_self, if_false, if_true, reduceIte, Nat.reduceEqDiff]))
        | (exfalso; omega)
        | with_reducible refine qW_bind ?_
        | (with_reducible refine qW_some ?_; (try dsimp only); try simp only [qw_ap, qfl1_ap, qfl2_ap, qcp1_ap, qcp2_ap, false_and, true_and, and_true, and_false, and_self, if_false, if_true, reduceIte, Nat.reduceEqDiff])
        | with_reducible refine qW_pos rfl ?_
        | (refine qW_pos (by omega) ?_)
        | (refine qW_neg (by first | omega | decide) ?_)
        | with_reducible refine qW_ite (fun _ => ?_) (fun _ => ?_)
        | dsimp only
      all_goals (have hs := sI_s (f := (fun i => if (M 2306 i 0) < (M 2156 9 0) ∧ (M 2309 i 0) < 0 then 1 else 0)) i0; (try dsimp only at hs); (try simp only [Prod.mk.injEq, w32_id (x := i + 1) (by omega) (by omega), and_true, true_and, Sum.inr.injEq]); (try rw [hs]); (try rw [w32_id (by omega) (by omega)]); grind)
    · rintro _ rfl
      (try dsimp only); unfold qf_X18_inSpaces_L4_b qf_X18_inSpaces_J39 qf_X18_inSpaces_J40
      repeat' first
        | (refine qW_no ?_; omega)
        | (with_reducible refine qW_bnd ?_; try simp only [qw_ap, qfl1_ap, qfl2_ap, qcp1_ap, qcp2_ap, false_and, true_and, and_true, and_false, and_self, if_false, if_true, reduceIte, Nat.reduceEqDiff])
        | with_reducible refine qW_within (fun _ => ?_) (fun _ _ => ?_)
        | with_reducible refine qW_isIn (fun _ => ?_) (fun _ _ => ?_)
        | with_reducible refine qW_na (fun _ => ?_) (fun _ => ?_)
        | with_reducible refine qW_ns (fun _ => ?_) (fun _ => ?_)
        | (with_reducible refine qW_goes (fun _ => ?_) (fun _ _ => ?_) (fun _ _ => ?_) <;> (try dsimp only) <;> (try simp only [qw_ap, qfl1_ap, qfl2_ap, qcp1_ap, qcp2_ap, false_and, true_and, and_true, and_false, and_self, if_false, if_true, reduceIte, Nat.reduceEqDiff]))
        | (with_reducible refine qW_stays (by omega) (fun _ => ?_) (fun _ => ?_) <;> (try dsimp only) <;> (try simp only [qw_ap, qfl1_ap, qfl2_ap, qcp1_ap, qcp2_ap, false_and, true_and, and_true, and_false, and_self, if_false, if_true, reduceIte, Nat.reduceEqDiff]))
        | (exfalso; omega)
        | with_reducible refine qW_bind ?_
        | (with_reducible refine qW_some ?_; (try dsimp only); try simp only [qw_ap, qfl1_ap, qfl2_ap, qcp1_ap, qcp2_ap, false_and, true_and, and_true, and_false, and_self, if_false, if_true, reduceIte, Nat.reduceEqDiff])
        | with_reducible refine qW_pos rfl ?_
        | (refine qW_pos (by omega) ?_)
        | (refine qW_neg (by first | omega | decide) ?_)
        | with_reducible refine qW_ite (fun _ => ?_) (fun _ => ?_)
        | dsimp only
      all_goals (first | rfl | omega | grind)
  · rintro _ rfl
    exact qW_some rfl
