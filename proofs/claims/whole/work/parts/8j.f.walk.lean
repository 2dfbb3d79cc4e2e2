/-! ===== the law between two calls: what single functions leave (wip/tools/q/genwk.py) ===== -/
section LIf
variable {M K : qm}
theorem qP_bn {α : Type} {m : qm} {Y : qm → Option α} {Q : α → Prop} (h : qP (Y m) Q) : qP (qbnd m Y) Q := h
theorem qP_if {α : Type} {x y : Option α} {Q : α → Prop} {c : Prop} {dc : Decidable c} (h1 : c → qP x Q) (h2 : ¬ c → qP y Q) : qP (@ite _ c dc x y) Q := by
  by_cases h : c
  · rw [if_pos h]
    exact h1 h
  · rw [if_neg h]
    exact h2 h
theorem needState_q {t : Int} : qP (qf_X11_needState 20000 t M) (fun r => ∀ u, r = .inl u → t ≠ 0) := by
  unfold qf_X11_needState
  refine qP_if (fun _ => qP_some (fun u e => ?_)) (fun w => qP_some (fun _ _ => w))
  cases e
theorem needArg_q {t : Int} : qP (qf_X11_needArgument 20000 t M) (fun r => ∀ u, r = .inl u → t ≠ 0) := by
  unfold qf_X11_needArgument
  refine qP_if (fun _ => qP_some (fun u e => ?_)) (fun w => qP_some (fun _ _ => w))
  cases e
theorem goes_q {t1 t2 : Int} : qP (qf_X18_goes 20000 t1 t2 K) (fun r => (r.1 ≠ 0 → t1 ≠ 0 ∧ t2 ≠ 0) ∧ ∀ (b : Nat) (i j : Int), ¬ (b = 2156 ∧ i = 0) → r.2 b i j = K b i j) := by
  have q : ∀ v, qP (qf_X18_goes_J18 20000 v K) (fun r => (r.1 ≠ 0 → v = 0) ∧ ∀ (b : Nat) (i j : Int), ¬ (b = 2156 ∧ i = 0) → r.2 b i j = K b i j) := fun v => by
    unfold qf_X18_goes_J18
    refine qP_bn ?_
    rw [show (qw K 2156 0 0 v) 2156 0 0 = v from qw_s]
    refine qP_if (fun w => qP_some ⟨fun _ => w, fun b i j g => ?_⟩) (fun w => qP_some ⟨fun y => absurd rfl y, fun b i j g => ?_⟩)
    · exact (qw_ap).trans (if_neg (fun z => g ⟨z.1, z.2.1⟩))
    · exact (qw_ap).trans (if_neg (fun z => g ⟨z.1, z.2.1⟩))
  unfold qf_X18_goes
  refine qP_if (fun w => qP_mono (q 1) (fun r hr => ⟨fun y => absurd (hr.1 y) (by decide), hr.2⟩)) (fun w => qP_if (fun w2 => qP_mono (q 2) (fun r hr => ⟨fun y => absurd (hr.1 y) (by decide), hr.2⟩)) (fun w2 => qP_mono (q 0) (fun r hr => ⟨fun _ => ⟨w, w2⟩, hr.2⟩)))
theorem tl_addCard {i1 i2 : Int} (h0 : 0 ≤ M 824 12 0) (h1 : M 824 12 0 ≤ 600) : qP (qf_X0_addCard 20000 i1 i2 M) (fun r => r.2 824 12 0 ≤ M 824 12 0 + 1) := by
  have hw : w32 (M 824 12 0 + 1) = M 824 12 0 + 1 := w32_id (by omega) (by omega)
  unfold qf_X0_addCard
  (repeat' (first
    | exact qP_none
    | (with_reducible refine qP_if (fun _ => ?_) (fun _ => ?_))
    | (with_reducible refine qP_bn ?_)
    | (with_reducible refine qP_bind needState_q (fun r hr => ?_); rcases r with _ | _)
    | (with_reducible refine qP_bind needArg_q (fun r hr => ?_); rcases r with _ | _)
    | (with_reducible refine qP_pure (fun r => ?_))
    | (with_reducible refine qP_some ?_)))
  all_goals ((try dsimp only at *); (try simp only [qw_ap, false_and, true_and, and_true, and_false, and_self, not_true_eq_false, not_false_eq_true, ne_eq, if_false, if_true, reduceIte, Nat.reduceEqDiff, Int.reduceEq]); omega)
theorem tl_addRight {i1 i2 i3 i4 i5 : Int} (h0 : 0 ≤ M 824 12 0) (h1 : M 824 12 0 ≤ 600) : qP (qf_X0_addRight 20000 i1 i2 i3 i4 i5 M) (fun r => r.2 824 12 0 ≤ M 824 12 0 + 1) := by
  have hw : w32 (M 824 12 0 + 1) = M 824 12 0 + 1 := w32_id (by omega) (by omega)
  unfold qf_X0_addRight
  (repeat' (first
    | exact qP_none
    | (with_reducible refine qP_if (fun _ => ?_) (fun _ => ?_))
    | (with_reducible refine qP_bn ?_)
    | (with_reducible refine qP_bind needState_q (fun r hr => ?_); rcases r with _ | _)
    | (with_reducible refine qP_bind needArg_q (fun r hr => ?_); rcases r with _ | _)
    | (with_reducible refine qP_pure (fun r => ?_))
    | (with_reducible refine qP_some ?_)))
  all_goals ((try dsimp only at *); (try simp only [qw_ap, false_and, true_and, and_true, and_false, and_self, not_true_eq_false, not_false_eq_true, ne_eq, if_false, if_true, reduceIte, Nat.reduceEqDiff, Int.reduceEq]); omega)
theorem tl_note {i1 i2 : Int} (h0 : 0 ≤ M 824 12 0) (h1 : M 824 12 0 ≤ 600) : qP (qf_X0_note 20000 i1 i2 M) (fun r => r.2 824 12 0 ≤ M 824 12 0 + 1) := by
  have hw : w32 (M 824 12 0 + 1) = M 824 12 0 + 1 := w32_id (by omega) (by omega)
  unfold qf_X0_note
  (repeat' (first
    | exact qP_none
    | (with_reducible refine qP_if (fun _ => ?_) (fun _ => ?_))
    | (with_reducible refine qP_bn ?_)
    | (with_reducible refine qP_bind needState_q (fun r hr => ?_); rcases r with _ | _)
    | (with_reducible refine qP_bind needArg_q (fun r hr => ?_); rcases r with _ | _)
    | (with_reducible refine qP_pure (fun r => ?_))
    | unfold qf_X0_note_J73
    | (with_reducible refine qP_some ?_)))
  all_goals ((try dsimp only at *); (try simp only [qw_ap, false_and, true_and, and_true, and_false, and_self, not_true_eq_false, not_false_eq_true, ne_eq, if_false, if_true, reduceIte, Nat.reduceEqDiff, Int.reduceEq]); omega)
theorem tl_tellEnd {i1 i2 : Int} (h0 : 0 ≤ M 824 12 0) (h1 : M 824 12 0 ≤ 600) : qP (qf_X0_tellEnd 20000 i1 i2 M) (fun r => r.2 824 12 0 ≤ M 824 12 0 + 1) := by
  have hw : w32 (M 824 12 0 + 1) = M 824 12 0 + 1 := w32_id (by omega) (by omega)
  unfold qf_X0_tellEnd
  (repeat' (first
    | exact qP_none
    | (with_reducible refine qP_if (fun _ => ?_) (fun _ => ?_))
    | (with_reducible refine qP_bn ?_)
    | (with_reducible refine qP_bind (tl_note h0 h1) (fun r hr => ?_))
    | (with_reducible refine qP_bind needState_q (fun r hr => ?_); rcases r with _ | _)
    | (with_reducible refine qP_bind needArg_q (fun r hr => ?_); rcases r with _ | _)
    | (with_reducible refine qP_pure (fun r => ?_))
    | (with_reducible refine qP_some ?_)))
  all_goals ((try dsimp only at *); (try simp only [qw_ap, false_and, true_and, and_true, and_false, and_self, not_true_eq_false, not_false_eq_true, ne_eq, if_false, if_true, reduceIte, Nat.reduceEqDiff, Int.reduceEq]); omega)
theorem tl_tellLost {i1 i2 : Int} (h0 : 0 ≤ M 824 12 0) (h1 : M 824 12 0 ≤ 600) : qP (qf_X0_tellLost 20000 i1 i2 M) (fun r => r.2 824 12 0 ≤ M 824 12 0 + 1) := by
  have hw : w32 (M 824 12 0 + 1) = M 824 12 0 + 1 := w32_id (by omega) (by omega)
  unfold qf_X0_tellLost
  (repeat' (first
    | exact qP_none
    | (with_reducible refine qP_if (fun _ => ?_) (fun _ => ?_))
    | (with_reducible refine qP_bn ?_)
    | (with_reducible refine qP_bind (tl_note h0 h1) (fun r hr => ?_))
    | (with_reducible refine qP_bind needState_q (fun r hr => ?_); rcases r with _ | _)
    | (with_reducible refine qP_bind needArg_q (fun r hr => ?_); rcases r with _ | _)
    | (with_reducible refine qP_pure (fun r => ?_))
    | (with_reducible refine qP_some ?_)))
  all_goals ((try dsimp only at *); (try simp only [qw_ap, false_and, true_and, and_true, and_false, and_self, not_true_eq_false, not_false_eq_true, ne_eq, if_false, if_true, reduceIte, Nat.reduceEqDiff, Int.reduceEq]); omega)
theorem tl_X_card {i1 i2 : Int} (h0 : 0 ≤ M 824 12 0) (h1 : M 824 12 0 ≤ 600) : qP (qf_X11_card 20000 i1 i2 M) (fun r => r.2 824 12 0 ≤ M 824 12 0 + 1) := by
  have hw : w32 (M 824 12 0 + 1) = M 824 12 0 + 1 := w32_id (by omega) (by omega)
  unfold qf_X11_card
  (repeat' (first
    | exact qP_none
    | (with_reducible refine qP_if (fun _ => ?_) (fun _ => ?_))
    | (with_reducible refine qP_bn ?_)
    | (with_reducible refine qP_bind (tl_addCard h0 h1) (fun r hr => ?_))
    | (with_reducible refine qP_bind needState_q (fun r hr => ?_); rcases r with _ | _)
    | (with_reducible refine qP_bind needArg_q (fun r hr => ?_); rcases r with _ | _)
    | (with_reducible refine qP_pure (fun r => ?_))
    | unfold qf_X11_card_J50
    | unfold qf_X11_card_J49
    | unfold qf_X11_card_J23
    | unfold qf_X11_card_J22
    | (with_reducible refine qP_some ?_)))
  all_goals ((try dsimp only at *); (try simp only [qw_ap, false_and, true_and, and_true, and_false, and_self, not_true_eq_false, not_false_eq_true, ne_eq, if_false, if_true, reduceIte, Nat.reduceEqDiff, Int.reduceEq]); omega)
theorem tl_L_card {i1 i2 : Int} (h0 : 0 ≤ M 824 12 0) (h1 : M 824 12 0 ≤ 600) : qP (qf_L_card 20000 i1 i2 M) (fun r => r.2 824 12 0 ≤ M 824 12 0 + 1) := by
  have hw : w32 (M 824 12 0 + 1) = M 824 12 0 + 1 := w32_id (by omega) (by omega)
  unfold qf_L_card
  (repeat' (first
    | exact qP_none
    | (with_reducible refine qP_if (fun _ => ?_) (fun _ => ?_))
    | (with_reducible refine qP_bn ?_)
    | (with_reducible refine qP_bind (tl_X_card h0 h1) (fun r hr => ?_); obtain ⟨_ | _, _⟩ := r)
    | (with_reducible refine qP_bind needState_q (fun r hr => ?_); rcases r with _ | _)
    | (with_reducible refine qP_bind needArg_q (fun r hr => ?_); rcases r with _ | _)
    | (with_reducible refine qP_pure (fun r => ?_))
    | (with_reducible refine qP_some ?_)))
  all_goals ((try dsimp only at *); (try simp only [qw_ap, false_and, true_and, and_true, and_false, and_self, not_true_eq_false, not_false_eq_true, ne_eq, if_false, if_true, reduceIte, Nat.reduceEqDiff, Int.reduceEq]); omega)
theorem tl_X_right {i1 i2 i3 i4 i5 : Int} (h0 : 0 ≤ M 824 12 0) (h1 : M 824 12 0 ≤ 600) : qP (qf_X11_right 20000 i1 i2 i3 i4 i5 M) (fun r => r.2 824 12 0 ≤ M 824 12 0 + 1) := by
  have hw : w32 (M 824 12 0 + 1) = M 824 12 0 + 1 := w32_id (by omega) (by omega)
  unfold qf_X11_right
  (repeat' (first
    | exact qP_none
    | (with_reducible refine qP_if (fun _ => ?_) (fun _ => ?_))
    | (with_reducible refine qP_bn ?_)
    | (with_reducible refine qP_bind (tl_addRight h0 h1) (fun r hr => ?_))
    | (with_reducible refine qP_bind needState_q (fun r hr => ?_); rcases r with _ | _)
    | (with_reducible refine qP_bind needArg_q (fun r hr => ?_); rcases r with _ | _)
    | (with_reducible refine qP_pure (fun r => ?_))
    | unfold qf_X11_right_J94
    | unfold qf_X11_right_J93
    | unfold qf_X11_right_J67
    | unfold qf_X11_right_J66
    | unfold qf_X11_right_J36
    | unfold qf_X11_right_J35
    | (with_reducible refine qP_some ?_)))
  all_goals ((try dsimp only at *); (try simp only [qw_ap, false_and, true_and, and_true, and_false, and_self, not_true_eq_false, not_false_eq_true, ne_eq, if_false, if_true, reduceIte, Nat.reduceEqDiff, Int.reduceEq]); omega)
theorem tl_L_right {i1 i2 i3 i4 i5 : Int} (h0 : 0 ≤ M 824 12 0) (h1 : M 824 12 0 ≤ 600) : qP (qf_L_right 20000 i1 i2 i3 i4 i5 M) (fun r => r.2 824 12 0 ≤ M 824 12 0 + 1) := by
  have hw : w32 (M 824 12 0 + 1) = M 824 12 0 + 1 := w32_id (by omega) (by omega)
  unfold qf_L_right
  (repeat' (first
    | exact qP_none
    | (with_reducible refine qP_if (fun _ => ?_) (fun _ => ?_))
    | (with_reducible refine qP_bn ?_)
    | (with_reducible refine qP_bind (tl_X_right h0 h1) (fun r hr => ?_); obtain ⟨_ | _, _⟩ := r)
    | (with_reducible refine qP_bind needState_q (fun r hr => ?_); rcases r with _ | _)
    | (with_reducible refine qP_bind needArg_q (fun r hr => ?_); rcases r with _ | _)
    | (with_reducible refine qP_pure (fun r => ?_))
    | (with_reducible refine qP_some ?_)))
  all_goals ((try dsimp only at *); (try simp only [qw_ap, false_and, true_and, and_true, and_false, and_self, not_true_eq_false, not_false_eq_true, ne_eq, if_false, if_true, reduceIte, Nat.reduceEqDiff, Int.reduceEq]); omega)
theorem tl_X_end {i1 i2 : Int} (h0 : 0 ≤ M 824 12 0) (h1 : M 824 12 0 ≤ 600) : qP (qf_X11_end 20000 i1 i2 M) (fun r => r.2 824 12 0 ≤ M 824 12 0 + 1) := by
  have hw : w32 (M 824 12 0 + 1) = M 824 12 0 + 1 := w32_id (by omega) (by omega)
  unfold qf_X11_end
  (repeat' (first
    | exact qP_none
    | (with_reducible refine qP_if (fun _ => ?_) (fun _ => ?_))
    | (with_reducible refine qP_bn ?_)
    | (with_reducible refine qP_bind (tl_tellEnd h0 h1) (fun r hr => ?_))
    | (with_reducible refine qP_bind needState_q (fun r hr => ?_); rcases r with _ | _)
    | (with_reducible refine qP_bind needArg_q (fun r hr => ?_); rcases r with _ | _)
    | (with_reducible refine qP_pure (fun r => ?_))
    | unfold qf_X11_end_J32
    | unfold qf_X11_end_J31
    | (with_reducible refine qP_some ?_)))
  all_goals ((try dsimp only at *); (try simp only [qw_ap, false_and, true_and, and_true, and_false, and_self, not_true_eq_false, not_false_eq_true, ne_eq, if_false, if_true, reduceIte, Nat.reduceEqDiff, Int.reduceEq]); omega)
theorem tl_L_end {i1 i2 : Int} (h0 : 0 ≤ M 824 12 0) (h1 : M 824 12 0 ≤ 600) : qP (qf_L_end 20000 i1 i2 M) (fun r => r.2 824 12 0 ≤ M 824 12 0 + 1) := by
  have hw : w32 (M 824 12 0 + 1) = M 824 12 0 + 1 := w32_id (by omega) (by omega)
  unfold qf_L_end
  (repeat' (first
    | exact qP_none
    | (with_reducible refine qP_if (fun _ => ?_) (fun _ => ?_))
    | (with_reducible refine qP_bn ?_)
    | (with_reducible refine qP_bind (tl_X_end h0 h1) (fun r hr => ?_); obtain ⟨_ | _, _⟩ := r)
    | (with_reducible refine qP_bind needState_q (fun r hr => ?_); rcases r with _ | _)
    | (with_reducible refine qP_bind needArg_q (fun r hr => ?_); rcases r with _ | _)
    | (with_reducible refine qP_pure (fun r => ?_))
    | (with_reducible refine qP_some ?_)))
  all_goals ((try dsimp only at *); (try simp only [qw_ap, false_and, true_and, and_true, and_false, and_self, not_true_eq_false, not_false_eq_true, ne_eq, if_false, if_true, reduceIte, Nat.reduceEqDiff, Int.reduceEq]); omega)
theorem tl_X_lost {i1 i2 : Int} (h0 : 0 ≤ M 824 12 0) (h1 : M 824 12 0 ≤ 600) : qP (qf_X11_lost 20000 i1 i2 M) (fun r => r.2 824 12 0 ≤ M 824 12 0 + 1) := by
  have hw : w32 (M 824 12 0 + 1) = M 824 12 0 + 1 := w32_id (by omega) (by omega)
  unfold qf_X11_lost
  (repeat' (first
    | exact qP_none
    | (with_reducible refine qP_if (fun _ => ?_) (fun _ => ?_))
    | (with_reducible refine qP_bn ?_)
    | (with_reducible refine qP_bind (tl_tellLost h0 h1) (fun r hr => ?_))
    | (with_reducible refine qP_bind needState_q (fun r hr => ?_); rcases r with _ | _)
    | (with_reducible refine qP_bind needArg_q (fun r hr => ?_); rcases r with _ | _)
    | (with_reducible refine qP_pure (fun r => ?_))
    | unfold qf_X11_lost_J23
    | unfold qf_X11_lost_J22
    | (with_reducible refine qP_some ?_)))
  all_goals ((try dsimp only at *); (try simp only [qw_ap, false_and, true_and, and_true, and_false, and_self, not_true_eq_false, not_false_eq_true, ne_eq, if_false, if_true, reduceIte, Nat.reduceEqDiff, Int.reduceEq]); omega)
theorem tl_L_lost {i1 i2 : Int} (h0 : 0 ≤ M 824 12 0) (h1 : M 824 12 0 ≤ 600) : qP (qf_L_lost 20000 i1 i2 M) (fun r => r.2 824 12 0 ≤ M 824 12 0 + 1) := by
  have hw : w32 (M 824 12 0 + 1) = M 824 12 0 + 1 := w32_id (by omega) (by omega)
  unfold qf_L_lost
  (repeat' (first
    | exact qP_none
    | (with_reducible refine qP_if (fun _ => ?_) (fun _ => ?_))
    | (with_reducible refine qP_bn ?_)
    | (with_reducible refine qP_bind (tl_X_lost h0 h1) (fun r hr => ?_); obtain ⟨_ | _, _⟩ := r)
    | (with_reducible refine qP_bind needState_q (fun r hr => ?_); rcases r with _ | _)
    | (with_reducible refine qP_bind needArg_q (fun r hr => ?_); rcases r with _ | _)
    | (with_reducible refine qP_pure (fun r => ?_))
    | (with_reducible refine qP_some ?_)))
  all_goals ((try dsimp only at *); (try simp only [qw_ap, false_and, true_and, and_true, and_false, and_self, not_true_eq_false, not_false_eq_true, ne_eq, if_false, if_true, reduceIte, Nat.reduceEqDiff, Int.reduceEq]); omega)
theorem lk_X_air {i1 i2 i3 : Int} (h0 : 0 ≤ K 2156 24 0) (h1 : K 2156 24 0 ≤ 4200) : qP (qf_X18_airlock 20000 i1 i2 i3 K) (fun r => r.2 2156 24 0 ≤ K 2156 24 0 + 1) := by
  have hw : w32 (K 2156 24 0 + 1) = K 2156 24 0 + 1 := w32_id (by omega) (by omega)
  have hv : w32 (K 2156 24 0 - 1) = K 2156 24 0 - 1 := w32_id (by omega) (by omega)
  unfold qf_X18_airlock
  (repeat' (first
    | exact qP_none
    | (with_reducible refine qP_if (fun _ => ?_) (fun _ => ?_))
    | (with_reducible refine qP_bn ?_)
    | (with_reducible refine qP_bind goes_q (fun r hr => ?_))
    | (with_reducible refine qP_bind needState_q (fun r hr => ?_); rcases r with _ | _)
    | (with_reducible refine qP_bind needArg_q (fun r hr => ?_); rcases r with _ | _)
    | (with_reducible refine qP_pure (fun r => ?_))
    | unfold qf_X18_airlock_J180
    | unfold qf_X18_airlock_J129
    | unfold qf_X18_airlock_J96
    | unfold qf_X18_airlock_J33
    | unfold qf_X18_airlock_J32
    | (with_reducible refine qP_some ?_)))
  all_goals (have e24 := hr.2 2156 24 0 (by omega); (try dsimp only); (try simp only [qw_ap, false_and, true_and, and_true, and_false, and_self, not_true_eq_false, not_false_eq_true, ne_eq, if_false, if_true, reduceIte, Nat.reduceEqDiff, Int.reduceEq]); (try rw [e24]); omega)
theorem z0_two {i1 i2 : Int} (hb : K 2156 1 0 = 0) : qP (qf_X18_two 20000 i1 i2 K) (fun r => ∀ (b : Nat) (i j : Int), 2294 ≤ b → r.2 b i j = K b i j) := by
  unfold qf_X18_two
  refine qP_pure (fun r3 => qP_bind goes_q (fun r6 h6 => qP_if (fun _ => qP_some (fun b i j hb => h6.2 b i j (by omega))) (fun w => absurd hb (h6.1 w).2)))
theorem z0_stands {i1 i2 : Int} (hb : K 2156 1 0 = 0) : qP (qf_X18_stands 20000 i1 i2 K) (fun r => ∀ (b : Nat) (i j : Int), 2294 ≤ b → r.2 b i j = K b i j) := by
  unfold qf_X18_stands
  refine qP_pure (fun r3 => qP_bind goes_q (fun r6 h6 => qP_if (fun _ => qP_some (fun b i j hb => h6.2 b i j (by omega))) (fun w => absurd hb (h6.1 w).2)))
theorem z0_off {i1 i2 : Int} (hb : K 2156 1 0 = 0) : qP (qf_X18_off 20000 i1 i2 K) (fun r => ∀ (b : Nat) (i j : Int), 2294 ≤ b → r.2 b i j = K b i j) := by
  unfold qf_X18_off
  refine qP_pure (fun r3 => qP_bind goes_q (fun r6 h6 => qP_if (fun _ => qP_some (fun b i j hb => h6.2 b i j (by omega))) (fun w => absurd hb (h6.1 w).2)))
theorem z0_ask_J25 {i1 i2 i3 t0 : Int} (hb : K 2156 1 0 = 0) : qP (qf_X18_ask_J25 20000 i1 i2 i3 t0 K) (fun r => ∀ (b : Nat) (i j : Int), 2294 ≤ b → r.2 b i j = K b i j) := by
  unfold qf_X18_ask_J25
  rw [if_pos hb]
  unfold qf_X18_ask_J57 qf_X18_ask_J58
  exact qP_bind goes_q (fun r6 h6 => qP_if (fun _ => qP_some (fun b i j hb => h6.2 b i j (by omega))) (fun w => absurd rfl (h6.1 w).2))
theorem z0_ask {i1 i2 i3 : Int} (hb : K 2156 1 0 = 0) : qP (qf_X18_ask 20000 i1 i2 i3 K) (fun r => ∀ (b : Nat) (i j : Int), 2294 ≤ b → r.2 b i j = K b i j) := by
  unfold qf_X18_ask qf_X18_ask_J24
  (repeat' (first
    | exact z0_ask_J25 hb
    | (with_reducible refine qP_if (fun _ => ?_) (fun _ => ?_))
    | (with_reducible refine qP_pure (fun r => ?_))))
theorem z0_both_J42 {i1 i2 i3 i4 t0 : Int} (hb : K 2156 1 0 = 0) : qP (qf_X18_both_J42 20000 i1 i2 i3 i4 t0 K) (fun r => ∀ (b : Nat) (i j : Int), 2294 ≤ b → r.2 b i j = K b i j) := by
  unfold qf_X18_both_J42
  rw [if_pos hb]
  unfold qf_X18_both_J74 qf_X18_both_J75
  exact qP_bind goes_q (fun r6 h6 => qP_if (fun _ => qP_some (fun b i j hb => h6.2 b i j (by omega))) (fun w => absurd rfl (h6.1 w).2))
theorem z0_both {i1 i2 i3 i4 : Int} (hb : K 2156 1 0 = 0) : qP (qf_X18_both 20000 i1 i2 i3 i4 K) (fun r => ∀ (b : Nat) (i j : Int), 2294 ≤ b → r.2 b i j = K b i j) := by
  unfold qf_X18_both qf_X18_both_J41
  (repeat' (first
    | exact z0_both_J42 hb
    | (with_reducible refine qP_if (fun _ => ?_) (fun _ => ?_))
    | (with_reducible refine qP_pure (fun r => ?_))))
theorem pe_X {i1 i2 : Int} (hb : M 6 11 0 = 0) : qP (qf_X11_person 20000 i1 i2 M) (fun r => r.2 756 7 0 = M 756 7 0) := by
  unfold qf_X11_person
  (repeat' (first
    | exact qP_none
    | (exfalso; exact hr _ rfl rfl)
    | (with_reducible refine qP_if (fun _ => ?_) (fun _ => ?_))
    | (with_reducible refine qP_bn ?_)
    | (with_reducible refine qP_bind needState_q (fun r hr => ?_); rcases r with _ | _)
    | (with_reducible refine qP_bind needArg_q (fun r hr => ?_); rcases r with _ | _)
    | (with_reducible refine qP_pure (fun r => ?_))
    | unfold qf_X11_person_J51
    | unfold qf_X11_person_J50
    | unfold qf_X11_person_J24
    | unfold qf_X11_person_J23
    | (with_reducible refine qP_some ?_)))
  all_goals first | rfl | (exfalso; first | exact hr _ rfl rfl | omega)
end LIf
