/-! ===== lifts: calls, what is begun ===== -/
theorem many_r {M : qm} (h0 : 0 ≤ (M 2270 6 0)) (h1 : (M 2270 6 0) ≤ 400) : qW (qf_X13_many 20000 M) (fun r => r = sI (fun c => if (M 2279 c 0) = 0 then 0 else 1) (M 2270 6 0)) := by
  unfold qf_X13_many
  refine qW_call (Q := fun o => match o with | .inl _ => False | .inr v => v = sI (fun c => if (M 2279 c 0) = 0 then 0 else 1) (M 2270 6 0)) ?_ ?_
  · refine qW_loop (fun s => 0 ≤ s.2 ∧ s.2 ≤ (M 2270 6 0) ∧ s.1 = sI (fun c => if (M 2279 c 0) = 0 then 0 else 1) s.2) (fun s => ((M 2270 6 0) - s.2).toNat) ?_ _ _ ?_ ?_
    · rintro ⟨a, i⟩ ⟨g1, g2, g3⟩
      (try dsimp only at g1 g2 g3)
      have b0 : 0 ≤ a := by
        rw [g3]
        exact sI_n (fun k _ _ => by (try dsimp only); split <;> omega)
      have b1 : a ≤ i := by
        rw [g3]
        exact sI_l g1 (fun k _ _ => by (try dsimp only); split <;> omega)
      (try dsimp only)
      unfold qf_X13_many_L4_b qf_X13_many_J27
      repeat' first
        | (refine qW_no ?_; omega)
        | (with_reducible refine qW_bnd ?_; try simp only [qw_ap, qfl1_ap, qfl2_ap, qcp1_ap, qcp2_ap, false_and, true_and, and_true, and_false, and_self, if_false, if_true, reduceIte, Nat.reduceEqDiff])
        | with_reducible refine qW_within (fun _ => ?_) (fun _ _ => ?_)
        | with_reducible refine qW_isIn (fun _ => ?_) (fun _ _ => ?_)
        | with_reducible refine qW_na (fun _ => ?_) (fun _ => ?_)
        | with_reducible refine qW_ns (fun _ => ?_) (fun _ => ?_)
        | (with_reducible refine qW_goes (fun _ => ?_) (fun _ _ => ?_) (fun _ _ => ?_) <;> (try dsimp only) <;> (try simp only [qw_ap, qfl1_ap, qfl2_ap, qcp1_ap, qcp2_ap, false_and, true_and, and_true, and_false, and_self, if_false, if_true, reduceIte, Nat.reduceEqDiff]))
        | (with_reducible refine qW_stays (by omega) (fun _ => ?_) (fun _ => ?_) <;> (try dsimp only) <;> (try simp only [qw_ap, qfl1_ap, qfl2_ap, qcp1_ap, qcp2_ap, false_and, true_and, and_true, and_false, and_self, if_false, if_true, reduceIte, Nat.reduceEqDiff]))
        | (exfalso; omega)
        | with_reducible refine qW_bind ?_
        | (with_reducible refine qW_some ?_; (try dsimp only); try simp only [qw_ap, qfl1_ap, qfl2_ap, qcp1_ap, qcp2_ap, false_and, true_and, and_true, and_false, and_self, if_false, if_true, reduceIte, Nat.reduceEqDiff])
        | with_reducible refine qW_pos rfl ?_
        | (refine qW_pos (by omega) ?_)
        | (refine qW_neg (by first | omega | decide) ?_)
        | with_reducible refine qW_ite (fun _ => ?_) (fun _ => ?_)
        | dsimp only
      · rw [g3, show i = (M 2270 6 0) by omega]
      · rw [w32_id (by omega) (by omega), w32_id (by omega) (by omega), sI_s g1, ← g3]
        exact ⟨⟨by omega, by omega, by split <;> omega⟩, by omega⟩
      · rw [w32_id (by omega) (by omega), w32_id (by omega) (by omega), sI_s g1, ← g3]
        exact ⟨⟨by omega, by omega, by split <;> omega⟩, by omega⟩
    · exact ⟨Int.le_refl _, h0, rfl⟩
    · (try dsimp only)
      omega
  · rintro (o | v) h
    · exact h.elim
    · exact qW_some h
/-- the place of a call among the open ones -/
theorem placeOfOpen_r {M : qm} {x : Int} (h0 : 0 ≤ (M 1337 4 0)) (h1 : (M 1337 4 0) ≤ 6) : qW (qf_X3_placeOfOpen 20000 x M) (fun r => (r = -1 ∧ ∀ k, 0 ≤ k → k < (M 1337 4 0) → (M 1744 k 0) ≠ x) ∨ (0 ≤ r ∧ r < (M 1337 4 0) ∧ (M 1744 r 0) = x)) := by
  unfold qf_X3_placeOfOpen
  refine qW_call (Q := fun o => match o with | .inl r => 0 ≤ r ∧ r < (M 1337 4 0) ∧ (M 1744 r 0) = x | .inr _ => ∀ k, 0 ≤ k → k < (M 1337 4 0) → (M 1744 k 0) ≠ x) ?_ ?_
  · refine qW_loop (fun s => s.1 = x ∧ 0 ≤ s.2 ∧ s.2 ≤ (M 1337 4 0) ∧ ∀ k, 0 ≤ k → k < s.2 → (M 1744 k 0) ≠ x) (fun s => ((M 1337 4 0) - s.2).toNat) ?_ _ _ ?_ ?_
    · rintro ⟨a, i⟩ ⟨g0, g1, g2, g3⟩
      (try dsimp only at g0 g1 g2 g3 ⊢)
      subst g0
      unfold qf_X3_placeOfOpen_L2_b
      repeat' first
        | (refine qW_no ?_; omega)
        | (with_reducible refine qW_bnd ?_; try simp only [qw_ap, qfl1_ap, qfl2_ap, qcp1_ap, qcp2_ap, false_and, true_and, and_true, and_false, and_self, if_false, if_true, reduceIte, Nat.reduceEqDiff])
        | with_reducible refine qW_within (fun _ => ?_) (fun _ _ => ?_)
        | with_reducible refine qW_isIn (fun _ => ?_) (fun _ _ => ?_)
        | with_reducible refine qW_na (fun _ => ?_) (fun _ => ?_)
        | with_reducible refine qW_ns (fun _ => ?_) (fun _ => ?_)
        | (with_reducible refine qW_goes (fun _ => ?_) (fun _ _ => ?_) (fun _ _ => ?_) <;> (try dsimp only) <;> (try simp only [qw_ap, qfl1_ap, qfl2_ap, qcp1_ap, qcp2_ap, false_and, true_and, and_true, and_false, and_self, if_false, if_true, reduceIte, Nat.reduceEqDiff]))
        | (with_reducible refine qW_stays (by omega) (fun _ => ?_) (fun _ => ?_) <;> (try dsimp only) <;> (try simp only [qw_ap, qfl1_ap, qfl2_ap, qcp1_ap, qcp2_ap, false_and, true_and, and_true, and_false, and_self, if_false, if_true, reduceIte, Nat.reduceEqDiff]))
        | (exfalso; omega)
        | with_reducible refine qW_bind ?_
        | (with_reducible refine qW_some ?_; (try dsimp only); try simp only [qw_ap, qfl1_ap, qfl2_ap, qcp1_ap, qcp2_ap, false_and, true_and, and_true, and_false, and_self, if_false, if_true, reduceIte, Nat.reduceEqDiff])
        | with_reducible refine qW_pos rfl ?_
        | (refine qW_pos (by omega) ?_)
        | (refine qW_neg (by first | omega | decide) ?_)
        | with_reducible refine qW_ite (fun _ => ?_) (fun _ => ?_)
        | dsimp only
      · exact fun k h2 h3 => g3 k h2 (by omega)
      · exact ⟨by omega, by omega, by assumption⟩
      · rw [w32_id (by omega) (by omega)]
        refine ⟨⟨by omega, by omega, fun k h2 h3 => ?_⟩, by omega⟩
        by_cases e : k = i
        · subst e; assumption
        · exact g3 k h2 (by omega)
    · exact ⟨rfl, Int.le_refl _, h0, fun k h2 h3 => absurd h3 (by (try dsimp only); omega)⟩
    · (try dsimp only)
      omega
  · rintro (o | v) h
    · exact qW_some (Or.inr h)
    · exact qW_some (Or.inl ⟨rfl, h⟩)
/-- what was begun of a call is ended -/
theorem endBeginning_r {M : qm} {x : Int} (h0 : 0 ≤ (M 1337 0 0)) (h1 : (M 1337 0 0) ≤ 4) : qW (qf_X3_endBeginning 20000 x M) (fun r => ∀ b i j, r.2 b i j = if b = 1338 ∧ j = 5 ∧ 0 ≤ i ∧ i < (M 1337 0 0) ∧ M 1338 i 5 = x then -1 else M b i j) := by
  unfold qf_X3_endBeginning
  refine qW_call (Q := fun o => match o with | .inl _ => False | .inr r => ∀ b i j, r.2 b i j = if b = 1338 ∧ j = 5 ∧ 0 ≤ i ∧ i < (M 1337 0 0) ∧ M 1338 i 5 = x then -1 else M b i j) ?_ ?_
  · refine qW_loop (fun s => s.1 = x ∧ 0 ≤ s.2.1 ∧ s.2.1 ≤ (M 1337 0 0) ∧ ∀ b i j, s.2.2 b i j = if b = 1338 ∧ j = 5 ∧ 0 ≤ i ∧ i < s.2.1 ∧ M 1338 i 5 = x then -1 else M b i j) (fun s => ((M 1337 0 0) - s.2.1).toNat) ?_ _ _ ?_ ?_
    · rintro ⟨a, i, S⟩ ⟨g0, g1, g2, g3⟩
      (try dsimp only at g0 g1 g2 g3 ⊢)
      subst g0
      have e0 : S 1337 0 0 = M 1337 0 0 := by rw [g3, if_neg (by simp)]
      have e1 : S 1338 i 5 = M 1338 i 5 := by rw [g3, if_neg (by omega)]
      unfold qf_X3_endBeginning_L2_b
      rw [e0, e1]
      repeat' first
        | (refine qW_no ?_; omega)
        | (with_reducible refine qW_bnd ?_; try simp only [qw_ap, qfl1_ap, qfl2_ap, qcp1_ap, qcp2_ap, false_and, true_and, and_true, and_false, and_self, if_false, if_true, reduceIte, Nat.reduceEqDiff])
        | with_reducible refine qW_within (fun _ => ?_) (fun _ _ => ?_)
        | with_reducible refine qW_isIn (fun _ => ?_) (fun _ _ => ?_)
        | with_reducible refine qW_na (fun _ => ?_) (fun _ => ?_)
        | with_reducible refine qW_ns (fun _ => ?_) (fun _ => ?_)
        | (with_reducible refine qW_goes (fun _ => ?_) (fun _ _ => ?_) (fun _ _ => ?_) <;> (try dsimp only) <;> (try simp only [qw_ap, qfl1_ap, qfl2_ap, qcp1_ap, qcp2_ap, false_and, true_and, and_true, and_false, and_self, if_false, if_true, reduceIte, Nat.reduceEqDiff]))
        | (with_reducible refine qW_stays (by omega) (fun _ => ?_) (fun _ => ?_) <;> (try dsimp only) <;> (try simp only [qw_ap, qfl1_ap, qfl2_ap, qcp1_ap, qcp2_ap, false_and, true_and, and_true, and_false, and_self, if_false, if_true, reduceIte, Nat.reduceEqDiff]))
        | (exfalso; omega)
        | with_reducible refine qW_bind ?_
        | (with_reducible refine qW_some ?_; (try dsimp only); try simp only [qw_ap, qfl1_ap, qfl2_ap, qcp1_ap, qcp2_ap, false_and, true_and, and_true, and_false, and_self, if_false, if_true, reduceIte, Nat.reduceEqDiff])
        | with_reducible refine qW_pos rfl ?_
        | (refine qW_pos (by omega) ?_)
        | (refine qW_neg (by first | omega | decide) ?_)
        | with_reducible refine qW_ite (fun _ => ?_) (fun _ => ?_)
        | dsimp only
      · rw [show i = (M 1337 0 0) by omega] at g3
        exact g3
      · rw [w32_id (by omega) (by omega)]
        refine ⟨⟨by omega, by omega, fun b k j => ?_⟩, by omega⟩
        rw [g3]
        grind
      · rw [w32_id (by omega) (by omega)]
        refine ⟨⟨by omega, by omega, fun b k j => ?_⟩, by omega⟩
        rw [g3]
        grind
    · refine ⟨rfl, Int.le_refl _, h0, fun b i j => ?_⟩
      (try dsimp only)
      rw [if_neg (by omega)]
    · (try dsimp only)
      omega
  · rintro (o | ⟨u, S⟩) h
    · exact h.elim
    · exact qW_some h
theorem opens_eq {M : qm} (h1 : R_calls M M) (h2 : R_opens M M) (h3 : R_calln M M) : sI (fun c => if (M 2279 c 0) = 0 then 0 else 1) (M 2270 6 0) = (M 1337 4 0) := by
  unfold R_opens at h2
  unfold R_calln at h3
  rw [h2.1, h3.2.2]
  refine sI_c (fun k a b => ?_)
  have q := h1 k a b
  try dsimp only
  split <;> omega
