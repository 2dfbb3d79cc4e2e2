/-! ===== the calls person, car, door, event, disturb ===== -/
section OPA
variable {M K : qm} {x1 x2 x3 x4 : Int}
theorem op_person (h_built : R_built M K) (h_time : R_time M K) (h_rooms : R_rooms M K) (h_spaces : R_spaces M K) (h_cards : R_cards M K) (h_personn : R_personn M K) (h_persons : R_persons M K) (h_personb : R_personb M K) (h_personz : R_personz M K) : oK2 cI (qf_L_person 20000 x1 x2 M) (qf_X18_person 20000 x1 x2 K) (fun M' K' => R_cards M' K' ∧ R_personn M' K' ∧ R_persons M' K' ∧ R_personb M' K' ∧ R_personz M' K') := by
  have s_built := h_built
  unfold R_built at s_built
  have s_personn := h_personn
  unfold R_personn at s_personn
  have s_spaces := h_spaces
  unfold R_spaces at s_spaces
  unfold oK2
  unfold qf_L_person qf_X11_person qf_X11_person_J23 qf_X11_person_J24 qf_X11_person_J50 qf_X11_person_J51 qf_X10_addPerson qf_X10_outside qf_X18_person qf_X18_person_J24 qf_X18_person_J25 qf_X18_person_J45 qf_X18_person_J46
  repeat' first
    | with_reducible refine qW_within (fun _ => ?_) (fun _ _ => ?_)
    | with_reducible refine qW_isIn (fun _ => ?_) (fun _ _ => ?_)
    | with_reducible refine qW_na (fun _ => ?_) (fun _ => ?_)
    | with_reducible refine qW_ns (fun _ => ?_) (fun _ => ?_)
    | (with_reducible refine qW_goes (fun _ => ?_) (fun _ _ => ?_) (fun _ _ => ?_) <;> (try dsimp only) <;> (try simp only [qw_ap, qfl1_ap, qfl2_ap, qcp1_ap, qcp2_ap, false_and, true_and, and_true, and_false, and_self, if_false, if_true, reduceIte, Nat.reduceEqDiff, Int.reduceEq, Int.reduceNeg]))
    | (with_reducible refine qW_stays (by omega) (fun _ => ?_) (fun _ => ?_) <;> (try dsimp only) <;> (try simp only [qw_ap, qfl1_ap, qfl2_ap, qcp1_ap, qcp2_ap, false_and, true_and, and_true, and_false, and_self, if_false, if_true, reduceIte, Nat.reduceEqDiff, Int.reduceEq, Int.reduceNeg]))
    | (exfalso; omega)
    | with_reducible refine qW_bind ?_
    | (with_reducible refine qW_bnd ?_; try simp only [qw_ap, qfl1_ap, qfl2_ap, qcp1_ap, qcp2_ap, false_and, true_and, and_true, and_false, and_self, if_false, if_true, reduceIte, Nat.reduceEqDiff, Int.reduceEq, Int.reduceNeg])
    | (with_reducible refine qW_some ?_; (try dsimp only); try simp only [qw_ap, qfl1_ap, qfl2_ap, qcp1_ap, qcp2_ap, false_and, true_and, and_true, and_false, and_self, if_false, if_true, reduceIte, Nat.reduceEqDiff, Int.reduceEq, Int.reduceNeg])
    | ((with_reducible refine qW_no ?_); omega)
    | with_reducible refine qW_pos rfl ?_
    | ((with_reducible refine qW_pos ?_ ?_); omega)
    | ((with_reducible refine qW_neg ?_ ?_); (first | omega | decide))
    | with_reducible refine qW_ite (fun _ => ?_) (fun _ => ?_)
    | dsimp only
  all_goals first
    | exact ⟨fun x => absurd x (by decide), R_cards_x (M := M) (K := K) rfl rfl (fun _ _ => rfl) (fun _ _ => rfl) (fun _ _ => rfl) h_cards, R_personn_x (M := M) (K := K) rfl rfl h_personn, R_persons_x (M := M) (K := K) rfl (fun _ _ => rfl) (fun _ _ => rfl) (fun _ _ => rfl) (fun _ _ => rfl) (fun _ _ => rfl) (fun _ _ => rfl) (fun _ _ => rfl) (fun _ _ => rfl) (fun _ _ => rfl) h_persons, R_personb_x (M := M) (K := K) rfl (fun _ _ => rfl) rfl rfl (fun _ _ => rfl) (fun _ _ => rfl) (fun _ _ => rfl) (fun _ _ => rfl) (fun _ _ => rfl) h_personb, R_personz_x (M := M) (K := K) rfl (fun _ _ => rfl) (fun _ _ => rfl) (fun _ _ => rfl) h_personz⟩
    | skip
  all_goals (
    have z := h_rooms (by omega)
    have ek : (K 2156 27 0) = (M 756 7 0) := s_personn.2.2
    have e1 : w32 ((M 756 7 0) + 1) = (M 756 7 0) + 1 := w32_id (by omega) (by omega)
    have e2 : w32 ((M 756 7 0) + 1 - 1) = (M 756 7 0) := (w32_id (by omega) (by omega)).trans (by omega)
    simp only [ek, e1, e2]
    have y := h_personz (M 756 7 0) (Int.le_refl _) (by omega)
    refine ⟨fun _ => rfl, ?_, ?_, ?_, ?_, ?_⟩
    · intro c c0 c1
      have q := h_cards c c0 c1
      simp only [qw_ap, false_and, true_and, and_true, and_false, and_self, if_false, if_true, reduceIte, Nat.reduceEqDiff, Int.reduceEq]
      omega
    · unfold R_personn
      simp only [qw_ap, false_and, true_and, and_true, and_false, and_self, if_false, if_true, reduceIte, Nat.reduceEqDiff, Int.reduceEq]
      omega
    · intro i i0 i1
      have i2 : i < (M 756 7 0) + 1 := i1
      by_cases e : i = (M 756 7 0)
      · subst e
        simp only [qw_ap, false_and, true_and, and_true, and_false, and_self, if_false, if_true, reduceIte, Nat.reduceEqDiff, Int.reduceEq]
        exact ⟨z.1, y.1.trans y.2.2.1.symm, y.2.1.trans y.2.2.2.symm⟩
      · have q := h_persons i i0 (by omega)
        simp only [qw_ap, e, false_and, true_and, and_true, and_false, and_self, if_false, if_true, reduceIte, Nat.reduceEqDiff, Int.reduceEq]
        exact q
    · intro i i0 i1
      have i2 : i < (M 756 7 0) + 1 := i1
      by_cases e : i = (M 756 7 0)
      · subst e
        have t0 := y.2.1
        simp only [qw_ap, false_and, true_and, and_true, and_false, and_self, if_false, if_true, reduceIte, Nat.reduceEqDiff, Int.reduceEq]
        rw [t0]
        have tt : 0 ≤ (M 6 12 0) := h_time.1
        exact ⟨by omega, by omega, by decide, by decide, tt⟩
      · have q := h_personb i i0 (by omega)
        simp only [qw_ap, e, false_and, true_and, and_true, and_false, and_self, if_false, if_true, reduceIte, Nat.reduceEqDiff, Int.reduceEq]
        exact q
    · intro i i0 i1
      have i2 : (M 756 7 0) + 1 ≤ i := i0
      have e : ¬ i = (M 756 7 0) := by omega
      have q := h_personz i (by omega) i1
      simp only [qw_ap, e, false_and, true_and, and_true, and_false, and_self, if_false, if_true, reduceIte, Nat.reduceEqDiff, Int.reduceEq]
      exact q)
theorem op_car (h_built : R_built M K) (h_carn : R_carn M K) (h_cars : R_cars M K) (h_carz : R_carz M K) (h_begun : R_begun M K) (h_begunz : R_begunz M K) (h_begunr : R_begunr M K) : oK2 cI (qf_L_car 20000 x1 x2 M) (qf_X18_car 20000 x1 x2 K) (fun M' K' => R_carn M' K' ∧ R_cars M' K' ∧ R_carz M' K' ∧ R_begun M' K' ∧ R_begunz M' K' ∧ R_begunr M' K') := by
  have s_built := h_built
  unfold R_built at s_built
  have s_carn := h_carn
  unfold R_carn at s_carn
  unfold oK2
  unfold qf_L_car qf_X11_car qf_X11_car_J20 qf_X11_car_J21 qf_X11_car_J46 qf_X11_car_J47 qf_X3_addCar qf_X11_isFloor qf_X18_car qf_X18_car_J22 qf_X18_car_J23 qf_X18_car_J45 qf_X18_car_J46 qf_X13_car qf_X13_isFloor
  repeat' first
    | with_reducible refine qW_within (fun _ => ?_) (fun _ _ => ?_)
    | with_reducible refine qW_isIn (fun _ => ?_) (fun _ _ => ?_)
    | with_reducible refine qW_na (fun _ => ?_) (fun _ => ?_)
    | with_reducible refine qW_ns (fun _ => ?_) (fun _ => ?_)
    | (with_reducible refine qW_goes (fun _ => ?_) (fun _ _ => ?_) (fun _ _ => ?_) <;> (try dsimp only) <;> (try simp only [qw_ap, qfl1_ap, qfl2_ap, qcp1_ap, qcp2_ap, false_and, true_and, and_true, and_false, and_self, if_false, if_true, reduceIte, Nat.reduceEqDiff, Int.reduceEq, Int.reduceNeg]))
    | (with_reducible refine qW_stays (by omega) (fun _ => ?_) (fun _ => ?_) <;> (try dsimp only) <;> (try simp only [qw_ap, qfl1_ap, qfl2_ap, qcp1_ap, qcp2_ap, false_and, true_and, and_true, and_false, and_self, if_false, if_true, reduceIte, Nat.reduceEqDiff, Int.reduceEq, Int.reduceNeg]))
    | (exfalso; omega)
    | with_reducible refine qW_bind ?_
    | (with_reducible refine qW_bnd ?_; try simp only [qw_ap, qfl1_ap, qfl2_ap, qcp1_ap, qcp2_ap, false_and, true_and, and_true, and_false, and_self, if_false, if_true, reduceIte, Nat.reduceEqDiff, Int.reduceEq, Int.reduceNeg])
    | (with_reducible refine qW_some ?_; (try dsimp only); try simp only [qw_ap, qfl1_ap, qfl2_ap, qcp1_ap, qcp2_ap, false_and, true_and, and_true, and_false, and_self, if_false, if_true, reduceIte, Nat.reduceEqDiff, Int.reduceEq, Int.reduceNeg])
    | ((with_reducible refine qW_no ?_); omega)
    | with_reducible refine qW_pos rfl ?_
    | ((with_reducible refine qW_pos ?_ ?_); omega)
    | ((with_reducible refine qW_neg ?_ ?_); (first | omega | decide))
    | with_reducible refine qW_ite (fun _ => ?_) (fun _ => ?_)
    | dsimp only
  all_goals first
    | exact ⟨fun x => absurd x (by decide), R_carn_x (M := M) (K := K) rfl rfl h_carn, R_cars_x (M := M) (K := K) rfl (fun _ _ => rfl) (fun _ _ => rfl) (fun _ _ => rfl) (fun _ _ => rfl) (fun _ _ => rfl) (fun _ _ => rfl) h_cars, R_carz_x (M := M) (K := K) rfl (fun _ _ => rfl) h_carz, R_begun_x (M := M) (K := K) rfl rfl (fun _ _ => rfl) (fun _ _ => rfl) (fun _ _ => rfl) h_begun, R_begunz_x (M := M) (K := K) rfl rfl (fun _ _ => rfl) (fun _ _ => rfl) h_begunz, R_begunr_x (M := M) (K := K) rfl rfl (fun _ _ => rfl) h_begunr⟩
    | skip
  all_goals (
    have ek : (K 2270 0 0) = (M 1337 0 0) := s_carn.2.2
    have e1 : w32 ((M 1337 0 0) + 1) = (M 1337 0 0) + 1 := w32_id (by omega) (by omega)
    have e2 : w32 ((M 1337 0 0) + 1 - 1) = (M 1337 0 0) := (w32_id (by omega) (by omega)).trans (by omega)
    simp only [ek, e1, e2]
    have y := h_carz (M 1337 0 0) (Int.le_refl _) (by omega)
    refine ⟨fun _ => rfl, ?_, ?_, ?_, ?_, ?_, ?_⟩
    · unfold R_carn
      simp only [qw_ap, false_and, true_and, and_true, and_false, and_self, if_false, if_true, reduceIte, Nat.reduceEqDiff, Int.reduceEq]
      omega
    · intro i i0 i1
      have i2 : i < (M 1337 0 0) + 1 := i1
      by_cases e : i = (M 1337 0 0)
      · subst e
        simp only [qw_ap, false_and, true_and, and_true, and_false, and_self, if_false, if_true, reduceIte, Nat.reduceEqDiff, Int.reduceEq]
        omega
      · have q := h_cars i i0 (by omega)
        simp only [qw_ap, e, false_and, true_and, and_true, and_false, and_self, if_false, if_true, reduceIte, Nat.reduceEqDiff, Int.reduceEq]
        exact q
    · intro i i0 i1
      have i2 : (M 1337 0 0) + 1 ≤ i := i0
      have e : ¬ i = (M 1337 0 0) := by omega
      have q := h_carz i (by omega) i1
      simp only [qw_ap, e, false_and, true_and, and_true, and_false, and_self, if_false, if_true, reduceIte, Nat.reduceEqDiff, Int.reduceEq]
      exact q
    · intro i c i0 i1 c0 c1 c2
      have i2 : i < (M 1337 0 0) + 1 := i1
      by_cases e : i = (M 1337 0 0)
      · subst e
        have q := h_begunr c c0 c1
        simp only [qw_ap, false_and, true_and, and_true, and_false, and_self, if_false, if_true, reduceIte, Nat.reduceEqDiff, Int.reduceEq]
        omega
      · have q := h_begun i c i0 (by omega) c0 c1 c2
        simp only [qw_ap, e, false_and, true_and, and_true, and_false, and_self, if_false, if_true, reduceIte, Nat.reduceEqDiff, Int.reduceEq]
        exact q
    · intro i i0 i1
      have i2 : i < (M 1337 0 0) + 1 := i1
      by_cases e : i = (M 1337 0 0)
      · subst e
        simp only [qw_ap, false_and, true_and, and_true, and_false, and_self, if_false, if_true, reduceIte, Nat.reduceEqDiff, Int.reduceEq]
        exact Or.inl trivial
      · have q := h_begunz i i0 (by omega)
        simp only [qw_ap, e, false_and, true_and, and_true, and_false, and_self, if_false, if_true, reduceIte, Nat.reduceEqDiff, Int.reduceEq]
        exact q
    · intro c c0 c1
      have q := h_begunr c c0 c1
      simp only [qw_ap, false_and, true_and, and_true, and_false, and_self, if_false, if_true, reduceIte, Nat.reduceEqDiff, Int.reduceEq]
      omega)
theorem len_c {l : Int} (h_ends : R_ends M K) (l0 : 0 ≤ l) (l1 : l < (M 7 0 0)) (l2 : l < 20) : qf_X8_lengthOf 20000 l M = some (K 2161 l 0) := by
  have q := h_ends l l0 l1
  have hl : 0 ≤ l ∧ l < 20 := ⟨l0, l2⟩
  unfold qf_X8_lengthOf
  rw [if_pos hl]
  obtain ⟨q1, q2, q3, q4, q5, q6, q7, q8, q9, q10⟩ := q
  rcases q1 with g | g
  · rw [g] at q5 q6
    rw [if_pos rfl] at q5 q6
    rw [w32_id (x := (M 8 l 2) - (M 8 l 0)) (by omega) (by omega), w32_id (x := (M 8 l 2) - (M 8 l 0) + (M 8 l 3)) (by omega) (by omega), w32_id (by omega) (by omega)]
    refine congrArg some ?_
    omega
  · rw [g] at q5 q6
    rw [if_neg (by decide)] at q5 q6
    rw [w32_id (x := (M 8 l 2) - (M 8 l 0)) (by omega) (by omega), w32_id (x := (M 8 l 2) - (M 8 l 0) + (M 8 l 3)) (by omega) (by omega), w32_id (by omega) (by omega)]
    refine congrArg some ?_
    omega
theorem op_door (h_built : R_built M K) (h_lines : R_lines M K) (h_ends : R_ends M K) (h_doorn : R_doorn M K) (h_doors : R_doors M K) : oK2 cI (qf_L_door 20000 x1 x2 x3 x4 M) (qf_X18_door 20000 x1 x2 x3 x4 K) (fun M' K' => R_doorn M' K' ∧ R_doors M' K') := by
  have s_built := h_built
  unfold R_built at s_built
  have s_lines := h_lines
  unfold R_lines at s_lines
  have w1 : w32 ((M 7 0 0) - 1) = (M 7 0 0) - 1 := w32_id (by omega) (by omega)
  unfold oK2
  by_cases hx : 0 ≤ x1 ∧ x1 < (M 7 0 0)
  · have eL := len_c h_ends hx.1 hx.2 (by omega)
    have qd := h_doorn x1 hx.1 (by omega)
    have d1 : w32 ((M 29 x1 0) + 1) = (M 29 x1 0) + 1 := w32_id (by omega) (by omega)
    have d2 : w32 (3 * (M 29 x1 0)) = 3 * (M 29 x1 0) := w32_id (by omega) (by omega)
    have d3 : w32 (3 * (M 29 x1 0) + 1) = 3 * (M 29 x1 0) + 1 := w32_id (by omega) (by omega)
    have d4 : w32 (3 * (M 29 x1 0) + 2) = 3 * (M 29 x1 0) + 2 := w32_id (by omega) (by omega)
    have ek : (K 2162 x1 0) = (M 29 x1 0) := qd.1
    have d5 : w32 (w32 (6 * x1) + (K 2162 x1 0)) = 6 * x1 + (M 29 x1 0) := by rw [ek, w32_id (x := 6 * x1) (by omega) (by omega), w32_id (by omega) (by omega)]
    unfold qf_L_door qf_X11_door qf_X11_door_J22 qf_X11_door_J23 qf_X11_door_J51 qf_X11_door_J52 qf_X11_door_J80 qf_X11_door_J81 qf_X8_addDoor qf_X8_addDoor_J66 qf_X11_isLine qf_X18_door qf_X16_lengthOf qf_X18_door_J51 qf_X18_door_J52 qf_X18_door_J87 qf_X18_door_J83 qf_X18_door_J88 qf_X16_door
    simp only [d2, d3, d4, d5]
    repeat' first
      | ((with_reducible refine qW_eq eL ?_); (try dsimp only))
      | with_reducible refine qW_within (fun _ => ?_) (fun _ _ => ?_)
      | with_reducible refine qW_isIn (fun _ => ?_) (fun _ _ => ?_)
      | with_reducible refine qW_na (fun _ => ?_) (fun _ => ?_)
      | with_reducible refine qW_ns (fun _ => ?_) (fun _ => ?_)
      | (with_reducible refine qW_goes (fun _ => ?_) (fun _ _ => ?_) (fun _ _ => ?_) <;> (try dsimp only) <;> (try simp only [qw_ap, qfl1_ap, qfl2_ap, qcp1_ap, qcp2_ap, false_and, true_and, and_true, and_false, and_self, if_false, if_true, reduceIte, Nat.reduceEqDiff, Int.reduceEq, Int.reduceNeg]))
      | (with_reducible refine qW_stays (by omega) (fun _ => ?_) (fun _ => ?_) <;> (try dsimp only) <;> (try simp only [qw_ap, qfl1_ap, qfl2_ap, qcp1_ap, qcp2_ap, false_and, true_and, and_true, and_false, and_self, if_false, if_true, reduceIte, Nat.reduceEqDiff, Int.reduceEq, Int.reduceNeg]))
      | (exfalso; omega)
      | with_reducible refine qW_bind ?_
      | (with_reducible refine qW_bnd ?_; try simp only [qw_ap, qfl1_ap, qfl2_ap, qcp1_ap, qcp2_ap, false_and, true_and, and_true, and_false, and_self, if_false, if_true, reduceIte, Nat.reduceEqDiff, Int.reduceEq, Int.reduceNeg])
      | (with_reducible refine qW_some ?_; (try dsimp only); try simp only [qw_ap, qfl1_ap, qfl2_ap, qcp1_ap, qcp2_ap, false_and, true_and, and_true, and_false, and_self, if_false, if_true, reduceIte, Nat.reduceEqDiff, Int.reduceEq, Int.reduceNeg])
      | ((with_reducible refine qW_no ?_); omega)
      | with_reducible refine qW_pos rfl ?_
      | ((with_reducible refine qW_pos ?_ ?_); omega)
      | ((with_reducible refine qW_neg ?_ ?_); (first | omega | decide))
      | with_reducible refine qW_ite (fun _ => ?_) (fun _ => ?_)
      | dsimp only
    all_goals first
      | exact ⟨fun x => absurd x (by decide), R_doorn_x (M := M) (K := K) rfl (fun _ _ => rfl) (fun _ _ => rfl) h_doorn, R_doors_x (M := M) (K := K) (fun _ _ => rfl) (fun _ _ => rfl) (fun _ _ => rfl) (fun _ _ => rfl) (fun _ _ => rfl) (fun _ _ => rfl) h_doors⟩
      | skip
    all_goals (
      refine ⟨fun _ => ?_, ?_, ?_⟩
      · unfold cI
        rw [ek]
      · intro l l0 l1
        have q := h_doorn l l0 l1
        by_cases e : l = x1
        · subst e
          simp only [qw_ap, ek, d1, false_and, true_and, and_true, and_false, and_self, if_false, if_true, reduceIte, Nat.reduceEqDiff, Int.reduceEq]
          omega
        · simp only [qw_ap, e, false_and, true_and, and_true, and_false, and_self, if_false, if_true, reduceIte, Nat.reduceEqDiff, Int.reduceEq]
          exact q
      · intro l d l0 l1 dd0 dd1
        by_cases e : l = x1
        · subst e
          have dd2 : d < (M 29 l 0) + 1 := by
            have dd1 : d < (if l = l then w32 ((M 29 l 0) + 1) else (M 29 l 0)) := by
              simpa [qw_ap] using dd1
            rw [if_pos rfl, d1] at dd1
            exact dd1
          by_cases e2 : d = (M 29 l 0)
          · rw [e2]
            have f1 : ¬ (3 * (M 29 l 0) = 3 * (M 29 l 0) + 1) := by omega
            have f2 : ¬ (3 * (M 29 l 0) = 3 * (M 29 l 0) + 2) := by omega
            have f3 : ¬ (3 * (M 29 l 0) + 1 = 3 * (M 29 l 0) + 2) := by omega
            have f4 : ¬ (3 * (M 29 l 0) + 1 = 3 * (M 29 l 0)) := by omega
            have f5 : ¬ (3 * (M 29 l 0) + 2 = 3 * (M 29 l 0) + 1) := by omega
            have f6 : ¬ (3 * (M 29 l 0) + 2 = 3 * (M 29 l 0)) := by omega
            simp only [qw_ap, f1, f2, f3, f4, f5, f6, false_and, true_and, and_true, and_false, and_self, if_false, if_true, reduceIte, Nat.reduceEqDiff, Int.reduceEq]
            omega
          · have f1 : ¬ (3 * d = 3 * (M 29 l 0) + 1) := by omega
            have f2 : ¬ (3 * d = 3 * (M 29 l 0) + 2) := by omega
            have f3 : ¬ (3 * d = 3 * (M 29 l 0)) := by omega
            have f4 : ¬ (3 * d + 1 = 3 * (M 29 l 0) + 1) := by omega
            have f5 : ¬ (3 * d + 1 = 3 * (M 29 l 0) + 2) := by omega
            have f6 : ¬ (3 * d + 1 = 3 * (M 29 l 0)) := by omega
            have f7 : ¬ (3 * d + 2 = 3 * (M 29 l 0) + 1) := by omega
            have f8 : ¬ (3 * d + 2 = 3 * (M 29 l 0) + 2) := by omega
            have f9 : ¬ (3 * d + 2 = 3 * (M 29 l 0)) := by omega
            have f0 : ¬ (6 * l + d = 6 * l + (M 29 l 0)) := by omega
            have q := h_doors l d l0 l1 dd0 (by omega)
            simp only [qw_ap, d5, f0, f1, f2, f3, f4, f5, f6, f7, f8, f9, false_and, true_and, and_true, and_false, and_self, if_false, if_true, reduceIte, Nat.reduceEqDiff, Int.reduceEq]
            exact q
        · have dd2 : d < (M 29 l 0) := by
            have dd1 : d < (if l = x1 then w32 ((M 29 x1 0) + 1) else (M 29 l 0)) := by
              simpa [qw_ap] using dd1
            rw [if_neg e] at dd1
            exact dd1
          have qd2 := h_doorn l l0 l1
          have f0 : ¬ (6 * l + d = 6 * x1 + (M 29 x1 0)) := by omega
          have q := h_doors l d l0 l1 dd0 dd2
          simp only [qw_ap, d5, e, f0, false_and, true_and, and_true, and_false, and_self, if_false, if_true, reduceIte, Nat.reduceEqDiff, Int.reduceEq]
          exact q)
  · unfold qf_L_door qf_X11_door qf_X11_door_J22 qf_X11_door_J23 qf_X8_lengthOf qf_X11_door_J51 qf_X11_door_J52 qf_X11_door_J80 qf_X11_door_J81 qf_X8_addDoor qf_X8_addDoor_J66 qf_X11_isLine qf_X18_door qf_X16_lengthOf qf_X18_door_J51 qf_X18_door_J52 qf_X18_door_J87 qf_X18_door_J83 qf_X18_door_J88 qf_X16_door
    repeat' first
      | with_reducible refine qW_within (fun _ => ?_) (fun _ _ => ?_)
      | with_reducible refine qW_isIn (fun _ => ?_) (fun _ _ => ?_)
      | with_reducible refine qW_na (fun _ => ?_) (fun _ => ?_)
      | with_reducible refine qW_ns (fun _ => ?_) (fun _ => ?_)
      | (with_reducible refine qW_goes (fun _ => ?_) (fun _ _ => ?_) (fun _ _ => ?_) <;> (try dsimp only) <;> (try simp only [qw_ap, qfl1_ap, qfl2_ap, qcp1_ap, qcp2_ap, false_and, true_and, and_true, and_false, and_self, if_false, if_true, reduceIte, Nat.reduceEqDiff, Int.reduceEq, Int.reduceNeg]))
      | (with_reducible refine qW_stays (by omega) (fun _ => ?_) (fun _ => ?_) <;> (try dsimp only) <;> (try simp only [qw_ap, qfl1_ap, qfl2_ap, qcp1_ap, qcp2_ap, false_and, true_and, and_true, and_false, and_self, if_false, if_true, reduceIte, Nat.reduceEqDiff, Int.reduceEq, Int.reduceNeg]))
      | (exfalso; omega)
      | with_reducible refine qW_bind ?_
      | (with_reducible refine qW_bnd ?_; try simp only [qw_ap, qfl1_ap, qfl2_ap, qcp1_ap, qcp2_ap, false_and, true_and, and_true, and_false, and_self, if_false, if_true, reduceIte, Nat.reduceEqDiff, Int.reduceEq, Int.reduceNeg])
      | (with_reducible refine qW_some ?_; (try dsimp only); try simp only [qw_ap, qfl1_ap, qfl2_ap, qcp1_ap, qcp2_ap, false_and, true_and, and_true, and_false, and_self, if_false, if_true, reduceIte, Nat.reduceEqDiff, Int.reduceEq, Int.reduceNeg])
      | ((with_reducible refine qW_no ?_); omega)
      | with_reducible refine qW_pos rfl ?_
      | ((with_reducible refine qW_pos ?_ ?_); omega)
      | ((with_reducible refine qW_neg ?_ ?_); (first | omega | decide))
      | with_reducible refine qW_ite (fun _ => ?_) (fun _ => ?_)
      | dsimp only
    all_goals exact ⟨fun x => absurd x (by decide), R_doorn_x (M := M) (K := K) rfl (fun _ _ => rfl) (fun _ _ => rfl) h_doorn, R_doors_x (M := M) (K := K) (fun _ _ => rfl) (fun _ _ => rfl) (fun _ _ => rfl) (fun _ _ => rfl) (fun _ _ => rfl) (fun _ _ => rfl) h_doors⟩
theorem op_event {E : Int} (h_built : R_built M K) (h_mevent : R_mevent M K) (he : evn M K E) (hE : E < 2000000000) : oK2 cI (qf_L_event 20000 x1 x2 M) (qf_X18_event 20000 x1 x2 K) (fun _ _ => True) := by
  have s_built := h_built
  unfold R_built at s_built
  obtain ⟨v0, v1, v2⟩ := he
  have ek : (K 2208 30 0) = min (M 1172 17 0) 60 := by
    rw [v2]
    split <;> omega
  have w1 : w32 (min (M 1172 17 0) 60 - 1) = min (M 1172 17 0) 60 - 1 := w32_id (by omega) (by omega)
  unfold oK2
  by_cases hx : 0 ≤ x1 ∧ x1 < min (M 1172 17 0) 60
  · have q := h_mevent x1 hx.1 (by omega) (by omega)
    have d1 : w32 (w32 ((M 1172 17 0) - 1) - x1) = (M 1172 17 0) - 1 - x1 := by rw [w32_id (x := (M 1172 17 0) - 1) (by omega) (by omega), w32_id (by omega) (by omega)]
    have d2 : Int.tmod ((M 1172 17 0) - 1 - x1) 60 = ((M 1172 17 0) - 1 - x1) % 60 := Int.tmod_eq_emod_of_nonneg (by omega)
    have d3 : w32 (w32 ((K 2208 30 0) - 1) - x1) = (K 2208 30 0) - 1 - x1 := by rw [w32_id (x := (K 2208 30 0) - 1) (by omega) (by omega), w32_id (by omega) (by omega)]
    unfold qf_L_event qf_X11_event qf_X11_event_J30 qf_X11_event_J31 qf_X4_eventFact qf_X4_keptEvents qf_X18_event qf_X18_event_J27 qf_X18_event_J28 qf_X14_event
    simp only [d1, d2, d3]
    clear v2
    repeat' first
      | with_reducible refine qW_within (fun _ => ?_) (fun _ _ => ?_)
      | with_reducible refine qW_isIn (fun _ => ?_) (fun _ _ => ?_)
      | with_reducible refine qW_na (fun _ => ?_) (fun _ => ?_)
      | with_reducible refine qW_ns (fun _ => ?_) (fun _ => ?_)
      | (with_reducible refine qW_goes (fun _ => ?_) (fun _ _ => ?_) (fun _ _ => ?_) <;> (try dsimp only) <;> (try simp only [qw_ap, qfl1_ap, qfl2_ap, qcp1_ap, qcp2_ap, false_and, true_and, and_true, and_false, and_self, if_false, if_true, reduceIte, Nat.reduceEqDiff, Int.reduceEq, Int.reduceNeg]))
      | (with_reducible refine qW_stays (by omega) (fun _ => ?_) (fun _ => ?_) <;> (try dsimp only) <;> (try simp only [qw_ap, qfl1_ap, qfl2_ap, qcp1_ap, qcp2_ap, false_and, true_and, and_true, and_false, and_self, if_false, if_true, reduceIte, Nat.reduceEqDiff, Int.reduceEq, Int.reduceNeg]))
      | (exfalso; omega)
      | with_reducible refine qW_bind ?_
      | (with_reducible refine qW_bnd ?_; try simp only [qw_ap, qfl1_ap, qfl2_ap, qcp1_ap, qcp2_ap, false_and, true_and, and_true, and_false, and_self, if_false, if_true, reduceIte, Nat.reduceEqDiff, Int.reduceEq, Int.reduceNeg])
      | (with_reducible refine qW_some ?_; (try dsimp only); try simp only [qw_ap, qfl1_ap, qfl2_ap, qcp1_ap, qcp2_ap, false_and, true_and, and_true, and_false, and_self, if_false, if_true, reduceIte, Nat.reduceEqDiff, Int.reduceEq, Int.reduceNeg])
      | ((with_reducible refine qW_no ?_); omega)
      | with_reducible refine qW_pos rfl ?_
      | ((with_reducible refine qW_pos ?_ ?_); omega)
      | ((with_reducible refine qW_neg ?_ ?_); (first | omega | decide))
      | with_reducible refine qW_ite (fun _ => ?_) (fun _ => ?_)
      | dsimp only
    all_goals first
      | exact fun x => absurd x (by decide)
      | (intro _; unfold cI; rw [d3]; first | (rw [show x2 = 0 by omega]; omega) | (rw [show x2 = 1 by omega]; omega) | (rw [show x2 = 2 by omega]; omega))
  · unfold qf_L_event qf_X11_event qf_X11_event_J30 qf_X11_event_J31 qf_X4_eventFact qf_X4_keptEvents qf_X18_event qf_X18_event_J27 qf_X18_event_J28 qf_X14_event
    repeat' first
      | with_reducible refine qW_within (fun _ => ?_) (fun _ _ => ?_)
      | with_reducible refine qW_isIn (fun _ => ?_) (fun _ _ => ?_)
      | with_reducible refine qW_na (fun _ => ?_) (fun _ => ?_)
      | with_reducible refine qW_ns (fun _ => ?_) (fun _ => ?_)
      | (with_reducible refine qW_goes (fun _ => ?_) (fun _ _ => ?_) (fun _ _ => ?_) <;> (try dsimp only) <;> (try simp only [qw_ap, qfl1_ap, qfl2_ap, qcp1_ap, qcp2_ap, false_and, true_and, and_true, and_false, and_self, if_false, if_true, reduceIte, Nat.reduceEqDiff, Int.reduceEq, Int.reduceNeg]))
      | (with_reducible refine qW_stays (by omega) (fun _ => ?_) (fun _ => ?_) <;> (try dsimp only) <;> (try simp only [qw_ap, qfl1_ap, qfl2_ap, qcp1_ap, qcp2_ap, false_and, true_and, and_true, and_false, and_self, if_false, if_true, reduceIte, Nat.reduceEqDiff, Int.reduceEq, Int.reduceNeg]))
      | (exfalso; omega)
      | with_reducible refine qW_bind ?_
      | (with_reducible refine qW_bnd ?_; try simp only [qw_ap, qfl1_ap, qfl2_ap, qcp1_ap, qcp2_ap, false_and, true_and, and_true, and_false, and_self, if_false, if_true, reduceIte, Nat.reduceEqDiff, Int.reduceEq, Int.reduceNeg])
      | (with_reducible refine qW_some ?_; (try dsimp only); try simp only [qw_ap, qfl1_ap, qfl2_ap, qcp1_ap, qcp2_ap, false_and, true_and, and_true, and_false, and_self, if_false, if_true, reduceIte, Nat.reduceEqDiff, Int.reduceEq, Int.reduceNeg])
      | ((with_reducible refine qW_no ?_); omega)
      | with_reducible refine qW_pos rfl ?_
      | ((with_reducible refine qW_pos ?_ ?_); omega)
      | ((with_reducible refine qW_neg ?_ ?_); (first | omega | decide))
      | with_reducible refine qW_ite (fun _ => ?_) (fun _ => ?_)
      | dsimp only
    all_goals exact fun x => absurd x (by decide)
theorem op_disturb (h_built : R_built M K) (h_time : R_time M K) (h_bnow : R_bnow M K) (h_bspn : R_bspn M K) (h_bspoilt : R_bspoilt M K) : oK2 cB (qf_L_disturb 20000 x1 M) (qf_X18_disturb 20000 x1 K) (fun M' K' => R_bspn M' K' ∧ R_bspoilt M' K') := by
  have s_built := h_built
  unfold R_built at s_built
  have s_time := h_time
  unfold R_time at s_time
  have s_bnow := h_bnow
  unfold R_bnow at s_bnow
  have s_bspn := h_bspn
  unfold R_bspn at s_bspn
  unfold oK2
  by_cases hx : 1 ≤ x1 ∧ x1 ≤ 2000
  · have q := h_bspoilt.1 ((M 1139 5 0) + x1) (by omega) (by omega)
    have d1 : w32 ((M 1139 5 0) + x1) = (M 1139 5 0) + x1 := w32_id (by omega) (by omega)
    have d2 : Int.tmod ((M 1139 5 0) + x1) 2001 = ((M 1139 5 0) + x1) % 2001 := Int.tmod_eq_emod_of_nonneg (by omega)
    have d3 : w32 ((K 2252 0 0) + x1) = (M 1139 5 0) + x1 := by rw [s_bnow.2.2, d1]
    have d4 : w32 ((K 2252 3 0) + 1) = (M 1139 8 0) + 1 := by rw [s_bspn.1, w32_id (by omega) (by omega)]
    have d5 : w32 ((K 2252 3 0) + 0) = (M 1139 8 0) := by rw [s_bspn.1, Int.add_zero, w32_id (by omega) (by omega)]
    have d6 : w32 ((M 1139 8 0) + 1) = (M 1139 8 0) + 1 := w32_id (by omega) (by omega)
    have q2 : (K 2254 (w32 ((K 2252 0 0) + x1)) 0) = (M 1168 (((M 1139 5 0) + x1) % 2001) 0) ∧ ((K 2254 (w32 ((K 2252 0 0) + x1)) 0) = 0 ∨ (K 2254 (w32 ((K 2252 0 0) + x1)) 0) = 1) := by rw [d3]; exact q
    have q3 : 0 ≤ w32 ((K 2252 0 0) + x1) ∧ w32 ((K 2252 0 0) + x1) < 182001 := by rw [d3]; omega
    unfold qf_L_disturb qf_L_disturb_J15 qf_X11_disturb qf_X11_disturb_J34 qf_X11_disturb_J35 qf_X1_addDisturbance qf_X18_disturb qf_X18_disturb_J17 qf_X18_disturb_J18 qf_X12_mayDisturb qf_X18_disturb_J39 qf_X18_disturb_J40 qf_X12_disturb qf_X12_disturb_J19 qf_X12_disturb_J46
    simp only [d1, d2]
    repeat' first
      | with_reducible refine qW_pos (Or.inr trivial) ?_
      | with_reducible refine qW_pos (Or.inl trivial) ?_
      | with_reducible refine qW_within (fun _ => ?_) (fun _ _ => ?_)
      | with_reducible refine qW_isIn (fun _ => ?_) (fun _ _ => ?_)
      | with_reducible refine qW_na (fun _ => ?_) (fun _ => ?_)
      | with_reducible refine qW_ns (fun _ => ?_) (fun _ => ?_)
      | (with_reducible refine qW_goes (fun _ => ?_) (fun _ _ => ?_) (fun _ _ => ?_) <;> (try dsimp only) <;> (try simp only [qw_ap, qfl1_ap, qfl2_ap, qcp1_ap, qcp2_ap, false_and, true_and, and_true, and_false, and_self, if_false, if_true, reduceIte, Nat.reduceEqDiff, Int.reduceEq, Int.reduceNeg]))
      | (with_reducible refine qW_stays (by omega) (fun _ => ?_) (fun _ => ?_) <;> (try dsimp only) <;> (try simp only [qw_ap, qfl1_ap, qfl2_ap, qcp1_ap, qcp2_ap, false_and, true_and, and_true, and_false, and_self, if_false, if_true, reduceIte, Nat.reduceEqDiff, Int.reduceEq, Int.reduceNeg]))
      | (exfalso; omega)
      | with_reducible refine qW_bind ?_
      | (with_reducible refine qW_bnd ?_; try simp only [qw_ap, qfl1_ap, qfl2_ap, qcp1_ap, qcp2_ap, false_and, true_and, and_true, and_false, and_self, if_false, if_true, reduceIte, Nat.reduceEqDiff, Int.reduceEq, Int.reduceNeg])
      | (with_reducible refine qW_some ?_; (try dsimp only); try simp only [qw_ap, qfl1_ap, qfl2_ap, qcp1_ap, qcp2_ap, false_and, true_and, and_true, and_false, and_self, if_false, if_true, reduceIte, Nat.reduceEqDiff, Int.reduceEq, Int.reduceNeg])
      | ((with_reducible refine qW_no ?_); omega)
      | with_reducible refine qW_pos rfl ?_
      | ((with_reducible refine qW_pos ?_ ?_); omega)
      | ((with_reducible refine qW_neg ?_ ?_); (first | omega | decide))
      | with_reducible refine qW_ite (fun _ => ?_) (fun _ => ?_)
      | dsimp only
    all_goals first
      | exact ⟨fun x => absurd x (by decide), R_bspn_x (M := M) (K := K) rfl rfl h_bspn, R_bspoilt_x (M := M) (K := K) rfl (fun _ _ => rfl) (fun _ _ => rfl) h_bspoilt⟩
      | skip
    all_goals (
      (try simp only [d3, d4, d5, d6])
      refine ⟨fun _ => ?_, ?_, ?_, ?_, ?_⟩
      · unfold cB
        simp
      · unfold R_bspn
        simp only [qw_ap, d4, d5, d6, false_and, true_and, and_true, and_false, and_self, if_false, if_true, reduceIte, Nat.reduceEqDiff, Int.reduceEq]
        omega
      · intro t t0 t1
        have z := h_bspoilt.1 t t0 t1
        by_cases e : t = (M 1139 5 0) + x1
        · rw [e]
          refine ⟨?_, Or.inr ?_⟩
          · simp only [qw_ap, false_and, true_and, and_true, and_false, and_self, if_false, if_true, reduceIte, Nat.reduceEqDiff, Int.reduceEq]
            (try omega)
          · simp only [qw_ap, false_and, true_and, and_true, and_false, and_self, if_false, if_true, reduceIte, Nat.reduceEqDiff, Int.reduceEq]
        · have f : ¬ t % 2001 = ((M 1139 5 0) + x1) % 2001 := by
            have t0 : (M 1139 5 0) < t := t0
            have t1 : t ≤ (M 1139 5 0) + 2000 := t1
            omega
          simp only [qw_ap, e, f, false_and, true_and, and_true, and_false, and_self, if_false, if_true, reduceIte, Nat.reduceEqDiff, Int.reduceEq]
          exact z
      · intro t t0
        have t0 : (M 1139 5 0) + 2000 < t := t0
        have z := h_bspoilt.2.1 t t0
        have e : ¬ t = (M 1139 5 0) + x1 := by omega
        simp only [qw_ap, e, false_and, true_and, and_true, and_false, and_self, if_false, if_true, reduceIte, Nat.reduceEqDiff, Int.reduceEq]
        exact z
      · have z := h_bspoilt.2.2
        have f : ¬ (M 1139 5 0) % 2001 = ((M 1139 5 0) + x1) % 2001 := by omega
        simp only [qw_ap, f, false_and, true_and, and_true, and_false, and_self, if_false, if_true, reduceIte, Nat.reduceEqDiff, Int.reduceEq]
        exact z)
  · unfold qf_L_disturb qf_L_disturb_J15 qf_X11_disturb qf_X11_disturb_J34 qf_X11_disturb_J35 qf_X1_addDisturbance qf_X18_disturb qf_X18_disturb_J17 qf_X18_disturb_J18 qf_X12_mayDisturb qf_X18_disturb_J39 qf_X18_disturb_J40 qf_X12_disturb qf_X12_disturb_J19 qf_X12_disturb_J46
    repeat' first
      | with_reducible refine qW_within (fun _ => ?_) (fun _ _ => ?_)
      | with_reducible refine qW_isIn (fun _ => ?_) (fun _ _ => ?_)
      | with_reducible refine qW_na (fun _ => ?_) (fun _ => ?_)
      | with_reducible refine qW_ns (fun _ => ?_) (fun _ => ?_)
      | (with_reducible refine qW_goes (fun _ => ?_) (fun _ _ => ?_) (fun _ _ => ?_) <;> (try dsimp only) <;> (try simp only [qw_ap, qfl1_ap, qfl2_ap, qcp1_ap, qcp2_ap, false_and, true_and, and_true, and_false, and_self, if_false, if_true, reduceIte, Nat.reduceEqDiff, Int.reduceEq, Int.reduceNeg]))
      | (with_reducible refine qW_stays (by omega) (fun _ => ?_) (fun _ => ?_) <;> (try dsimp only) <;> (try simp only [qw_ap, qfl1_ap, qfl2_ap, qcp1_ap, qcp2_ap, false_and, true_and, and_true, and_false, and_self, if_false, if_true, reduceIte, Nat.reduceEqDiff, Int.reduceEq, Int.reduceNeg]))
      | (exfalso; omega)
      | with_reducible refine qW_bind ?_
      | (with_reducible refine qW_bnd ?_; try simp only [qw_ap, qfl1_ap, qfl2_ap, qcp1_ap, qcp2_ap, false_and, true_and, and_true, and_false, and_self, if_false, if_true, reduceIte, Nat.reduceEqDiff, Int.reduceEq, Int.reduceNeg])
      | (with_reducible refine qW_some ?_; (try dsimp only); try simp only [qw_ap, qfl1_ap, qfl2_ap, qcp1_ap, qcp2_ap, false_and, true_and, and_true, and_false, and_self, if_false, if_true, reduceIte, Nat.reduceEqDiff, Int.reduceEq, Int.reduceNeg])
      | ((with_reducible refine qW_no ?_); omega)
      | with_reducible refine qW_pos rfl ?_
      | ((with_reducible refine qW_pos ?_ ?_); omega)
      | ((with_reducible refine qW_neg ?_ ?_); (first | omega | decide))
      | with_reducible refine qW_ite (fun _ => ?_) (fun _ => ?_)
      | dsimp only
    all_goals exact ⟨fun x => absurd x (by decide), R_bspn_x (M := M) (K := K) rfl rfl h_bspn, R_bspoilt_x (M := M) (K := K) rfl (fun _ _ => rfl) (fun _ _ => rfl) h_bspoilt⟩
end OPA
