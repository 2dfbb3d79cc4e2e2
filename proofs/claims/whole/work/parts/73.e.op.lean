/-! ===== the calls inside, cell, zone ===== -/
section OPE
variable {M K : qm} {x1 x2 x3 z E : Int}
theorem countInZone_r (h : psC M) (h0 : (M 51 3 0) ≤ 100) : qW (qf_X10_countInZone 20000 z M) (fun r => r = sI (fun p => if zoV M (M 761 p 0) = z then 1 else 0) (M 756 7 0)) := by
  have n0 := h.1
  have n1 := h.2.1
  unfold qf_X10_countInZone qf_X10_countInZone_L4
  refine qW_call (Q := fun o => o = .inr (sI (fun p => if zoV M (M 761 p 0) = z then 1 else 0) (M 756 7 0))) ?_ ?_
  · refine qW_for (M 756 7 0) (fun i s => s = (z, sI (fun p => if zoV M (M 761 p 0) = z then 1 else 0) i, i)) ?_ ?_ rfl (by omega) (by omega)
    · rintro i _ i0 i1 rfl
      have hb := sI_b (g := fun p => if zoV M (M 761 p 0) = z then 1 else 0) i0 (fun _ _ _ => ite01)
      have hs := sI_s (f := fun p => if zoV M (M 761 p 0) = z then 1 else 0) i0
      (try dsimp only at hs ⊢)
      unfold qf_X10_countInZone_L4_b qf_X10_countInZone_J31 qf_X10_roomOf
      rw [if_neg (by omega), if_pos (show 0 ≤ i ∧ i < 40 by omega)]
      refine qW_bind (qW_some ?_)
      rw [zoneOf_r h0]
      refine qW_bind (qW_some ?_)
      by_cases e : zoV M (M 761 i 0) = z
      · rw [if_pos e] at hs ⊢
        refine qW_some ?_
        rw [hs, w32_id (by omega) (by omega), w32_id (by omega) (by omega)]
      · rw [if_neg e] at hs ⊢
        refine qW_some ?_
        rw [hs, w32_id (by omega) (by omega), w32_id (by omega) (by omega)]
    · rintro _ rfl
      (try dsimp only)
      unfold qf_X10_countInZone_L4_b
      rw [if_pos (Int.le_refl _)]
      exact qW_some rfl
  · rintro _ rfl
    exact qW_some rfl
theorem insideL_r (h_personn : R_personn M K) (h_persons : R_persons M K) (h_personb : R_personb M K) (h_names : R_names M K) (h_spaces : R_spaces M K) (hz : (K 2156 9 0) = (M 51 3 0)) : qW (qf_X18_inside_L23 20000 20000 z 0 0 K) (fun o => o = .inr (sI (fun p => if zoV M (M 761 p 0) = z then 1 else 0) (M 756 7 0))) := by
  have s_personn := h_personn
  unfold R_personn at s_personn
  unfold qf_X18_inside_L23
  refine qW_for (M 756 7 0) (fun i s => s = (z, sI (fun p => if zoV M (M 761 p 0) = z then 1 else 0) i, i)) ?_ ?_ rfl s_personn.1 (by omega)
  · rintro i _ i0 i1 rfl
    have hb := sI_b (g := fun p => if zoV M (M 761 p 0) = z then 1 else 0) i0 (fun _ _ _ => ite01)
    have hs := sI_s (f := fun p => if zoV M (M 761 p 0) = z then 1 else 0) i0
    (try dsimp only at hs ⊢)
    have q := h_persons i i0 i1
    have q2 := h_personb i i0 i1
    unfold qf_X18_inside_L23_b qf_X18_inside_J51
    rw [if_neg (by omega), if_pos (show 0 ≤ i ∧ i < 40 by omega), zoneOf_k h_names h_spaces hz q2.1 q2.2.1, q.1]
    refine qW_bind (qW_some ?_)
    by_cases e : zoV M (M 761 i 0) = z
    · rw [if_pos e] at hs ⊢
      refine qW_some ?_
      rw [hs, w32_id (by omega) (by omega), w32_id (by omega) (by omega)]
    · rw [if_neg e] at hs ⊢
      refine qW_some ?_
      rw [hs, w32_id (by omega) (by omega), w32_id (by omega) (by omega)]
  · rintro _ rfl
    (try dsimp only)
    unfold qf_X18_inside_L23_b
    rw [if_pos (by omega)]
    exact qW_some rfl
theorem op_inside (h_built : R_built M K) (h_personn : R_personn M K) (h_persons : R_persons M K) (h_personb : R_personb M K) (h_names : R_names M K) (h_spaces : R_spaces M K) (h_rooms : R_rooms M K) : oK2 cI (qf_L_inside 20000 x1 M) (qf_X18_inside 20000 x1 K) (fun _ _ => True) := by
  have s_built := h_built
  unfold R_built at s_built
  have s_spaces := h_spaces
  unfold R_spaces at s_spaces
  obtain ⟨a, ea, ha⟩ := countInZone_r (z := x1) (psC_of h_personn h_persons h_personb) (by omega)
  unfold oK2
  by_cases hb : (M 6 11 0) = 0
  · unfold qf_L_inside qf_X11_inside qf_X18_inside
    repeat' first
      | with_reducible refine qW_within (fun _ => ?_) (fun _ _ => ?_)
      | with_reducible refine qW_isIn (fun _ => ?_) (fun _ _ => ?_)
      | with_reducible refine qW_na (fun _ => ?_) (fun _ => ?_)
      | with_reducible refine qW_ns (fun _ => ?_) (fun _ => ?_)
      | (with_reducible refine qW_goes (fun _ => ?_) (fun _ _ => ?_) (fun _ _ => ?_) <;> (try dsimp only) <;> (try simp only [qw_ap, qfl1_ap, qfl2_ap, qcp1_ap, qcp2_ap, false_and, true_and, and_true, and_false, and_self, if_false, if_true, reduceIte, Nat.reduceEqDiff, Int.reduceEq, Int.reduceNeg]))
      | (with_reducible refine qW_stays (by omega) (fun _ => ?_) (fun _ => ?_) <;> (try dsimp only) <;> (try simp only [qw_ap, qfl1_ap, qfl2_ap, qcp1_ap, qcp2_ap, false_and, true_and, and_true, and_false, and_self, if_false, if_true, reduceIte, Nat.reduceEqDiff, Int.reduceEq, Int.reduceNeg]))
      | (exfalso; omega)
      | with_reducible refine qW_bind ?_
      | (with_reducible refine qW_bnd ?_; try simp only [qw_ap, qfl1_ap, qfl2_ap, qcp1_ap, qcp2_ap, false_and, true_and, and_true, and_false, and_self, if_false, if_true, reduceIte, Nat.reduceEqDiff, Int.reduceEq, Int.reduceNeg])
      | (with_reducible refine qW_some ?_; (try dsimp only); try simp only [qw_ap, qfl1_ap, qfl2_ap, qcp1_ap, qcp2_ap, false_and, true_and, and_true, and_false, and_self, if_false, if_true, reduceIte, Nat.reduceEqDiff, Int.reduceEq, Int.reduceNeg])
      | ((with_reducible refine qW_no ?_); omega)
      | with_reducible refine qW_pos rfl ?_
      | ((with_reducible refine qW_pos ?_ ?_); omega)
      | ((with_reducible refine qW_neg ?_ ?_); (first | omega | decide))
      | with_reducible refine qW_ite (fun _ => ?_) (fun _ => ?_)
      | dsimp only
    all_goals exact fun x => absurd x (by decide)
  · have hz := h_rooms hb
    obtain ⟨o, eo, ho⟩ := insideL_r (M := M) (K := qw K 2156 0 0 0) (z := x1) (R_personn_x (M := M) (K := K) rfl rfl h_personn) (R_persons_x (M := M) (K := K) rfl (fun _ _ => rfl) (fun _ _ => rfl) (fun _ _ => rfl) (fun _ _ => rfl) (fun _ _ => rfl) (fun _ _ => rfl) (fun _ _ => rfl) (fun _ _ => rfl) (fun _ _ => rfl) h_persons) (R_personb_x (M := M) (K := K) rfl (fun _ _ => rfl) rfl rfl (fun _ _ => rfl) (fun _ _ => rfl) (fun _ _ => rfl) (fun _ _ => rfl) (fun _ _ => rfl) h_personb) (R_names_x (M := M) (K := K) rfl (fun _ _ => rfl) (fun _ _ => rfl) h_names) (R_spaces_x (M := M) (K := K) rfl rfl rfl h_spaces) hz.1
    rw [ho, ← ha] at eo
    clear ha ho
    unfold qf_L_inside qf_X11_inside qf_X18_inside
    repeat' first
      | ((with_reducible refine qW_eq ea ?_); (try dsimp only))
      | ((with_reducible refine qW_eq eo ?_); (try dsimp only))
      | with_reducible refine qW_within (fun _ => ?_) (fun _ _ => ?_)
      | with_reducible refine qW_isIn (fun _ => ?_) (fun _ _ => ?_)
      | with_reducible refine qW_na (fun _ => ?_) (fun _ => ?_)
      | with_reducible refine qW_ns (fun _ => ?_) (fun _ => ?_)
      | (with_reducible refine qW_goes (fun _ => ?_) (fun _ _ => ?_) (fun _ _ => ?_) <;> (try dsimp only) <;> (try simp only [qw_ap, qfl1_ap, qfl2_ap, qcp1_ap, qcp2_ap, false_and, true_and, and_true, and_false, and_self, if_false, if_true, reduceIte, Nat.reduceEqDiff, Int.reduceEq, Int.reduceNeg]))
      | (with_reducible refine qW_stays (by omega) (fun _ => ?_) (fun _ => ?_) <;> (try dsimp only) <;> (try simp only [qw_ap, qfl1_ap, qfl2_ap, qcp1_ap, qcp2_ap, false_and, true_and, and_true, and_false, and_self, if_false, if_true, reduceIte, Nat.reduceEqDiff, Int.reduceEq, Int.reduceNeg]))
      | (exfalso; omega)
      | with_reducible refine qW_bind ?_
      | (with_reducible refine qW_bnd ?_; try simp only [qw_ap, qfl1_ap, qfl2_ap, qcp1_ap, qcp2_ap, false_and, true_and, and_true, and_false, and_self, if_false, if_true, reduceIte, Nat.reduceEqDiff, Int.reduceEq, Int.reduceNeg])
      | (with_reducible refine qW_some ?_; (try dsimp only); try simp only [qw_ap, qfl1_ap, qfl2_ap, qcp1_ap, qcp2_ap, false_and, true_and, and_true, and_false, and_self, if_false, if_true, reduceIte, Nat.reduceEqDiff, Int.reduceEq, Int.reduceNeg])
      | ((with_reducible refine qW_no ?_); omega)
      | with_reducible refine qW_pos rfl ?_
      | ((with_reducible refine qW_pos ?_ ?_); omega)
      | ((with_reducible refine qW_neg ?_ ?_); (first | omega | decide))
      | with_reducible refine qW_ite (fun _ => ?_) (fun _ => ?_)
      | dsimp only
    all_goals first
      | exact fun x => absurd x (by decide)
      | exact fun _ => rfl
theorem cellL_r (h_personn : R_personn M K) (h_persons : R_persons M K) (h_personb : R_personb M K) {x y : Int} (hx : 0 ≤ x ∧ x < 24) (hy : 0 ≤ y ∧ y < 24) : qW (qf_X18_cell_L97 20000 20000 x y 0 0 K) (fun o => o = .inr (sI (fun p => if celP M p = 24 * x + y ∧ (M 761 p 3) = -1 then 1 else 0) (M 756 7 0))) := by
  have s_personn := h_personn
  unfold R_personn at s_personn
  unfold qf_X18_cell_L97
  refine qW_for (M 756 7 0) (fun i s => s = (x, y, sI (fun p => if celP M p = 24 * x + y ∧ (M 761 p 3) = -1 then 1 else 0) i, i)) ?_ ?_ rfl s_personn.1 (by omega)
  · rintro i _ i0 i1 rfl
    have hb := sI_b (g := fun p => if celP M p = 24 * x + y ∧ (M 761 p 3) = -1 then 1 else 0) i0 (fun _ _ _ => ite01)
    have hs := sI_s (f := fun p => if celP M p = 24 * x + y ∧ (M 761 p 3) = -1 then 1 else 0) i0
    (try dsimp only at hs ⊢)
    have q := h_persons i i0 i1
    have q2 := h_personb i i0 i1
    have hr : 0 ≤ i ∧ i < 40 := by omega
    have ec : celP M i = 24 * x + y ↔ ((K 2307 i 0) = x ∧ (K 2308 i 0) = y) := by
      unfold celP
      by_cases g : (K 2306 i 0) = (K 2156 9 0)
      · have q3 := q2.2.2.2.2.2
        rw [if_pos g] at q3
        rw [if_pos (by omega)]
        constructor <;> intro u <;> omega
      · have q3 := q2.2.2.2.2.2
        rw [if_neg g] at q3
        rw [if_neg (by omega)]
        constructor <;> intro u <;> omega
    unfold qf_X18_cell_L97_b qf_X18_cell_J144 qf_X18_cell_J145
    rw [if_neg (by omega)]
    simp only [if_pos hr]
    by_cases e1 : (K 2307 i 0) = x
    · rw [if_pos e1]
      by_cases e2 : (K 2308 i 0) = y
      · rw [if_pos e2]
        by_cases e3 : 0 ≤ (K 2309 i 0)
        · rw [if_neg (fun u => by have := u.2; omega)] at hs
          rw [if_pos e3]
          refine qW_some ?_
          rw [hs, w32_id (by omega) (by omega), w32_id (by omega) (by omega)]
        · rw [if_pos ⟨ec.mpr ⟨e1, e2⟩, by omega⟩] at hs
          rw [if_neg e3]
          refine qW_some ?_
          rw [hs, w32_id (by omega) (by omega), w32_id (by omega) (by omega)]
      · rw [if_neg (fun u => e2 (ec.mp u.1).2)] at hs
        rw [if_neg e2]
        refine qW_some ?_
        rw [hs, w32_id (by omega) (by omega), w32_id (by omega) (by omega)]
    · rw [if_neg (fun u => e1 (ec.mp u.1).1)] at hs
      rw [if_neg e1]
      refine qW_some ?_
      rw [hs, w32_id (by omega) (by omega), w32_id (by omega) (by omega)]
  · rintro _ rfl
    (try dsimp only)
    unfold qf_X18_cell_L97_b
    rw [if_pos (by omega)]
    exact qW_some rfl
theorem op_cell (h_built : R_built M K) (h_personn : R_personn M K) (h_persons : R_persons M K) (h_personb : R_personb M K) (h_smoke : R_smoke M K) (h_walk : R_walk M K) : oK2 cI (qf_L_cell 20000 x1 x2 x3 M) (qf_X18_cell 20000 x1 x2 x3 K) (fun _ _ => True) := by
  have s_built := h_built
  unfold R_built at s_built
  unfold oK2
  by_cases hx : (0 ≤ x1 ∧ x1 < 24) ∧ 0 ≤ x2 ∧ x2 < 24
  · have eN : w32 (w32 (x1 * 24) + x2) = 24 * x1 + x2 := by rw [w32_id (x := x1 * 24) (by omega) (by omega), w32_id (by omega) (by omega)]; omega
    have eR : w32 (w32 (24 * x2) + x1) = 24 * x2 + x1 := by rw [w32_id (x := 24 * x2) (by omega) (by omega), w32_id (by omega) (by omega)]
    have qs := h_smoke x1 x2 hx.1.1 hx.1.2 hx.2.1 hx.2.2
    have qw_ := h_walk x1 x2 hx.1.1 hx.1.2 hx.2.1 hx.2.2
    obtain ⟨a, ea, ha⟩ := countInCell_r (M := M) (psC_of h_personn h_persons h_personb) (c := 24 * x1 + x2)
    obtain ⟨o, eo, ho⟩ := cellL_r (M := M) (K := qw K 2156 0 0 0) (x := x1) (y := x2) (R_personn_x (M := M) (K := K) rfl rfl h_personn) (R_persons_x (M := M) (K := K) rfl (fun _ _ => rfl) (fun _ _ => rfl) (fun _ _ => rfl) (fun _ _ => rfl) (fun _ _ => rfl) (fun _ _ => rfl) (fun _ _ => rfl) (fun _ _ => rfl) (fun _ _ => rfl) h_persons) (R_personb_x (M := M) (K := K) rfl (fun _ _ => rfl) rfl rfl (fun _ _ => rfl) (fun _ _ => rfl) (fun _ _ => rfl) (fun _ _ => rfl) (fun _ _ => rfl) h_personb) hx.1 hx.2
    rw [ho, ← ha] at eo
    clear ha ho
    unfold qf_L_cell qf_X11_cell qf_X11_cell_J21 qf_X11_cell_J22 qf_X10_cellFact qf_X2_cellNumber qf_X11_isCell qf_X18_cell qf_X18_cell_J21 qf_X18_cell_J22 qf_X18_isCell
    simp only [eN, eR]
    repeat' first
      | ((with_reducible refine qW_eq ea ?_); (try dsimp only))
      | ((with_reducible refine qW_eq eo ?_); (try dsimp only))
      | with_reducible refine qW_within (fun _ => ?_) (fun _ _ => ?_)
      | with_reducible refine qW_isIn (fun _ => ?_) (fun _ _ => ?_)
      | with_reducible refine qW_na (fun _ => ?_) (fun _ => ?_)
      | with_reducible refine qW_ns (fun _ => ?_) (fun _ => ?_)
      | (with_reducible refine qW_goes (fun _ => ?_) (fun _ _ => ?_) (fun _ _ => ?_) <;> (try dsimp only) <;> (try simp only [qw_ap, qfl1_ap, qfl2_ap, qcp1_ap, qcp2_ap, false_and, true_and, and_true, and_false, and_self, if_false, if_true, reduceIte, Nat.reduceEqDiff, Int.reduceEq, Int.reduceNeg]))
      | (with_reducible refine qW_stays (by omega) (fun _ => ?_) (fun _ => ?_) <;> (try dsimp only) <;> (try simp only [qw_ap, qfl1_ap, qfl2_ap, qcp1_ap, qcp2_ap, false_and, true_and, and_true, and_false, and_self, if_false, if_true, reduceIte, Nat.reduceEqDiff, Int.reduceEq, Int.reduceNeg]))
      | (exfalso; omega)
      | with_reducible refine qW_bind ?_
      | (with_reducible refine qW_bnd ?_; try simp only [qw_ap, qfl1_ap, qfl2_ap, qcp1_ap, qcp2_ap, false_and, true_and, and_true, and_false, and_self, if_false, if_true, reduceIte, Nat.reduceEqDiff, Int.reduceEq, Int.reduceNeg])
      | (with_reducible refine qW_some ?_; (try dsimp only); try simp only [qw_ap, qfl1_ap, qfl2_ap, qcp1_ap, qcp2_ap, false_and, true_and, and_true, and_false, and_self, if_false, if_true, reduceIte, Nat.reduceEqDiff, Int.reduceEq, Int.reduceNeg])
      | ((with_reducible refine qW_no ?_); omega)
      | with_reducible refine qW_pos rfl ?_
      | ((with_reducible refine qW_pos ?_ ?_); omega)
      | ((with_reducible refine qW_neg ?_ ?_); (first | omega | decide))
      | with_reducible refine qW_ite (fun _ => ?_) (fun _ => ?_)
      | dsimp only
    all_goals first
      | exact fun x => absurd x (by decide)
      | exact fun _ => rfl
      | (intro _; unfold cI; omega)
  · unfold qf_L_cell qf_X11_cell qf_X11_cell_J21 qf_X11_cell_J22 qf_X10_cellFact qf_X2_cellNumber qf_X11_isCell qf_X18_cell qf_X18_cell_J21 qf_X18_cell_J22 qf_X18_isCell
    repeat' first
      | with_reducible refine qW_within (fun _ => ?_) (fun _ _ => ?_)
      | with_reducible refine qW_isIn (fun _ => ?_) (fun _ _ => ?_)
      | with_reducible refine qW_na (fun _ => ?_) (fun _ => ?_)
      | with_reducible refine qW_ns (fun _ => ?_) (fun _ => ?_)
      | (with_reducible refine qW_goes (fun _ => ?_) (fun _ _ => ?_) (fun _ _ => ?_) <;> (try dsimp only) <;> (try simp only [qw_ap, qfl1_ap, qfl2_ap, qcp1_ap, qcp2_ap, false_and, true_and, and_true, and_false, and_self, if_false, if_true, reduceIte, Nat.reduceEqDiff, Int.reduceEq, Int.reduceNeg]))
      | (with_reducible refine qW_stays (by omega) (fun _ => ?_) (fun _ => ?_) <;> (try dsimp only) <;> (try simp only [qw_ap, qfl1_ap, qfl2_ap, qcp1_ap, qcp2_ap, false_and, true_and, and_true, and_false, and_self, if_false, if_true, reduceIte, Nat.reduceEqDiff, Int.reduceEq, Int.reduceNeg]))
      | (exfalso; omega)
      | with_reducible refine qW_bind ?_
      | (with_reducible refine qW_bnd ?_; try simp only [qw_ap, qfl1_ap, qfl2_ap, qcp1_ap, qcp2_ap, false_and, true_and, and_true, and_false, and_self, if_false, if_true, reduceIte, Nat.reduceEqDiff, Int.reduceEq, Int.reduceNeg])
      | (with_reducible refine qW_some ?_; (try dsimp only); try simp only [qw_ap, qfl1_ap, qfl2_ap, qcp1_ap, qcp2_ap, false_and, true_and, and_true, and_false, and_self, if_false, if_true, reduceIte, Nat.reduceEqDiff, Int.reduceEq, Int.reduceNeg])
      | ((with_reducible refine qW_no ?_); omega)
      | with_reducible refine qW_pos rfl ?_
      | ((with_reducible refine qW_pos ?_ ?_); omega)
      | ((with_reducible refine qW_neg ?_ ?_); (first | omega | decide))
      | with_reducible refine qW_ite (fun _ => ?_) (fun _ => ?_)
      | dsimp only
    all_goals exact fun x => absurd x (by decide)
theorem op_zone (h_built : R_built M K) (h : MxI M K E) : oK2 cI (qf_L_zone 20000 x1 x2 M) (qf_X18_zone 20000 x1 x2 K) (fun _ _ => True) := by
  have s_built := h_built
  unfold R_built at s_built
  have h1 := MxI_A (M := M) (K := K) (S := M) (T := qw K 2156 0 0 0) lkA_K h
  obtain ⟨g1, g2, g3, g4, g5, g6, g7, g8, g9, g10, g11, g12, g13, g14⟩ := h1
  have h_mzones := h.2.2.2.2.2.2.2.1
  unfold oK2
  by_cases hx : 0 ≤ x1 ∧ x1 < 20
  · have q := h_mzones x1 hx.1 hx.2
    have qz : (K 2215 x1 0) = 0 ↔ (M 1176 x1 0) = 0 := by omega
    by_cases ht : (K 2215 x1 0) = 1
    · have qn : (K 2216 x1 0) = (M 1176 x1 0) := by omega
      clear q
      have e1 := countOn_e (M := M) g1 (z := x1) (t := (M 6 12 0)) hx.1 hx.2
      have e2 := countAsked_e (M := M) g1 (z := x1) (t := (M 6 12 0)) hx.1 hx.2
      have e3 := isSure_e (M := M) (x := cOn M (M 6 12 0) x1) (y := cAk M (M 6 12 0) x1)
      have k1 := ofZone1_e g4 g5 g6 g7 g8 g9 g1 hx.1 hx.2 ht
      have k2 := isOnR_e g4 g5 g6 g7 g8 g9 g1 hx.1 hx.2 ht
      have k3 := isSureR_e g4 g5 g6 g7 g8 g9 g1 hx.1 hx.2 ht
      have b3 : b01 (0 < cAk M (M 6 12 0) x1 ∧ cOn M (M 6 12 0) x1 = cAk M (M 6 12 0) x1) = b01 (zSu M (M 6 12 0) x1) := rfl
      rw [b3] at e3
      have z1 := b01_o (p := zSu M (M 6 12 0) x1)
      have z2 : (b01 (zOn M (M 6 12 0) x1) = 1 ∧ (M 1176 x1 0) ≤ cOn M (M 6 12 0) x1) ∨ (b01 (zOn M (M 6 12 0) x1) = 0 ∧ ¬ (M 1176 x1 0) ≤ cOn M (M 6 12 0) x1) := b01_o (p := zOn M (M 6 12 0) x1)
      generalize b01 (zSu M (M 6 12 0) x1) = u at *
      generalize b01 (zOn M (M 6 12 0) x1) = v at *
      unfold qf_L_zone qf_X11_zone qf_X11_zone_J24 qf_X11_zone_J25 qf_X4_zoneFact qf_X4_isZone qf_X18_zone qf_X18_zone_J34 qf_X18_zone_J35
      repeat' first
        | ((with_reducible refine qW_eq e1 ?_); (try dsimp only))
        | ((with_reducible refine qW_eq e2 ?_); (try dsimp only))
        | ((with_reducible refine qW_eq e3 ?_); (try dsimp only))
        | ((with_reducible refine qW_eq k1 ?_); (try dsimp only))
        | ((with_reducible refine qW_eq k2 ?_); (try dsimp only))
        | ((with_reducible refine qW_eq k3 ?_); (try dsimp only))
        | with_reducible refine qW_within (fun _ => ?_) (fun _ _ => ?_)
        | with_reducible refine qW_isIn (fun _ => ?_) (fun _ _ => ?_)
        | with_reducible refine qW_na (fun _ => ?_) (fun _ => ?_)
        | with_reducible refine qW_ns (fun _ => ?_) (fun _ => ?_)
        | (with_reducible refine qW_goes (fun _ => ?_) (fun _ _ => ?_) (fun _ _ => ?_) <;> (try dsimp only) <;> (try simp only [qw_ap, qfl1_ap, qfl2_ap, qcp1_ap, qcp2_ap, false_and, true_and, and_true, and_false, and_self, if_false, if_true, reduceIte, Nat.reduceEqDiff, Int.reduceEq, Int.reduceNeg]))
        | (with_reducible refine qW_stays (by omega) (fun _ => ?_) (fun _ => ?_) <;> (try dsimp only) <;> (try simp only [qw_ap, qfl1_ap, qfl2_ap, qcp1_ap, qcp2_ap, false_and, true_and, and_true, and_false, and_self, if_false, if_true, reduceIte, Nat.reduceEqDiff, Int.reduceEq, Int.reduceNeg]))
        | (exfalso; omega)
        | with_reducible refine qW_bind ?_
        | (with_reducible refine qW_bnd ?_; try simp only [qw_ap, qfl1_ap, qfl2_ap, qcp1_ap, qcp2_ap, false_and, true_and, and_true, and_false, and_self, if_false, if_true, reduceIte, Nat.reduceEqDiff, Int.reduceEq, Int.reduceNeg])
        | (with_reducible refine qW_some ?_; (try dsimp only); try simp only [qw_ap, qfl1_ap, qfl2_ap, qcp1_ap, qcp2_ap, false_and, true_and, and_true, and_false, and_self, if_false, if_true, reduceIte, Nat.reduceEqDiff, Int.reduceEq, Int.reduceNeg])
        | ((with_reducible refine qW_no ?_); omega)
        | with_reducible refine qW_pos rfl ?_
        | ((with_reducible refine qW_pos ?_ ?_); omega)
        | ((with_reducible refine qW_neg ?_ ?_); (first | omega | decide))
        | with_reducible refine qW_ite (fun _ => ?_) (fun _ => ?_)
        | dsimp only
      all_goals first
        | exact fun x => absurd x (by decide)
        | exact fun _ => rfl
        | (intro _; unfold cI; omega)
    · have q1 : (K 2215 x1 0) = 0 := by omega
      have q2 : (M 1176 x1 0) = 0 := by omega
      unfold qf_L_zone qf_X11_zone qf_X11_zone_J24 qf_X11_zone_J25 qf_X4_zoneFact qf_X4_isZone qf_X18_zone qf_X18_zone_J34 qf_X18_zone_J35
      repeat' first
        | with_reducible refine qW_within (fun _ => ?_) (fun _ _ => ?_)
        | with_reducible refine qW_isIn (fun _ => ?_) (fun _ _ => ?_)
        | with_reducible refine qW_na (fun _ => ?_) (fun _ => ?_)
        | with_reducible refine qW_ns (fun _ => ?_) (fun _ => ?_)
        | (with_reducible refine qW_goes (fun _ => ?_) (fun _ _ => ?_) (fun _ _ => ?_) <;> (try dsimp only) <;> (try simp only [qw_ap, qfl1_ap, qfl2_ap, qcp1_ap, qcp2_ap, false_and, true_and, and_true, and_false, and_self, if_false, if_true, reduceIte, Nat.reduceEqDiff, Int.reduceEq, Int.reduceNeg]))
        | (with_reducible refine qW_stays (by omega) (fun _ => ?_) (fun _ => ?_) <;> (try dsimp only) <;> (try simp only [qw_ap, qfl1_ap, qfl2_ap, qcp1_ap, qcp2_ap, false_and, true_and, and_true, and_false, and_self, if_false, if_true, reduceIte, Nat.reduceEqDiff, Int.reduceEq, Int.reduceNeg]))
        | (exfalso; omega)
        | with_reducible refine qW_bind ?_
        | (with_reducible refine qW_bnd ?_; try simp only [qw_ap, qfl1_ap, qfl2_ap, qcp1_ap, qcp2_ap, false_and, true_and, and_true, and_false, and_self, if_false, if_true, reduceIte, Nat.reduceEqDiff, Int.reduceEq, Int.reduceNeg])
        | (with_reducible refine qW_some ?_; (try dsimp only); try simp only [qw_ap, qfl1_ap, qfl2_ap, qcp1_ap, qcp2_ap, false_and, true_and, and_true, and_false, and_self, if_false, if_true, reduceIte, Nat.reduceEqDiff, Int.reduceEq, Int.reduceNeg])
        | ((with_reducible refine qW_no ?_); omega)
        | with_reducible refine qW_pos rfl ?_
        | ((with_reducible refine qW_pos ?_ ?_); omega)
        | ((with_reducible refine qW_neg ?_ ?_); (first | omega | decide))
        | with_reducible refine qW_ite (fun _ => ?_) (fun _ => ?_)
        | dsimp only
      all_goals exact fun x => absurd x (by decide)
  · unfold qf_L_zone qf_X11_zone qf_X11_zone_J24 qf_X11_zone_J25 qf_X4_zoneFact qf_X4_isZone qf_X18_zone qf_X18_zone_J34 qf_X18_zone_J35
    repeat' first
      | with_reducible refine qW_within (fun _ => ?_) (fun _ _ => ?_)
      | with_reducible refine qW_isIn (fun _ => ?_) (fun _ _ => ?_)
      | with_reducible refine qW_na (fun _ => ?_) (fun _ => ?_)
      | with_reducible refine qW_ns (fun _ => ?_) (fun _ => ?_)
      | (with_reducible refine qW_goes (fun _ => ?_) (fun _ _ => ?_) (fun _ _ => ?_) <;> (try dsimp only) <;> (try simp only [qw_ap, qfl1_ap, qfl2_ap, qcp1_ap, qcp2_ap, false_and, true_and, and_true, and_false, and_self, if_false, if_true, reduceIte, Nat.reduceEqDiff, Int.reduceEq, Int.reduceNeg]))
      | (with_reducible refine qW_stays (by omega) (fun _ => ?_) (fun _ => ?_) <;> (try dsimp only) <;> (try simp only [qw_ap, qfl1_ap, qfl2_ap, qcp1_ap, qcp2_ap, false_and, true_and, and_true, and_false, and_self, if_false, if_true, reduceIte, Nat.reduceEqDiff, Int.reduceEq, Int.reduceNeg]))
      | (exfalso; omega)
      | with_reducible refine qW_bind ?_
      | (with_reducible refine qW_bnd ?_; try simp only [qw_ap, qfl1_ap, qfl2_ap, qcp1_ap, qcp2_ap, false_and, true_and, and_true, and_false, and_self, if_false, if_true, reduceIte, Nat.reduceEqDiff, Int.reduceEq, Int.reduceNeg])
      | (with_reducible refine qW_some ?_; (try dsimp only); try simp only [qw_ap, qfl1_ap, qfl2_ap, qcp1_ap, qcp2_ap, false_and, true_and, and_true, and_false, and_self, if_false, if_true, reduceIte, Nat.reduceEqDiff, Int.reduceEq, Int.reduceNeg])
      | ((with_reducible refine qW_no ?_); omega)
      | with_reducible refine qW_pos rfl ?_
      | ((with_reducible refine qW_pos ?_ ?_); omega)
      | ((with_reducible refine qW_neg ?_ ?_); (first | omega | decide))
      | with_reducible refine qW_ite (fun _ => ?_) (fun _ => ?_)
      | dsimp only
    all_goals exact fun x => absurd x (by decide)
end OPE
