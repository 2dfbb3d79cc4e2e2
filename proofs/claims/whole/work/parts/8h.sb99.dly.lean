set_option maxHeartbeats 4000000 in
set_option maxRecDepth 20000 in
theorem dly_no {M K : qm} {b : Int} (h : PgI M K) (hb0 : 0 ≤ b) (hb1 : b < M 1003 0 0) (e : M 1004 b 0 ≠ 16) (hh : M 1132 b 0 ≠ 0 → M 1049 b 0 = M 1133 b 0) : qW (qf_X9_reckonBlocks_L52_b 20000 b M) (fun o => qW (qf_X17_tick_L47_b 20000 b K) (fun p => match o, p with
    | .inr s, .inr t => s.1 = b + 1 ∧ t.1 = b + 1 ∧ PgI s.2 t.2 ∧ (∀ c, c ≠ b → s.2 1049 c 0 = M 1049 c 0) ∧ (M 1132 b 0 ≠ 0 → s.2 1049 b 0 = M 1133 b 0) ∧ ((∀ i j, s.2 1136 i j = M 1136 i j) ∧ (∀ i j, s.2 1137 i j = M 1137 i j) ∧ s.2 1003 13 0 = M 1003 13 0 ∧ s.2 1003 14 0 = M 1003 14 0)
    | _, _ => False)) := by
  obtain ⟨h_blocks, h_kinds, h_pq, h_safe, h_outs, h_hand, h_wire, h_row, h_points, h_failed⟩ := h
  have s_blocks := h_blocks
  unfold R_blocks at s_blocks
  have hb2 : b < 40 := by omega
  have f1 : K 2236 b 0 = M 1004 b 0 := (h_kinds b hb0 hb2).2.2
  obtain ⟨es, s1⟩ := h_safe b hb0 hb2
  obtain ⟨eo, e1, e2, r1, r2, r3⟩ := h_outs b hb0 hb2
  obtain ⟨eh, hd, ev, r4⟩ := h_hand b hb0 hb2
  have w0 := h_wire b 0 hb0 hb1 (by decide) (by decide)
  have x0 : K 2240 (3 * b) 0 = M 1008 b 0 := by have q := w0.1; rw [Int.add_zero] at q; exact q
  have z1 : w32 (3 * b) = 3 * b := w32_id (by omega) (by omega)
  have z2 : w32 (b + 1) = b + 1 := w32_id (by omega) (by omega)
  unfold qf_X9_reckonBlocks_L52_b qf_X9_takeDelayed qf_X9_countFailure qf_X17_tick_L47_b qf_X17_tick_J112 qf_X17_fails qf_X17_tick_J116
  try simp only [qw_ap, qfl1_ap, qfl2_ap, qcp1_ap, qcp2_ap, false_and, true_and, and_true, and_false, and_self, if_false, if_true, reduceIte, Nat.reduceEqDiff, f1, es, eo, e1, e2, eh, ev, x0, z1, z2]
  repeat' first
    | (refine qW_no ?_; omega)
    | (with_reducible refine qW_bnd ?_; try simp only [qw_ap, qfl1_ap, qfl2_ap, qcp1_ap, qcp2_ap, false_and, true_and, and_true, and_false, and_self, if_false, if_true, reduceIte, Nat.reduceEqDiff, f1, es, eo, e1, e2, eh, ev, x0, z1, z2])
    | with_reducible refine qW_within (fun _ => ?_) (fun _ _ => ?_)
    | with_reducible refine qW_isIn (fun _ => ?_) (fun _ _ => ?_)
    | with_reducible refine qW_na (fun _ => ?_) (fun _ => ?_)
    | with_reducible refine qW_ns (fun _ => ?_) (fun _ => ?_)
    | (with_reducible refine qW_goes (fun _ => ?_) (fun _ _ => ?_) (fun _ _ => ?_) <;> (try dsimp only) <;> (try simp only [qw_ap, qfl1_ap, qfl2_ap, qcp1_ap, qcp2_ap, false_and, true_and, and_true, and_false, and_self, if_false, if_true, reduceIte, Nat.reduceEqDiff, f1, es, eo, e1, e2, eh, ev, x0, z1, z2]))
    | (with_reducible refine qW_stays (by omega) (fun _ => ?_) (fun _ => ?_) <;> (try dsimp only) <;> (try simp only [qw_ap, qfl1_ap, qfl2_ap, qcp1_ap, qcp2_ap, false_and, true_and, and_true, and_false, and_self, if_false, if_true, reduceIte, Nat.reduceEqDiff, f1, es, eo, e1, e2, eh, ev, x0, z1, z2]))
    | (exfalso; omega)
    | with_reducible refine qW_bind ?_
    | (with_reducible refine qW_some ?_; (try dsimp only); try simp only [qw_ap, qfl1_ap, qfl2_ap, qcp1_ap, qcp2_ap, false_and, true_and, and_true, and_false, and_self, if_false, if_true, reduceIte, Nat.reduceEqDiff, f1, es, eo, e1, e2, eh, ev, x0, z1, z2])
    | with_reducible refine qW_pos rfl ?_
    | (refine qW_pos (by omega) ?_)
    | (refine qW_neg (by first | omega | decide) ?_)
    | with_reducible refine qW_ite (fun _ => ?_) (fun _ => ?_)
    | dsimp only
  all_goals (try refine ⟨rfl, rfl, ?_⟩)
  all_goals (unfold PgI; refine ⟨⟨?_, ?_, ?_, ?_, ?_, ?_, ?_, ?_, ?_, ?_⟩, ?_, ?_, ?_⟩)
  all_goals first
    | exact R_blocks_x rfl rfl h_blocks
    | exact R_kinds_x (fun _ _ => rfl) (fun _ _ => rfl) h_kinds
    | exact R_pq_x (fun _ _ => rfl) (fun _ _ => rfl) (fun _ _ => rfl) (fun _ _ => rfl) h_pq
    | exact R_safe_x (fun _ _ => rfl) (fun _ _ => rfl) h_safe
    | exact R_outs_x (fun _ _ => rfl) (fun _ _ => rfl) (fun _ _ => rfl) (fun _ _ => rfl) (fun _ _ => rfl) h_outs
    | exact R_hand_x (fun _ _ => rfl) (fun _ _ => rfl) (fun _ _ => rfl) (fun _ _ => rfl) h_hand
    | exact R_wire_x rfl (fun _ _ => rfl) (fun _ _ => rfl) h_wire
    | exact R_row_x (fun _ _ => rfl) (fun _ _ => rfl) h_row
    | exact R_points_x (fun _ _ => rfl) (fun _ _ => rfl) h_points
    | exact R_failed_x (fun _ _ => rfl) (fun _ _ => rfl) h_failed
    | (intro c hc; simp [qw_ap, hc]; done)
    | (intro hc; simp [qw_ap]; done)
    | (intro hc; simp [qw_ap]; exact hh hc)
    | (intro hc; exfalso; omega)
    | exact hh
    | exact ⟨fun _ _ => rfl, fun _ _ => rfl, rfl, rfl⟩
    | (intro c c0 c1; have g := h_outs c c0 c1; by_cases ec : c = b; (focus (rw [ec]; simp only [qw_ap, false_and, true_and, and_true, and_false, and_self, if_false, if_true, reduceIte, Nat.reduceEqDiff, Int.reduceEq, f1, es, eo, e1, e2, eh, ev, x0, z1, z2]; refine ⟨?_, ?_, ?_, ?_, ?_, ?_⟩ <;> (try refine ⟨?_, ?_⟩) <;> first | rfl | assumption | omega | exact (w32_r _).1 | exact (w32_r _).2 | (have q := hh (by assumption); omega) | grind)); (focus (simp only [qw_ap, false_and, true_and, and_true, and_false, and_self, if_false, if_true, reduceIte, Nat.reduceEqDiff, Int.reduceEq, ec]; exact g)))
    | (intro c c0 c1; have g := h_failed c c0 c1; have g0 := h_failed 0 (by decide) (by decide); have g3 := h_failed 3 (by decide) (by decide); simp only [qw_ap, false_and, true_and, and_true, and_false, and_self, if_false, if_true, reduceIte, Nat.reduceEqDiff, Int.reduceEq]; grind)
set_option maxHeartbeats 4000000 in
set_option maxRecDepth 20000 in
theorem dly_in {M K : qm} {b : Int} (h : PgI M K) (hb0 : 0 ≤ b) (hb1 : b < M 1003 0 0) (e : M 1004 b 0 = 16) (m0 : M 1008 b 0 ≠ -1) (hh : M 1132 b 0 ≠ 0 → M 1049 b 0 = M 1133 b 0) : qW (qf_X9_reckonBlocks_L52_b 20000 b M) (fun o => qW (qf_X17_tick_L47_b 20000 b K) (fun p => match o, p with
    | .inr s, .inr t => s.1 = b + 1 ∧ t.1 = b + 1 ∧ PgI s.2 t.2 ∧ (∀ c, c ≠ b → s.2 1049 c 0 = M 1049 c 0) ∧ (M 1132 b 0 ≠ 0 → s.2 1049 b 0 = M 1133 b 0) ∧ ((∀ i j, s.2 1136 i j = M 1136 i j) ∧ (∀ i j, s.2 1137 i j = M 1137 i j) ∧ s.2 1003 13 0 = M 1003 13 0 ∧ s.2 1003 14 0 = M 1003 14 0)
    | _, _ => False)) := by
  obtain ⟨h_blocks, h_kinds, h_pq, h_safe, h_outs, h_hand, h_wire, h_row, h_points, h_failed⟩ := h
  have s_blocks := h_blocks
  unfold R_blocks at s_blocks
  have hb2 : b < 40 := by omega
  have f1 : K 2236 b 0 = M 1004 b 0 := (h_kinds b hb0 hb2).2.2
  obtain ⟨es, s1⟩ := h_safe b hb0 hb2
  obtain ⟨eo, e1, e2, r1, r2, r3⟩ := h_outs b hb0 hb2
  obtain ⟨eh, hd, ev, r4⟩ := h_hand b hb0 hb2
  have w0 := h_wire b 0 hb0 hb1 (by decide) (by decide)
  have x0 : K 2240 (3 * b) 0 = M 1008 b 0 := by have q := w0.1; rw [Int.add_zero] at q; exact q
  have z1 : w32 (3 * b) = 3 * b := w32_id (by omega) (by omega)
  have z2 : w32 (b + 1) = b + 1 := w32_id (by omega) (by omega)
  have o0 := h_outs (M 1008 b 0) (by omega) (by omega)
  have y0 : K 2242 (M 1008 b 0) 0 = M 1049 (M 1008 b 0) 0 := o0.1
  have N0 : qf_X17_in 20000 b 0 K = some (M 1049 (M 1008 b 0) 0) := by rw [in_r (v := M 1008 b 0) hb0 hb2 (by decide) (by decide) w0.1 (by omega) (by omega), y0]
  unfold qf_X9_reckonBlocks_L52_b qf_X9_takeDelayed qf_X9_countFailure qf_X17_tick_L47_b qf_X17_tick_J112 qf_X17_fails qf_X17_tick_J116
  try simp only [qw_ap, qfl1_ap, qfl2_ap, qcp1_ap, qcp2_ap, false_and, true_and, and_true, and_false, and_self, if_false, if_true, reduceIte, Nat.reduceEqDiff, e, f1, es, eo, e1, e2, eh, ev, x0, z1, z2, y0]
  repeat' first
    | (refine qW_no ?_; omega)
    | (with_reducible refine qW_eq N0 ?_; (try dsimp only); try simp only [qw_ap, qfl1_ap, qfl2_ap, qcp1_ap, qcp2_ap, false_and, true_and, and_true, and_false, and_self, if_false, if_true, reduceIte, Nat.reduceEqDiff, e, f1, es, eo, e1, e2, eh, ev, x0, z1, z2, y0])
    | (with_reducible refine qW_bnd ?_; try simp only [qw_ap, qfl1_ap, qfl2_ap, qcp1_ap, qcp2_ap, false_and, true_and, and_true, and_false, and_self, if_false, if_true, reduceIte, Nat.reduceEqDiff, e, f1, es, eo, e1, e2, eh, ev, x0, z1, z2, y0])
    | with_reducible refine qW_within (fun _ => ?_) (fun _ _ => ?_)
    | with_reducible refine qW_isIn (fun _ => ?_) (fun _ _ => ?_)
    | with_reducible refine qW_na (fun _ => ?_) (fun _ => ?_)
    | with_reducible refine qW_ns (fun _ => ?_) (fun _ => ?_)
    | (with_reducible refine qW_goes (fun _ => ?_) (fun _ _ => ?_) (fun _ _ => ?_) <;> (try dsimp only) <;> (try simp only [qw_ap, qfl1_ap, qfl2_ap, qcp1_ap, qcp2_ap, false_and, true_and, and_true, and_false, and_self, if_false, if_true, reduceIte, Nat.reduceEqDiff, e, f1, es, eo, e1, e2, eh, ev, x0, z1, z2, y0]))
    | (with_reducible refine qW_stays (by omega) (fun _ => ?_) (fun _ => ?_) <;> (try dsimp only) <;> (try simp only [qw_ap, qfl1_ap, qfl2_ap, qcp1_ap, qcp2_ap, false_and, true_and, and_true, and_false, and_self, if_false, if_true, reduceIte, Nat.reduceEqDiff, e, f1, es, eo, e1, e2, eh, ev, x0, z1, z2, y0]))
    | (exfalso; omega)
    | with_reducible refine qW_bind ?_
    | (with_reducible refine qW_some ?_; (try dsimp only); try simp only [qw_ap, qfl1_ap, qfl2_ap, qcp1_ap, qcp2_ap, false_and, true_and, and_true, and_false, and_self, if_false, if_true, reduceIte, Nat.reduceEqDiff, e, f1, es, eo, e1, e2, eh, ev, x0, z1, z2, y0])
    | with_reducible refine qW_pos rfl ?_
    | (refine qW_pos (by omega) ?_)
    | (refine qW_neg (by first | omega | decide) ?_)
    | with_reducible refine qW_ite (fun _ => ?_) (fun _ => ?_)
    | dsimp only
  all_goals (try refine ⟨rfl, rfl, ?_⟩)
  all_goals (unfold PgI; refine ⟨⟨?_, ?_, ?_, ?_, ?_, ?_, ?_, ?_, ?_, ?_⟩, ?_, ?_, ?_⟩)
  all_goals first
    | exact R_blocks_x rfl rfl h_blocks
    | exact R_kinds_x (fun _ _ => rfl) (fun _ _ => rfl) h_kinds
    | exact R_pq_x (fun _ _ => rfl) (fun _ _ => rfl) (fun _ _ => rfl) (fun _ _ => rfl) h_pq
    | exact R_safe_x (fun _ _ => rfl) (fun _ _ => rfl) h_safe
    | exact R_outs_x (fun _ _ => rfl) (fun _ _ => rfl) (fun _ _ => rfl) (fun _ _ => rfl) (fun _ _ => rfl) h_outs
    | exact R_hand_x (fun _ _ => rfl) (fun _ _ => rfl) (fun _ _ => rfl) (fun _ _ => rfl) h_hand
    | exact R_wire_x rfl (fun _ _ => rfl) (fun _ _ => rfl) h_wire
    | exact R_row_x (fun _ _ => rfl) (fun _ _ => rfl) h_row
    | exact R_points_x (fun _ _ => rfl) (fun _ _ => rfl) h_points
    | exact R_failed_x (fun _ _ => rfl) (fun _ _ => rfl) h_failed
    | (intro c hc; simp [qw_ap, hc]; done)
    | (intro hc; simp [qw_ap]; done)
    | (intro hc; simp [qw_ap]; exact hh hc)
    | (intro hc; exfalso; omega)
    | exact hh
    | exact ⟨fun _ _ => rfl, fun _ _ => rfl, rfl, rfl⟩
    | (intro c c0 c1; have g := h_outs c c0 c1; by_cases ec : c = b; (focus (rw [ec]; simp only [qw_ap, false_and, true_and, and_true, and_false, and_self, if_false, if_true, reduceIte, Nat.reduceEqDiff, Int.reduceEq, e, f1, es, eo, e1, e2, eh, ev, x0, z1, z2, y0]; refine ⟨?_, ?_, ?_, ?_, ?_, ?_⟩ <;> (try refine ⟨?_, ?_⟩) <;> first | rfl | assumption | omega | exact (w32_r _).1 | exact (w32_r _).2 | (have q := hh (by assumption); omega) | grind)); (focus (simp only [qw_ap, false_and, true_and, and_true, and_false, and_self, if_false, if_true, reduceIte, Nat.reduceEqDiff, Int.reduceEq, ec]; exact g)))
    | (intro c c0 c1; have g := h_failed c c0 c1; have g0 := h_failed 0 (by decide) (by decide); have g3 := h_failed 3 (by decide) (by decide); simp only [qw_ap, false_and, true_and, and_true, and_false, and_self, if_false, if_true, reduceIte, Nat.reduceEqDiff, Int.reduceEq]; grind)
set_option maxHeartbeats 4000000 in
set_option maxRecDepth 20000 in
theorem dly_out {M K : qm} {b : Int} (h : PgI M K) (hb0 : 0 ≤ b) (hb1 : b < M 1003 0 0) (e : M 1004 b 0 = 16) (m0 : M 1008 b 0 = -1) (hh : M 1132 b 0 ≠ 0 → M 1049 b 0 = M 1133 b 0) : qW (qf_X9_reckonBlocks_L52_b 20000 b M) (fun o => qW (qf_X17_tick_L47_b 20000 b K) (fun p => match o, p with
    | .inr s, .inr t => s.1 = b + 1 ∧ t.1 = b + 1 ∧ PgI s.2 t.2 ∧ (∀ c, c ≠ b → s.2 1049 c 0 = M 1049 c 0) ∧ (M 1132 b 0 ≠ 0 → s.2 1049 b 0 = M 1133 b 0) ∧ ((∀ i j, s.2 1136 i j = M 1136 i j) ∧ (∀ i j, s.2 1137 i j = M 1137 i j) ∧ s.2 1003 13 0 = M 1003 13 0 ∧ s.2 1003 14 0 = M 1003 14 0)
    | _, _ => False)) := by
  obtain ⟨h_blocks, h_kinds, h_pq, h_safe, h_outs, h_hand, h_wire, h_row, h_points, h_failed⟩ := h
  have s_blocks := h_blocks
  unfold R_blocks at s_blocks
  have hb2 : b < 40 := by omega
  have f1 : K 2236 b 0 = M 1004 b 0 := (h_kinds b hb0 hb2).2.2
  obtain ⟨es, s1⟩ := h_safe b hb0 hb2
  obtain ⟨eo, e1, e2, r1, r2, r3⟩ := h_outs b hb0 hb2
  obtain ⟨eh, hd, ev, r4⟩ := h_hand b hb0 hb2
  have w0 := h_wire b 0 hb0 hb1 (by decide) (by decide)
  have x0 : K 2240 (3 * b) 0 = M 1008 b 0 := by have q := w0.1; rw [Int.add_zero] at q; exact q
  have z1 : w32 (3 * b) = 3 * b := w32_id (by omega) (by omega)
  have z2 : w32 (b + 1) = b + 1 := w32_id (by omega) (by omega)
  unfold qf_X9_reckonBlocks_L52_b qf_X9_takeDelayed qf_X9_countFailure qf_X17_tick_L47_b qf_X17_tick_J112 qf_X17_fails qf_X17_tick_J116
  try simp only [qw_ap, qfl1_ap, qfl2_ap, qcp1_ap, qcp2_ap, false_and, true_and, and_true, and_false, and_self, if_false, if_true, reduceIte, Nat.reduceEqDiff, e, f1, es, eo, e1, e2, eh, ev, x0, z1, z2]
  repeat' first
    | (refine qW_no ?_; omega)
    | (with_reducible refine qW_bnd ?_; try simp only [qw_ap, qfl1_ap, qfl2_ap, qcp1_ap, qcp2_ap, false_and, true_and, and_true, and_false, and_self, if_false, if_true, reduceIte, Nat.reduceEqDiff, e, f1, es, eo, e1, e2, eh, ev, x0, z1, z2])
    | with_reducible refine qW_within (fun _ => ?_) (fun _ _ => ?_)
    | with_reducible refine qW_isIn (fun _ => ?_) (fun _ _ => ?_)
    | with_reducible refine qW_na (fun _ => ?_) (fun _ => ?_)
    | with_reducible refine qW_ns (fun _ => ?_) (fun _ => ?_)
    | (with_reducible refine qW_goes (fun _ => ?_) (fun _ _ => ?_) (fun _ _ => ?_) <;> (try dsimp only) <;> (try simp only [qw_ap, qfl1_ap, qfl2_ap, qcp1_ap, qcp2_ap, false_and, true_and, and_true, and_false, and_self, if_false, if_true, reduceIte, Nat.reduceEqDiff, e, f1, es, eo, e1, e2, eh, ev, x0, z1, z2]))
    | (with_reducible refine qW_stays (by omega) (fun _ => ?_) (fun _ => ?_) <;> (try dsimp only) <;> (try simp only [qw_ap, qfl1_ap, qfl2_ap, qcp1_ap, qcp2_ap, false_and, true_and, and_true, and_false, and_self, if_false, if_true, reduceIte, Nat.reduceEqDiff, e, f1, es, eo, e1, e2, eh, ev, x0, z1, z2]))
    | (exfalso; omega)
    | with_reducible refine qW_bind ?_
    | (with_reducible refine qW_some ?_; (try dsimp only); try simp only [qw_ap, qfl1_ap, qfl2_ap, qcp1_ap, qcp2_ap, false_and, true_and, and_true, and_false, and_self, if_false, if_true, reduceIte, Nat.reduceEqDiff, e, f1, es, eo, e1, e2, eh, ev, x0, z1, z2])
    | with_reducible refine qW_pos rfl ?_
    | (refine qW_pos (by omega) ?_)
    | (refine qW_neg (by first | omega | decide) ?_)
    | with_reducible refine qW_ite (fun _ => ?_) (fun _ => ?_)
    | dsimp only
  all_goals (try refine ⟨rfl, rfl, ?_⟩)
  all_goals (unfold PgI; refine ⟨⟨?_, ?_, ?_, ?_, ?_, ?_, ?_, ?_, ?_, ?_⟩, ?_, ?_, ?_⟩)
  all_goals first
    | exact R_blocks_x rfl rfl h_blocks
    | exact R_kinds_x (fun _ _ => rfl) (fun _ _ => rfl) h_kinds
    | exact R_pq_x (fun _ _ => rfl) (fun _ _ => rfl) (fun _ _ => rfl) (fun _ _ => rfl) h_pq
    | exact R_safe_x (fun _ _ => rfl) (fun _ _ => rfl) h_safe
    | exact R_outs_x (fun _ _ => rfl) (fun _ _ => rfl) (fun _ _ => rfl) (fun _ _ => rfl) (fun _ _ => rfl) h_outs
    | exact R_hand_x (fun _ _ => rfl) (fun _ _ => rfl) (fun _ _ => rfl) (fun _ _ => rfl) h_hand
    | exact R_wire_x rfl (fun _ _ => rfl) (fun _ _ => rfl) h_wire
    | exact R_row_x (fun _ _ => rfl) (fun _ _ => rfl) h_row
    | exact R_points_x (fun _ _ => rfl) (fun _ _ => rfl) h_points
    | exact R_failed_x (fun _ _ => rfl) (fun _ _ => rfl) h_failed
    | (intro c hc; simp [qw_ap, hc]; done)
    | (intro hc; simp [qw_ap]; done)
    | (intro hc; simp [qw_ap]; exact hh hc)
    | (intro hc; exfalso; omega)
    | exact hh
    | exact ⟨fun _ _ => rfl, fun _ _ => rfl, rfl, rfl⟩
    | (intro c c0 c1; have g := h_outs c c0 c1; by_cases ec : c = b; (focus (rw [ec]; simp only [qw_ap, false_and, true_and, and_true, and_false, and_self, if_false, if_true, reduceIte, Nat.reduceEqDiff, Int.reduceEq, e, f1, es, eo, e1, e2, eh, ev, x0, z1, z2]; refine ⟨?_, ?_, ?_, ?_, ?_, ?_⟩ <;> (try refine ⟨?_, ?_⟩) <;> first | rfl | assumption | omega | exact (w32_r _).1 | exact (w32_r _).2 | (have q := hh (by assumption); omega) | grind)); (focus (simp only [qw_ap, false_and, true_and, and_true, and_false, and_self, if_false, if_true, reduceIte, Nat.reduceEqDiff, Int.reduceEq, ec]; exact g)))
    | (intro c c0 c1; have g := h_failed c c0 c1; have g0 := h_failed 0 (by decide) (by decide); have g3 := h_failed 3 (by decide) (by decide); simp only [qw_ap, false_and, true_and, and_true, and_false, and_self, if_false, if_true, reduceIte, Nat.reduceEqDiff, Int.reduceEq]; grind)
