set_option maxHeartbeats 4000000 in
set_option maxRecDepth 20000 in
theorem blk_13 {M K : qm} {b m : Int} (h : PgI M K) (hb0 : 0 ≤ b) (hb1 : b < M 1003 0 0) (e : M 1004 b 0 = 13) (hm : m = Int.tmod (K 2235 14 0) 1440) : qW (qf_X9_reckonBlock 20000 b m M) (fun r => qW (qf_X17_reckon 20000 b K) (fun s => PgI r.2 s.2 ∧ (∀ c, c ≠ b → r.2 1049 c 0 = M 1049 c 0) ∧ (M 1132 b 0 ≠ 0 → r.2 1049 b 0 = M 1133 b 0))) := by
  obtain ⟨h_blocks, h_kinds, h_pq, h_safe, h_outs, h_hand, h_wire, h_row, h_points, h_failed⟩ := h
  have s_blocks := h_blocks
  unfold R_blocks at s_blocks
  have hb2 : b < 40 := by omega
  have f1 : K 2236 b 0 = 13 := by rw [(h_kinds b hb0 hb2).2.2, e]
  obtain ⟨ep, eq0, p1, p2⟩ := h_pq b hb0 hb2
  obtain ⟨es, s1⟩ := h_safe b hb0 hb2
  obtain ⟨eo, e1, e2, r1, r2, r3⟩ := h_outs b hb0 hb2
  obtain ⟨eh, hh, ev, r4⟩ := h_hand b hb0 hb2
  by_cases m0 : M 1008 b 0 = -1
  · have w0 := h_wire b 0 hb0 hb1 (by decide) (by decide)
    have x0 : K 2240 (3 * b + 0) 0 = M 1008 b 0 := w0.1
    have w1 := h_wire b 1 hb0 hb1 (by decide) (by decide)
    have x1 : K 2240 (3 * b + 1) 0 = M 1008 b 1 := w1.1
    have w2 := h_wire b 2 hb0 hb1 (by decide) (by decide)
    have x2 : K 2240 (3 * b + 2) 0 = M 1008 b 2 := w2.1
    have I0 : ∀ S : qm, (∀ i j, S 1008 i j = M 1008 i j) → (∀ i j, S 1049 i j = M 1049 i j) → qf_X9_inputOf 20000 b 0 S = some 0 := fun S g1 g2 => by rw [inC_r hb0 hb2 (by decide) (by decide) (by rw [g1]; omega) (by rw [g1]; omega), g1, if_pos m0]
    have I1 : ∀ S : qm, (∀ i j, S 1008 i j = M 1008 i j) → (∀ i j, S 1049 i j = M 1049 i j) → qf_X9_inputOf 20000 b 1 S = some (if M 1008 b 1 = -1 then 0 else M 1049 (M 1008 b 1) 0) := fun S g1 g2 => by rw [inC_r hb0 hb2 (by decide) (by decide) (by rw [g1]; omega) (by rw [g1]; omega), g1, g2]
    have I2 : ∀ S : qm, (∀ i j, S 1008 i j = M 1008 i j) → (∀ i j, S 1049 i j = M 1049 i j) → qf_X9_inputOf 20000 b 2 S = some (if M 1008 b 2 = -1 then 0 else M 1049 (M 1008 b 2) 0) := fun S g1 g2 => by rw [inC_r hb0 hb2 (by decide) (by decide) (by rw [g1]; omega) (by rw [g1]; omega), g1, g2]
    have L0 : ∀ S : qm, (∀ i j, S 1004 i j = M 1004 i j) → (∀ i j, S 1008 i j = M 1008 i j) → qf_X9_lacksInput 20000 b S = some 1 := fun S g1 g2 => lackC_1 (i := 0) hb0 hb2 (by rw [g1, e]; decide) (by decide) (by rw [g1, e]; decide) (by rw [g2]; exact m0)
    have F0 : ∀ S : qm, (∀ i j, S 2240 i j = K 2240 i j) → qf_X17_failure_L9 20000 20000 b 13 0 S = some (.inl 3) := fun S g1 => lackR_1 (i := 0) hb0 hb2 (by decide) (by decide) (by decide) (by decide) (by rw [g1, x0]; omega)
    unfold qf_X9_reckonBlock qf_X9_countFailure qf_X9_reckonBlock_J34 qf_X9_reckon qf_X9_reckonPlain qf_X9_reckonPlain_J184 qf_X9_reckonPlain_J174 qf_X9_reckonPlain_J160 qf_X9_reckonPlain_J146 qf_X9_reckonPlain_J135 qf_X9_reckonPlain_J124 qf_X9_reckonPlain_J118 qf_X9_reckonPlain_J112 qf_X9_reckonPlain_J92 qf_X9_reckonPlain_J76 qf_X9_reckonPlain_J72 qf_X9_reckonPlain_J68 qf_X9_reckonPlain_J64 qf_X9_reckon_J79 qf_X9_reckonKept qf_X9_reckonKept_J239 qf_X9_reckonKept_J264 qf_X9_reckonKept_J224 qf_X9_reckonKept_J207 qf_X9_limit qf_X9_reckonKept_J190 qf_X9_pulse qf_X9_pulse_J14 qf_X9_reckonKept_J164 qf_X9_isInSpan qf_X9_reckonKept_J152 qf_X9_latch qf_X9_latch_J19 qf_X9_reckonKept_J140 qf_X9_countUp qf_X9_countUp_J28 qf_X9_reckonKept_J123 qf_X9_ramp qf_X9_ramp_J31 qf_X9_reckonKept_J274 qf_X9_since qf_X9_since_J13 qf_X9_reckonKept_J116 qf_X9_reckon_J149 qf_X9_reckon_J113 qf_X9_fail qf_X17_reckon qf_X17_fails qf_X17_reckon_J43 qf_X17_reckon_J58 qf_X17_reckon_J75 qf_X17_plain qf_X17_plain_J220 qf_X17_plain_J205 qf_X17_plain_J195 qf_X17_plain_J181 qf_X17_plain_J167 qf_X17_plain_J156 qf_X17_plain_J145 qf_X17_plain_J134 qf_X17_plain_J123 qf_X17_plain_J115 qf_X17_plain_J111 qf_X17_plain_J107 qf_X17_plain_J103 qf_X17_plain_J99 qf_X17_plain_J92 qf_X17_plain_J80 qf_X17_reckon_J114 qf_X17_reckon_J115 qf_X17_kept qf_X17_kept_J210 qf_X17_kept_J226 qf_X17_kept_J255 qf_X17_kept_J181 qf_X17_kept_J202 qf_X17_kept_J166 qf_X17_kept_J126 qf_X17_kept_J119 qf_X17_pulse qf_X17_pulse_J25 qf_X17_kept_J113 qf_X17_clock qf_X17_clock_J24 qf_X17_clock_J40 qf_X17_kept_J78 qf_X17_kept_J105 qf_X17_kept_J70 qf_X17_count qf_X17_count_J37 qf_X17_kept_J63 qf_X17_ramp qf_X17_ramp_J31 qf_X17_ramp_J43 qf_X17_ramp_J55 qf_X17_kept_J56 qf_X17_failure qf_X17_failure_J44 qf_X17_failure_J55 qf_X17_failure_J66 qf_X17_failure_J90 qf_X17_failure_J120 qf_X17_failure_J116 qf_X17_failure_J121
    try simp only [qw_ap, qfl1_ap, qfl2_ap, qcp1_ap, qcp2_ap, false_and, true_and, and_true, and_false, and_self, if_false, if_true, reduceIte, Nat.reduceEqDiff, e, f1, ep, eq0, es, eo, e1, e2, eh, ev]
    repeat' first
      | (refine qW_no ?_; omega)
      | (with_reducible refine qW_eq (I0 _ (fun _ _ => rfl) (fun _ _ => rfl)) ?_; (try dsimp only); try simp only [qw_ap, qfl1_ap, qfl2_ap, qcp1_ap, qcp2_ap, false_and, true_and, and_true, and_false, and_self, if_false, if_true, reduceIte, Nat.reduceEqDiff, e, f1, ep, eq0, es, eo, e1, e2, eh, ev])
      | (with_reducible refine qW_eq (I1 _ (fun _ _ => rfl) (fun _ _ => rfl)) ?_; (try dsimp only); try simp only [qw_ap, qfl1_ap, qfl2_ap, qcp1_ap, qcp2_ap, false_and, true_and, and_true, and_false, and_self, if_false, if_true, reduceIte, Nat.reduceEqDiff, e, f1, ep, eq0, es, eo, e1, e2, eh, ev])
      | (with_reducible refine qW_eq (I2 _ (fun _ _ => rfl) (fun _ _ => rfl)) ?_; (try dsimp only); try simp only [qw_ap, qfl1_ap, qfl2_ap, qcp1_ap, qcp2_ap, false_and, true_and, and_true, and_false, and_self, if_false, if_true, reduceIte, Nat.reduceEqDiff, e, f1, ep, eq0, es, eo, e1, e2, eh, ev])
      | (with_reducible refine qW_eq (L0 _ (fun _ _ => rfl) (fun _ _ => rfl)) ?_; (try dsimp only); try simp only [qw_ap, qfl1_ap, qfl2_ap, qcp1_ap, qcp2_ap, false_and, true_and, and_true, and_false, and_self, if_false, if_true, reduceIte, Nat.reduceEqDiff, e, f1, ep, eq0, es, eo, e1, e2, eh, ev])
      | (with_reducible refine qW_eq (F0 _ (fun _ _ => rfl)) ?_; (try dsimp only); try simp only [qw_ap, qfl1_ap, qfl2_ap, qcp1_ap, qcp2_ap, false_and, true_and, and_true, and_false, and_self, if_false, if_true, reduceIte, Nat.reduceEqDiff, e, f1, ep, eq0, es, eo, e1, e2, eh, ev])
      | (with_reducible refine qW_eq (show qf_X17_inputs 20000 13 _ = some 1 from rfl) ?_; (try dsimp only); try simp only [qw_ap, qfl1_ap, qfl2_ap, qcp1_ap, qcp2_ap, false_and, true_and, and_true, and_false, and_self, if_false, if_true, reduceIte, Nat.reduceEqDiff, e, f1, ep, eq0, es, eo, e1, e2, eh, ev])
      | (with_reducible refine qW_bnd ?_; try simp only [qw_ap, qfl1_ap, qfl2_ap, qcp1_ap, qcp2_ap, false_and, true_and, and_true, and_false, and_self, if_false, if_true, reduceIte, Nat.reduceEqDiff, e, f1, ep, eq0, es, eo, e1, e2, eh, ev])
      | with_reducible refine qW_within (fun _ => ?_) (fun _ _ => ?_)
      | with_reducible refine qW_isIn (fun _ => ?_) (fun _ _ => ?_)
      | with_reducible refine qW_na (fun _ => ?_) (fun _ => ?_)
      | with_reducible refine qW_ns (fun _ => ?_) (fun _ => ?_)
      | (with_reducible refine qW_goes (fun _ => ?_) (fun _ _ => ?_) (fun _ _ => ?_) <;> (try dsimp only) <;> (try simp only [qw_ap, qfl1_ap, qfl2_ap, qcp1_ap, qcp2_ap, false_and, true_and, and_true, and_false, and_self, if_false, if_true, reduceIte, Nat.reduceEqDiff, e, f1, ep, eq0, es, eo, e1, e2, eh, ev]))
      | (with_reducible refine qW_stays (by omega) (fun _ => ?_) (fun _ => ?_) <;> (try dsimp only) <;> (try simp only [qw_ap, qfl1_ap, qfl2_ap, qcp1_ap, qcp2_ap, false_and, true_and, and_true, and_false, and_self, if_false, if_true, reduceIte, Nat.reduceEqDiff, e, f1, ep, eq0, es, eo, e1, e2, eh, ev]))
      | (exfalso; omega)
      | with_reducible refine qW_bind ?_
      | (with_reducible refine qW_some ?_; (try dsimp only); try simp only [qw_ap, qfl1_ap, qfl2_ap, qcp1_ap, qcp2_ap, false_and, true_and, and_true, and_false, and_self, if_false, if_true, reduceIte, Nat.reduceEqDiff, e, f1, ep, eq0, es, eo, e1, e2, eh, ev])
      | with_reducible refine qW_pos rfl ?_
      | (refine qW_pos (by omega) ?_)
      | (refine qW_neg (by first | omega | decide) ?_)
      | with_reducible refine qW_ite (fun _ => ?_) (fun _ => ?_)
      | dsimp only
    all_goals (unfold PgI; refine ⟨⟨?_, ?_, ?_, ?_, ?_, ?_, ?_, ?_, ?_, ?_⟩, ?_, ?_⟩)
    all_goals first
      | exact R_blocks_x rfl rfl h_blocks
      | exact R_kinds_x (fun _ _ => rfl) (fun _ _ => rfl) h_kinds
      | exact R_pq_x (fun _ _ => rfl) (fun _ _ => rfl) (fun _ _ => rfl) (fun _ _ => rfl) h_pq
      | exact R_safe_x (fun _ _ => rfl) (fun _ _ => rfl) h_safe
      | exact R_outs_x (fun _ _ => rfl) (fun _ _ => rfl) (fun _ _ => rfl) (fun _ _ => rfl) (fun _ _ => rfl) h_outs
      | exact R_hand_x (fun _ _ => rfl) (fun _ _ => rfl) (fun _ _ => rfl) (fun _ _ => rfl) h_hand
      | exact R_wire_x rfl (fun _ _ => rfl) (fun _ _ => rfl) h_wire
      | exact R_row_x (fun _ _ => rfl) (fun _ _ => rfl) h_row
      | exact R_points_x (fun _ _ => rfl) (fun _ _ => rfl) h_points
      | exact R_failed_x (fun _ _ => rfl) (fun _ _ => rfl) h_failed
      | (intro c hc; simp [qw_ap, hc]; done)
      | (intro hc; simp [qw_ap]; done)
      | (intro hc; exfalso; omega)
      | (intro c c0 c1; have g := h_outs c c0 c1; by_cases ec : c = b; (focus (rw [ec]; simp only [qw_ap, false_and, true_and, and_true, and_false, and_self, if_false, if_true, reduceIte, Nat.reduceEqDiff, Int.reduceEq, e, f1, ep, eq0, es, eo, e1, e2, eh, ev]; refine ⟨?_, ?_, ?_, ?_, ?_, ?_⟩ <;> (try refine ⟨?_, ?_⟩) <;> first | rfl | assumption | omega | exact (w32_r _).1 | exact (w32_r _).2 | (simp only [w32] at *; omega) | grind)); (focus (simp only [qw_ap, false_and, true_and, and_true, and_false, and_self, if_false, if_true, reduceIte, Nat.reduceEqDiff, Int.reduceEq, ec]; exact g)))
      | (intro c c0 c1; have g := h_failed c c0 c1; have g0 := h_failed 0 (by decide) (by decide); have g1 := h_failed 1 (by decide) (by decide); have g2 := h_failed 2 (by decide) (by decide); have g3 := h_failed 3 (by decide) (by decide); simp only [qw_ap, false_and, true_and, and_true, and_false, and_self, if_false, if_true, reduceIte, Nat.reduceEqDiff, Int.reduceEq]; grind)
  · have w0 := h_wire b 0 hb0 hb1 (by decide) (by decide)
    have x0 : K 2240 (3 * b + 0) 0 = M 1008 b 0 := w0.1
    have w1 := h_wire b 1 hb0 hb1 (by decide) (by decide)
    have x1 : K 2240 (3 * b + 1) 0 = M 1008 b 1 := w1.1
    have w2 := h_wire b 2 hb0 hb1 (by decide) (by decide)
    have x2 : K 2240 (3 * b + 2) 0 = M 1008 b 2 := w2.1
    have o0 := h_outs (M 1008 b 0) (by omega) (by omega)
    have y0 : K 2242 (M 1008 b 0) 0 = M 1049 (M 1008 b 0) 0 := o0.1
    have I0 : ∀ S : qm, (∀ i j, S 1008 i j = M 1008 i j) → (∀ i j, S 1049 i j = M 1049 i j) → qf_X9_inputOf 20000 b 0 S = some (M 1049 (M 1008 b 0) 0) := fun S g1 g2 => by rw [inC_r hb0 hb2 (by decide) (by decide) (by rw [g1]; omega) (by rw [g1]; omega), g1, if_neg m0, g2]
    have N0 : ∀ S : qm, (∀ i j, S 2240 i j = K 2240 i j) → (∀ i j, S 2242 i j = K 2242 i j) → qf_X17_in 20000 b 0 S = some (M 1049 (M 1008 b 0) 0) := fun S g1 g2 => by rw [in_r (v := M 1008 b 0) hb0 hb2 (by decide) (by decide) ((g1 _ _).trans x0) (by omega) (by omega), g2, y0]
    have I1 : ∀ S : qm, (∀ i j, S 1008 i j = M 1008 i j) → (∀ i j, S 1049 i j = M 1049 i j) → qf_X9_inputOf 20000 b 1 S = some (if M 1008 b 1 = -1 then 0 else M 1049 (M 1008 b 1) 0) := fun S g1 g2 => by rw [inC_r hb0 hb2 (by decide) (by decide) (by rw [g1]; omega) (by rw [g1]; omega), g1, g2]
    have I2 : ∀ S : qm, (∀ i j, S 1008 i j = M 1008 i j) → (∀ i j, S 1049 i j = M 1049 i j) → qf_X9_inputOf 20000 b 2 S = some (if M 1008 b 2 = -1 then 0 else M 1049 (M 1008 b 2) 0) := fun S g1 g2 => by rw [inC_r hb0 hb2 (by decide) (by decide) (by rw [g1]; omega) (by rw [g1]; omega), g1, g2]
    have L0 : ∀ S : qm, (∀ i j, S 1004 i j = M 1004 i j) → (∀ i j, S 1008 i j = M 1008 i j) → qf_X9_lacksInput 20000 b S = some 0 := fun S g1 g2 => lackC_0 hb0 hb2 (by rw [g1, e]; decide) (fun i i0 i1 => by rw [g1, e] at i1; have q : qT5 13 = 1 := rfl; have c : i = 0 := (by omega); rcases c with rfl <;> (rw [g2]; first | exact m0))
    have F0 : ∀ S : qm, (∀ i j, S 2240 i j = K 2240 i j) → qf_X17_failure_L9 20000 20000 b 13 0 S = some (.inr ()) := fun S g1 => lackR_0 hb0 hb2 (by decide) (Or.inr (fun i i0 i1 => by have q : qT5 13 = 1 := rfl; have c : i = 0 := (by omega); rcases c with rfl <;> (rw [g1]; omega)))
    unfold qf_X9_reckonBlock qf_X9_countFailure qf_X9_reckonBlock_J34 qf_X9_reckon qf_X9_reckonPlain qf_X9_reckonPlain_J184 qf_X9_reckonPlain_J174 qf_X9_reckonPlain_J160 qf_X9_reckonPlain_J146 qf_X9_reckonPlain_J135 qf_X9_reckonPlain_J124 qf_X9_reckonPlain_J118 qf_X9_reckonPlain_J112 qf_X9_reckonPlain_J92 qf_X9_reckonPlain_J76 qf_X9_reckonPlain_J72 qf_X9_reckonPlain_J68 qf_X9_reckonPlain_J64 qf_X9_reckon_J79 qf_X9_reckonKept qf_X9_reckonKept_J239 qf_X9_reckonKept_J264 qf_X9_reckonKept_J224 qf_X9_reckonKept_J207 qf_X9_limit qf_X9_reckonKept_J190 qf_X9_pulse qf_X9_pulse_J14 qf_X9_reckonKept_J164 qf_X9_isInSpan qf_X9_reckonKept_J152 qf_X9_latch qf_X9_latch_J19 qf_X9_reckonKept_J140 qf_X9_countUp qf_X9_countUp_J28 qf_X9_reckonKept_J123 qf_X9_ramp qf_X9_ramp_J31 qf_X9_reckonKept_J274 qf_X9_since qf_X9_since_J13 qf_X9_reckonKept_J116 qf_X9_reckon_J149 qf_X9_reckon_J113 qf_X9_fail qf_X17_reckon qf_X17_fails qf_X17_reckon_J43 qf_X17_reckon_J58 qf_X17_reckon_J75 qf_X17_plain qf_X17_plain_J220 qf_X17_plain_J205 qf_X17_plain_J195 qf_X17_plain_J181 qf_X17_plain_J167 qf_X17_plain_J156 qf_X17_plain_J145 qf_X17_plain_J134 qf_X17_plain_J123 qf_X17_plain_J115 qf_X17_plain_J111 qf_X17_plain_J107 qf_X17_plain_J103 qf_X17_plain_J99 qf_X17_plain_J92 qf_X17_plain_J80 qf_X17_reckon_J114 qf_X17_reckon_J115 qf_X17_kept qf_X17_kept_J210 qf_X17_kept_J226 qf_X17_kept_J255 qf_X17_kept_J181 qf_X17_kept_J202 qf_X17_kept_J166 qf_X17_kept_J126 qf_X17_kept_J119 qf_X17_pulse qf_X17_pulse_J25 qf_X17_kept_J113 qf_X17_clock qf_X17_clock_J24 qf_X17_clock_J40 qf_X17_kept_J78 qf_X17_kept_J105 qf_X17_kept_J70 qf_X17_count qf_X17_count_J37 qf_X17_kept_J63 qf_X17_ramp qf_X17_ramp_J31 qf_X17_ramp_J43 qf_X17_ramp_J55 qf_X17_kept_J56 qf_X17_failure qf_X17_failure_J44 qf_X17_failure_J55 qf_X17_failure_J66 qf_X17_failure_J90 qf_X17_failure_J120 qf_X17_failure_J116 qf_X17_failure_J121
    try simp only [qw_ap, qfl1_ap, qfl2_ap, qcp1_ap, qcp2_ap, false_and, true_and, and_true, and_false, and_self, if_false, if_true, reduceIte, Nat.reduceEqDiff, e, f1, ep, eq0, es, eo, e1, e2, eh, ev, y0]
    repeat' first
      | (refine qW_no ?_; omega)
      | (with_reducible refine qW_eq (N0 _ (fun _ _ => rfl) (fun _ _ => rfl)) ?_; (try dsimp only); try simp only [qw_ap, qfl1_ap, qfl2_ap, qcp1_ap, qcp2_ap, false_and, true_and, and_true, and_false, and_self, if_false, if_true, reduceIte, Nat.reduceEqDiff, e, f1, ep, eq0, es, eo, e1, e2, eh, ev, y0])
      | (with_reducible refine qW_eq (I0 _ (fun _ _ => rfl) (fun _ _ => rfl)) ?_; (try dsimp only); try simp only [qw_ap, qfl1_ap, qfl2_ap, qcp1_ap, qcp2_ap, false_and, true_and, and_true, and_false, and_self, if_false, if_true, reduceIte, Nat.reduceEqDiff, e, f1, ep, eq0, es, eo, e1, e2, eh, ev, y0])
      | (with_reducible refine qW_eq (I1 _ (fun _ _ => rfl) (fun _ _ => rfl)) ?_; (try dsimp only); try simp only [qw_ap, qfl1_ap, qfl2_ap, qcp1_ap, qcp2_ap, false_and, true_and, and_true, and_false, and_self, if_false, if_true, reduceIte, Nat.reduceEqDiff, e, f1, ep, eq0, es, eo, e1, e2, eh, ev, y0])
      | (with_reducible refine qW_eq (I2 _ (fun _ _ => rfl) (fun _ _ => rfl)) ?_; (try dsimp only); try simp only [qw_ap, qfl1_ap, qfl2_ap, qcp1_ap, qcp2_ap, false_and, true_and, and_true, and_false, and_self, if_false, if_true, reduceIte, Nat.reduceEqDiff, e, f1, ep, eq0, es, eo, e1, e2, eh, ev, y0])
      | (with_reducible refine qW_eq (L0 _ (fun _ _ => rfl) (fun _ _ => rfl)) ?_; (try dsimp only); try simp only [qw_ap, qfl1_ap, qfl2_ap, qcp1_ap, qcp2_ap, false_and, true_and, and_true, and_false, and_self, if_false, if_true, reduceIte, Nat.reduceEqDiff, e, f1, ep, eq0, es, eo, e1, e2, eh, ev, y0])
      | (with_reducible refine qW_eq (F0 _ (fun _ _ => rfl)) ?_; (try dsimp only); try simp only [qw_ap, qfl1_ap, qfl2_ap, qcp1_ap, qcp2_ap, false_and, true_and, and_true, and_false, and_self, if_false, if_true, reduceIte, Nat.reduceEqDiff, e, f1, ep, eq0, es, eo, e1, e2, eh, ev, y0])
      | (with_reducible refine qW_eq (show qf_X17_inputs 20000 13 _ = some 1 from rfl) ?_; (try dsimp only); try simp only [qw_ap, qfl1_ap, qfl2_ap, qcp1_ap, qcp2_ap, false_and, true_and, and_true, and_false, and_self, if_false, if_true, reduceIte, Nat.reduceEqDiff, e, f1, ep, eq0, es, eo, e1, e2, eh, ev, y0])
      | (with_reducible refine qW_bnd ?_; try simp only [qw_ap, qfl1_ap, qfl2_ap, qcp1_ap, qcp2_ap, false_and, true_and, and_true, and_false, and_self, if_false, if_true, reduceIte, Nat.reduceEqDiff, e, f1, ep, eq0, es, eo, e1, e2, eh, ev, y0])
      | with_reducible refine qW_within (fun _ => ?_) (fun _ _ => ?_)
      | with_reducible refine qW_isIn (fun _ => ?_) (fun _ _ => ?_)
      | with_reducible refine qW_na (fun _ => ?_) (fun _ => ?_)
      | with_reducible refine qW_ns (fun _ => ?_) (fun _ => ?_)
      | (with_reducible refine qW_goes (fun _ => ?_) (fun _ _ => ?_) (fun _ _ => ?_) <;> (try dsimp only) <;> (try simp only [qw_ap, qfl1_ap, qfl2_ap, qcp1_ap, qcp2_ap, false_and, true_and, and_true, and_false, and_self, if_false, if_true, reduceIte, Nat.reduceEqDiff, e, f1, ep, eq0, es, eo, e1, e2, eh, ev, y0]))
      | (with_reducible refine qW_stays (by omega) (fun _ => ?_) (fun _ => ?_) <;> (try dsimp only) <;> (try simp only [qw_ap, qfl1_ap, qfl2_ap, qcp1_ap, qcp2_ap, false_and, true_and, and_true, and_false, and_self, if_false, if_true, reduceIte, Nat.reduceEqDiff, e, f1, ep, eq0, es, eo, e1, e2, eh, ev, y0]))
      | (exfalso; omega)
      | with_reducible refine qW_bind ?_
      | (with_reducible refine qW_some ?_; (try dsimp only); try simp only [qw_ap, qfl1_ap, qfl2_ap, qcp1_ap, qcp2_ap, false_and, true_and, and_true, and_false, and_self, if_false, if_true, reduceIte, Nat.reduceEqDiff, e, f1, ep, eq0, es, eo, e1, e2, eh, ev, y0])
      | with_reducible refine qW_pos rfl ?_
      | (refine qW_pos (by omega) ?_)
      | (refine qW_neg (by first | omega | decide) ?_)
      | with_reducible refine qW_ite (fun _ => ?_) (fun _ => ?_)
      | dsimp only
    all_goals (unfold PgI; refine ⟨⟨?_, ?_, ?_, ?_, ?_, ?_, ?_, ?_, ?_, ?_⟩, ?_, ?_⟩)
    all_goals first
      | exact R_blocks_x rfl rfl h_blocks
      | exact R_kinds_x (fun _ _ => rfl) (fun _ _ => rfl) h_kinds
      | exact R_pq_x (fun _ _ => rfl) (fun _ _ => rfl) (fun _ _ => rfl) (fun _ _ => rfl) h_pq
      | exact R_safe_x (fun _ _ => rfl) (fun _ _ => rfl) h_safe
      | exact R_outs_x (fun _ _ => rfl) (fun _ _ => rfl) (fun _ _ => rfl) (fun _ _ => rfl) (fun _ _ => rfl) h_outs
      | exact R_hand_x (fun _ _ => rfl) (fun _ _ => rfl) (fun _ _ => rfl) (fun _ _ => rfl) h_hand
      | exact R_wire_x rfl (fun _ _ => rfl) (fun _ _ => rfl) h_wire
      | exact R_row_x (fun _ _ => rfl) (fun _ _ => rfl) h_row
      | exact R_points_x (fun _ _ => rfl) (fun _ _ => rfl) h_points
      | exact R_failed_x (fun _ _ => rfl) (fun _ _ => rfl) h_failed
      | (intro c hc; simp [qw_ap, hc]; done)
      | (intro hc; simp [qw_ap]; done)
      | (intro hc; exfalso; omega)
      | (intro c c0 c1; have g := h_outs c c0 c1; by_cases ec : c = b; (focus (rw [ec]; simp only [qw_ap, false_and, true_and, and_true, and_false, and_self, if_false, if_true, reduceIte, Nat.reduceEqDiff, Int.reduceEq, e, f1, ep, eq0, es, eo, e1, e2, eh, ev, y0]; refine ⟨?_, ?_, ?_, ?_, ?_, ?_⟩ <;> (try refine ⟨?_, ?_⟩) <;> first | rfl | assumption | omega | exact (w32_r _).1 | exact (w32_r _).2 | (simp only [w32] at *; omega) | grind)); (focus (simp only [qw_ap, false_and, true_and, and_true, and_false, and_self, if_false, if_true, reduceIte, Nat.reduceEqDiff, Int.reduceEq, ec]; exact g)))
      | (intro c c0 c1; have g := h_failed c c0 c1; have g0 := h_failed 0 (by decide) (by decide); have g1 := h_failed 1 (by decide) (by decide); have g2 := h_failed 2 (by decide) (by decide); have g3 := h_failed 3 (by decide) (by decide); simp only [qw_ap, false_and, true_and, and_true, and_false, and_self, if_false, if_true, reduceIte, Nat.reduceEqDiff, Int.reduceEq]; grind)
