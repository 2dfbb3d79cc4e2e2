/-! ===== the law between two calls: what single functions leave, more (wip/tools/q/genwk2.py) ===== -/
section LIg
variable {M K N : qm}
theorem pe_L {i1 i2 : Int} (hb : M 6 11 0 = 0) : qP (qf_L_person 20000 i1 i2 M) (fun r => r.2 756 7 0 = M 756 7 0) := by
  unfold qf_L_person
  (repeat' (first
    | exact qP_none
    | (with_reducible refine qP_if (fun _ => ?_) (fun _ => ?_))
    | (with_reducible refine qP_bn ?_)
    | (with_reducible refine qP_bind (pe_X hb) (fun r hr => ?_); obtain ⟨_ | _, _⟩ := r)
    | (with_reducible refine qP_bind needState_q (fun r hr => ?_); rcases r with _ | _)
    | (with_reducible refine qP_bind needArg_q (fun r hr => ?_); rcases r with _ | _)
    | (with_reducible refine qP_pure (fun r => ?_))
    | (with_reducible refine qP_some ?_)))
  all_goals first | exact hr | exact (qw_a (by decide)).trans hr
theorem ad_address {i1 i2 : Int}  : qP (qf_X1_setAddress 20000 i1 i2 M) (fun r => ∀ (b : Nat) (i j : Int), ¬ (b = 1140 ∧ j = 6) → b ≠ 2332 → r.2 b i j = M b i j) := by
  unfold qf_X1_setAddress
  (repeat' (first
    | exact qP_none
    | (with_reducible refine qP_if (fun _ => ?_) (fun _ => ?_))
    | (with_reducible refine qP_bn ?_)
    | (with_reducible refine qP_bind needState_q (fun r hr => ?_); rcases r with _ | _)
    | (with_reducible refine qP_bind needArg_q (fun r hr => ?_); rcases r with _ | _)
    | (with_reducible refine qP_pure (fun r => ?_))
    | (with_reducible refine qP_some ?_)))
  all_goals first | exact fun _ _ _ _ _ => rfl | exact hr | (intro b i j g1 g2; exact (qw_a g2).trans (hr b i j g1 g2)) | (intro b i j g1 g2; exact (qw_ap).trans (if_neg (fun z => g1 ⟨z.1, z.2.2⟩)))
theorem ad_X_address {i1 i2 : Int}  : qP (qf_X11_address 20000 i1 i2 M) (fun r => ∀ (b : Nat) (i j : Int), ¬ (b = 1140 ∧ j = 6) → b ≠ 2332 → r.2 b i j = M b i j) := by
  unfold qf_X11_address
  (repeat' (first
    | exact qP_none
    | (with_reducible refine qP_if (fun _ => ?_) (fun _ => ?_))
    | (with_reducible refine qP_bn ?_)
    | (with_reducible refine qP_bind ad_address (fun r hr => ?_))
    | (with_reducible refine qP_bind needState_q (fun r hr => ?_); rcases r with _ | _)
    | (with_reducible refine qP_bind needArg_q (fun r hr => ?_); rcases r with _ | _)
    | (with_reducible refine qP_pure (fun r => ?_))
    | unfold qf_X11_address_J23
    | unfold qf_X11_address_J22
    | (with_reducible refine qP_some ?_)))
  all_goals first | exact fun _ _ _ _ _ => rfl | exact hr | (intro b i j g1 g2; exact (qw_a g2).trans (hr b i j g1 g2)) | (intro b i j g1 g2; exact (qw_ap).trans (if_neg (fun z => g1 ⟨z.1, z.2.2⟩)))
theorem ad_L_address {i1 i2 : Int}  : qP (qf_L_address 20000 i1 i2 M) (fun r => ∀ (b : Nat) (i j : Int), ¬ (b = 1140 ∧ j = 6) → b ≠ 2332 → r.2 b i j = M b i j) := by
  unfold qf_L_address
  (repeat' (first
    | exact qP_none
    | (with_reducible refine qP_if (fun _ => ?_) (fun _ => ?_))
    | (with_reducible refine qP_bn ?_)
    | (with_reducible refine qP_bind ad_X_address (fun r hr => ?_); obtain ⟨_ | _, _⟩ := r)
    | (with_reducible refine qP_bind needState_q (fun r hr => ?_); rcases r with _ | _)
    | (with_reducible refine qP_bind needArg_q (fun r hr => ?_); rcases r with _ | _)
    | (with_reducible refine qP_pure (fun r => ?_))
    | (with_reducible refine qP_some ?_)))
  all_goals first | exact fun _ _ _ _ _ => rfl | exact hr | (intro b i j g1 g2; exact (qw_a g2).trans (hr b i j g1 g2)) | (intro b i j g1 g2; exact (qw_ap).trans (if_neg (fun z => g1 ⟨z.1, z.2.2⟩)))
theorem ad_busy {i1 i2 : Int}  : qP (qf_X1_setBusy 20000 i1 i2 M) (fun r => ∀ (b : Nat) (i j : Int), ¬ (b = 1140 ∧ j = 7) → b ≠ 2332 → r.2 b i j = M b i j) := by
  unfold qf_X1_setBusy
  (repeat' (first
    | exact qP_none
    | (with_reducible refine qP_if (fun _ => ?_) (fun _ => ?_))
    | (with_reducible refine qP_bn ?_)
    | (with_reducible refine qP_bind needState_q (fun r hr => ?_); rcases r with _ | _)
    | (with_reducible refine qP_bind needArg_q (fun r hr => ?_); rcases r with _ | _)
    | (with_reducible refine qP_pure (fun r => ?_))
    | unfold qf_X1_setBusy_J17
    | (with_reducible refine qP_some ?_)))
  all_goals first | exact fun _ _ _ _ _ => rfl | exact hr | (intro b i j g1 g2; exact (qw_a g2).trans (hr b i j g1 g2)) | (intro b i j g1 g2; exact (qw_ap).trans (if_neg (fun z => g1 ⟨z.1, z.2.2⟩)))
theorem ad_X_busy {i1 i2 : Int}  : qP (qf_X11_busy 20000 i1 i2 M) (fun r => ∀ (b : Nat) (i j : Int), ¬ (b = 1140 ∧ j = 7) → b ≠ 2332 → r.2 b i j = M b i j) := by
  unfold qf_X11_busy
  (repeat' (first
    | exact qP_none
    | (with_reducible refine qP_if (fun _ => ?_) (fun _ => ?_))
    | (with_reducible refine qP_bn ?_)
    | (with_reducible refine qP_bind ad_busy (fun r hr => ?_))
    | (with_reducible refine qP_bind needState_q (fun r hr => ?_); rcases r with _ | _)
    | (with_reducible refine qP_bind needArg_q (fun r hr => ?_); rcases r with _ | _)
    | (with_reducible refine qP_pure (fun r => ?_))
    | (with_reducible refine qP_some ?_)))
  all_goals first | exact fun _ _ _ _ _ => rfl | exact hr | (intro b i j g1 g2; exact (qw_a g2).trans (hr b i j g1 g2)) | (intro b i j g1 g2; exact (qw_ap).trans (if_neg (fun z => g1 ⟨z.1, z.2.2⟩)))
theorem ad_L_busy {i1 i2 : Int}  : qP (qf_L_busy 20000 i1 i2 M) (fun r => ∀ (b : Nat) (i j : Int), ¬ (b = 1140 ∧ j = 7) → b ≠ 2332 → r.2 b i j = M b i j) := by
  unfold qf_L_busy
  (repeat' (first
    | exact qP_none
    | (with_reducible refine qP_if (fun _ => ?_) (fun _ => ?_))
    | (with_reducible refine qP_bn ?_)
    | (with_reducible refine qP_bind ad_X_busy (fun r hr => ?_); obtain ⟨_ | _, _⟩ := r)
    | (with_reducible refine qP_bind needState_q (fun r hr => ?_); rcases r with _ | _)
    | (with_reducible refine qP_bind needArg_q (fun r hr => ?_); rcases r with _ | _)
    | (with_reducible refine qP_pure (fun r => ?_))
    | unfold qf_L_busy_J16
    | (with_reducible refine qP_some ?_)))
  all_goals first | exact fun _ _ _ _ _ => rfl | exact hr | (intro b i j g1 g2; exact (qw_a g2).trans (hr b i j g1 g2)) | (intro b i j g1 g2; exact (qw_ap).trans (if_neg (fun z => g1 ⟨z.1, z.2.2⟩)))
theorem isIn_q {x n : Int} : qP (qf_X18_isIn 20000 x n K) (fun r => r ≠ 0 → 0 ≤ x ∧ x < n) := by
  unfold qf_X18_isIn
  exact qP_if (fun _ => qP_some (fun y => absurd rfl y)) (fun w1 => qP_if (fun _ => qP_some (fun y => absurd rfl y)) (fun w2 => qP_some (fun _ => ⟨by omega, by omega⟩)))
theorem bi_J31 {i1 i2 t1 : Int} (ht : t1 ≠ 0 → i1 < K 2235 0 0) : qP (qf_X18_bind_J31 20000 i1 i2 t1 K) (fun r => ∀ b, K 2235 0 0 ≤ b → r.2 2248 b 0 = K 2248 b 0) := by
  unfold qf_X18_bind_J31
  refine qP_bind goes_q (fun r h => qP_if (fun _ => qP_some (fun b hb => h.2 2248 b 0 (by omega))) (fun w => ?_))
  have g := ht (h.1 w).1
  refine qP_if (fun _ => qP_if (fun _ => qP_bn (qP_some (fun b hb => ?_))) (fun _ => qP_none)) (fun _ => qP_none)
  exact (qw_i (by omega)).trans (h.2 2248 b 0 (by omega))
theorem bi_K {i1 i2 : Int} : qP (qf_X18_bind 20000 i1 i2 K) (fun r => ∀ b, K 2235 0 0 ≤ b → r.2 2248 b 0 = K 2248 b 0) := by
  unfold qf_X18_bind qf_X18_bind_J30
  exact qP_bind isIn_q (fun r h => qP_if (fun _ => bi_J31 (fun z => absurd rfl z)) (fun w => qP_if (fun _ => bi_J31 (fun z => absurd rfl z)) (fun _ => qP_if (fun _ => bi_J31 (fun z => absurd rfl z)) (fun _ => bi_J31 (fun _ => (h w).2)))))
/-- the plan is as it was, or no finding is of it -/
def LNX (M N : qm) : Prop := (∀ b i j, b ≠ 2332 → N b i j = M b i j) ∨ (M 6 11 0 = 0 ∧ N 51 2 0 = 0 ∧ M 7 0 0 ≤ N 7 0 0)
theorem lnx_0 : LNX M M := Or.inl (fun _ _ _ _ => rfl)
theorem lnx_w {v i : Int} (h : LNX M N) : LNX M (qw N 2332 i 0 v) := by
  rcases h with h | ⟨h1, h2, h3⟩
  · exact Or.inl (fun b x y g => (qw_a g).trans (h b x y g))
  · exact Or.inr ⟨h1, (qw_a (by decide)).trans h2, by rw [qw_a (by decide)]; exact h3⟩
theorem ln_ends {i1 i2 i3 i4 i5 : Int}  : qP (qf_X8_setEnds 20000 i1 i2 i3 i4 i5 M) (fun r => r.2 7 0 0 = M 7 0 0) := by
  unfold qf_X8_setEnds
  (repeat' (first
    | exact qP_none
    | (with_reducible refine qP_if (fun _ => ?_) (fun _ => ?_))
    | (with_reducible refine qP_bn ?_)
    | (with_reducible refine qP_bind needState_q (fun r hr => ?_); rcases r with _ | _)
    | (with_reducible refine qP_bind needArg_q (fun r hr => ?_); rcases r with _ | _)
    | (with_reducible refine qP_pure (fun r => ?_))
    | (with_reducible refine qP_some ?_)))
  all_goals ((try dsimp only); rw [qw_a (by decide), qw_a (by decide), qw_a (by decide), qw_a (by decide)])
theorem ln_add {i1 i2 i3 i4 : Int} (h0 : 0 ≤ M 7 0 0) (h1 : M 7 0 0 ≤ 20) : qP (qf_X8_addLine 20000 i1 i2 i3 i4 M) (fun r => (r.1 = -1 → r.2 = M) ∧ M 7 0 0 ≤ r.2 7 0 0) := by
  unfold qf_X8_addLine
  refine qP_if (fun _ => qP_some ⟨fun _ => rfl, Int.le_refl _⟩) (fun w => qP_pure (fun r => qP_if (fun _ => ?_) (fun _ => qP_some ⟨fun _ => rfl, Int.le_refl _⟩)))
  refine qP_bind ln_ends (fun s hs => qP_bn (qP_some ?_))
  have e : w32 (s.2 7 0 0 + 1) = M 7 0 0 + 1 := by
    rw [hs]
    exact w32_id (by omega) (by omega)
  rw [e]
  have e2 : (qw s.2 7 0 0 (M 7 0 0 + 1)) 7 0 0 = M 7 0 0 + 1 := qw_s
  (try dsimp only)
  rw [e2, w32_id (x := M 7 0 0 + 1 - 1) (by omega) (by omega)]
  exact ⟨fun z => by omega, by omega⟩
theorem ln_J81 {i1 i2 i3 i4 t0 : Int} (h0 : 0 ≤ M 7 0 0) (h1 : M 7 0 0 ≤ 20) (ht : t0 ≠ 0 → M 6 11 0 = 0) : qP (qf_X11_line_J81 20000 i1 i2 i3 i4 t0 M) (fun r => LNX M r.2) := by
  unfold qf_X11_line_J81
  refine qP_bind needState_q (fun r hr => ?_)
  rcases r with u | X
  · have hb := ht (hr u rfl)
    refine qP_bind (ln_add h0 h1) (fun s hs => qP_if (fun w => qP_some ?_) (fun _ => qP_bn (qP_some (Or.inr ⟨hb, (show qw s.2 51 2 0 0 51 2 0 = 0 from qw_s), ?_⟩))))
    · (try dsimp only)
      rw [hs.1 w]
      exact lnx_0
    · (try dsimp only)
      rw [qw_a (by decide)]
      exact hs.2
  · exact qP_some lnx_0
theorem ln_X {i1 i2 i3 i4 : Int} (h0 : 0 ≤ M 7 0 0) (h1 : M 7 0 0 ≤ 20) : qP (qf_X11_line 20000 i1 i2 i3 i4 M) (fun r => LNX M r.2) := by
  unfold qf_X11_line
  (repeat' (first
    | exact qP_none
    | exact ln_J81 h0 h1 (fun z => absurd rfl z)
    | exact ln_J81 h0 h1 (fun _ => by assumption)
    | (with_reducible refine qP_if (fun _ => ?_) (fun _ => ?_))
    | (with_reducible refine qP_bn ?_)
    | (with_reducible refine qP_bind needState_q (fun r hr => ?_); rcases r with _ | _)
    | (with_reducible refine qP_bind needArg_q (fun r hr => ?_); rcases r with _ | _)
    | (with_reducible refine qP_pure (fun r => ?_))
    | unfold qf_X11_line_J80
    | unfold qf_X11_line_J54
    | unfold qf_X11_line_J46
    | unfold qf_X11_line_J35
    | unfold qf_X11_line_J22
    | unfold qf_X11_line_J21
    | (with_reducible refine qP_some ?_)))
  all_goals exact lnx_0
theorem ln_L {i1 i2 i3 i4 : Int} (h0 : 0 ≤ M 7 0 0) (h1 : M 7 0 0 ≤ 20) : qP (qf_L_line 20000 i1 i2 i3 i4 M) (fun r => LNX M r.2) := by
  unfold qf_L_line
  (repeat' (first
    | exact qP_none
    | (with_reducible refine qP_if (fun _ => ?_) (fun _ => ?_))
    | (with_reducible refine qP_bn ?_)
    | (with_reducible refine qP_bind (ln_X h0 h1) (fun r hr => ?_); obtain ⟨_ | _, _⟩ := r)
    | (with_reducible refine qP_bind needState_q (fun r hr => ?_); rcases r with _ | _)
    | (with_reducible refine qP_bind needArg_q (fun r hr => ?_); rcases r with _ | _)
    | (with_reducible refine qP_pure (fun r => ?_))
    | (with_reducible refine qP_some ?_)))
  all_goals first | exact hr | exact lnx_w hr
theorem mv_line {i1 i2 i3 : Int} : qP (qf_X8_moveLine 20000 i1 i2 i3 M) (fun r => (r.1 = 0 → r.2 = M) ∧ r.2 7 0 0 = M 7 0 0) := by
  unfold qf_X8_moveLine
  refine qP_if (fun _ => qP_pure (fun r => qP_if (fun _ => qP_bind ln_ends (fun s hs => qP_some ⟨fun z => absurd (show (1 : Int) = 0 from z) (by decide), hs⟩)) (fun _ => qP_some ⟨fun _ => rfl, rfl⟩))) (fun _ => qP_none)
theorem mv_J41 {i1 i2 i3 t0 : Int} (ht : t0 ≠ 0 → M 6 11 0 = 0) : qP (qf_X11_move_J41 20000 i1 i2 i3 t0 M) (fun r => LNX M r.2) := by
  unfold qf_X11_move_J41
  refine qP_bind needState_q (fun r hr => ?_)
  rcases r with u | X
  · have hb := ht (hr u rfl)
    refine qP_bind mv_line (fun s hs => qP_if (fun w => qP_if (fun _ => qP_some ?_) (fun _ => qP_none)) (fun _ => qP_bn (qP_if (fun _ => qP_some (Or.inr ⟨hb, (show qw s.2 51 2 0 0 51 2 0 = 0 from qw_s), ?_⟩)) (fun _ => qP_none))))
    · (try dsimp only)
      rw [hs.1 w]
      exact lnx_0
    · (try dsimp only)
      rw [qw_a (by decide), hs.2]
      exact Int.le_refl _
  · exact qP_some lnx_0
theorem mv_X {i1 i2 i3 : Int}  : qP (qf_X11_move 20000 i1 i2 i3 M) (fun r => LNX M r.2) := by
  unfold qf_X11_move
  (repeat' (first
    | exact qP_none
    | exact mv_J41 (fun z => absurd rfl z)
    | exact mv_J41 (fun _ => by assumption)
    | (with_reducible refine qP_if (fun _ => ?_) (fun _ => ?_))
    | (with_reducible refine qP_bn ?_)
    | (with_reducible refine qP_bind needState_q (fun r hr => ?_); rcases r with _ | _)
    | (with_reducible refine qP_bind needArg_q (fun r hr => ?_); rcases r with _ | _)
    | (with_reducible refine qP_pure (fun r => ?_))
    | unfold qf_X11_move_J26
    | unfold qf_X11_move_J25
    | (with_reducible refine qP_some ?_)))
  all_goals exact lnx_0
theorem mv_L {i1 i2 i3 : Int}  : qP (qf_L_move 20000 i1 i2 i3 M) (fun r => LNX M r.2) := by
  unfold qf_L_move
  (repeat' (first
    | exact qP_none
    | (with_reducible refine qP_if (fun _ => ?_) (fun _ => ?_))
    | (with_reducible refine qP_bn ?_)
    | (with_reducible refine qP_bind mv_X (fun r hr => ?_); obtain ⟨_ | _, _⟩ := r)
    | (with_reducible refine qP_bind needState_q (fun r hr => ?_); rcases r with _ | _)
    | (with_reducible refine qP_bind needArg_q (fun r hr => ?_); rcases r with _ | _)
    | (with_reducible refine qP_pure (fun r => ?_))
    | unfold qf_L_move_J18
    | (with_reducible refine qP_some ?_)))
  all_goals first | exact hr | exact lnx_w hr
theorem l2_X16 {i1 i2 i3 i4 : Int}  : qP (qf_X16_line 20000 i1 i2 i3 i4 K) (fun r => ∀ l, l ≠ K 2157 0 0 → r.2 2160 l 0 = K 2160 l 0) := by
  unfold qf_X16_line
  (repeat' (first
    | exact qP_none
    | (with_reducible refine qP_if (fun _ => ?_) (fun _ => ?_))
    | (with_reducible refine qP_bn ?_)
    | (with_reducible refine qP_bind needState_q (fun r hr => ?_); rcases r with _ | _)
    | (with_reducible refine qP_bind needArg_q (fun r hr => ?_); rcases r with _ | _)
    | (with_reducible refine qP_pure (fun r => ?_))
    | unfold qf_X16_line_J59
    | unfold qf_X16_line_J39
    | unfold qf_X16_line_J18
    | (with_reducible refine qP_some ?_)))
  all_goals (intro l hl; (try dsimp only); simp only [qw_ap, false_and, true_and, and_true, and_false, and_self, not_true_eq_false, not_false_eq_true, ne_eq, if_false, if_true, reduceIte, Nat.reduceEqDiff, Int.reduceEq]; (try simp only [hl, false_and, if_false]))
theorem l2_J83 {i1 i2 i3 i4 t1 t2 : Int} : qP (qf_X18_line_J83 20000 i1 i2 i3 i4 t1 t2 K) (fun r => ∀ l, l ≠ K 2157 0 0 → r.2 2160 l 0 = K 2160 l 0) := by
  unfold qf_X18_line_J83
  refine qP_bind goes_q (fun r h => qP_if (fun _ => qP_some (fun l hl => h.2 2160 l 0 (by omega))) (fun _ => qP_bind l2_X16 (fun s hs => qP_some (fun l hl => ?_))))
  have e := h.2 2157 0 0 (by omega)
  exact (hs l (by rw [e]; exact hl)).trans (h.2 2160 l 0 (by omega))
theorem l2_K {i1 i2 i3 i4 : Int}  : qP (qf_X18_line 20000 i1 i2 i3 i4 K) (fun r => ∀ l, l ≠ K 2157 0 0 → r.2 2160 l 0 = K 2160 l 0) := by
  unfold qf_X18_line
  (repeat' (first
    | exact qP_none
    | exact l2_J83
    | (with_reducible refine qP_if (fun _ => ?_) (fun _ => ?_))
    | (with_reducible refine qP_bn ?_)
    | (with_reducible refine qP_bind needState_q (fun r hr => ?_); rcases r with _ | _)
    | (with_reducible refine qP_bind needArg_q (fun r hr => ?_); rcases r with _ | _)
    | (with_reducible refine qP_pure (fun r => ?_))
    | unfold qf_X18_line_J82
    | unfold qf_X18_line_J54
    | unfold qf_X18_line_J53
    | unfold qf_X18_line_J49
    | (with_reducible refine qP_some ?_)))
  skip
theorem db_X12 {i1 : Int} (t0 : 0 ≤ K 2252 0 0) (t1 : K 2252 0 0 ≤ 180000) (a1 : 1 ≤ i1) (a2 : i1 ≤ 2000) : qP (qf_X12_disturb 20000 i1 K) (fun r => ∀ x, r.2 2254 x 0 = if x = K 2252 0 0 + i1 then 1 else K 2254 x 0) := by
  have hw : w32 (K 2252 0 0 + i1) = K 2252 0 0 + i1 := w32_id (by omega) (by omega)
  have key : ∀ (v : Int) (x : Int), (qw (qw K 2254 (K 2252 0 0 + i1) 0 1) 2252 3 0 v) 2254 x 0 = if x = K 2252 0 0 + i1 then 1 else K 2254 x 0 := fun v x => by
    rw [qw_a (by decide)]
    by_cases e : x = K 2252 0 0 + i1
    · rw [if_pos e, e]
      exact qw_s
    · rw [if_neg e]
      exact qw_i e
  unfold qf_X12_disturb
  rw [hw]
  refine qP_if (fun _ => ?_) (fun _ => qP_none)
  unfold qf_X12_disturb_J19 qf_X12_disturb_J46
  rw [hw]
  (repeat' (first
    | exact qP_none
    | (with_reducible refine qP_if (fun _ => ?_) (fun _ => ?_))
    | (with_reducible refine qP_bn ?_)
    | (with_reducible refine qP_bind needState_q (fun r hr => ?_); rcases r with _ | _)
    | (with_reducible refine qP_bind needArg_q (fun r hr => ?_); rcases r with _ | _)
    | (with_reducible refine qP_pure (fun r => ?_))
    | (with_reducible refine qP_some ?_)))
  all_goals (intro x; (try dsimp only); rw [key])
/-- one bit time that comes later is disturbed, or none -/
def DBK (K W : qm) : Prop := ∃ u v, K 2252 0 0 < u ∧ u < 182001 ∧ (v = K 2254 u 0 ∨ v = 1) ∧ ∀ x, W 2254 x 0 = if x = u then v else K 2254 x 0
theorem dbk_0 {W : qm} (t1 : K 2252 0 0 ≤ 180000) (h : ∀ x, W 2254 x 0 = K 2254 x 0) : DBK K W := by
  refine ⟨K 2252 0 0 + 1, K 2254 (K 2252 0 0 + 1) 0, by omega, by omega, Or.inl rfl, fun x => ?_⟩
  by_cases e : x = K 2252 0 0 + 1
  · rw [if_pos e, h, e]
  · rw [if_neg e]
    exact h x
theorem db_J40 {i1 s1 s2 : Int} (t0 : 0 ≤ K 2252 0 0) (t1 : K 2252 0 0 ≤ 180000) (ht : s1 ≠ 0 → 1 ≤ i1 ∧ i1 ≤ 2000) : qP (qf_X18_disturb_J40 20000 i1 s1 s2 K) (fun r => DBK K r.2) := by
  unfold qf_X18_disturb_J40
  refine qP_bind goes_q (fun r h => ?_)
  have e0 := h.2 2252 0 0 (by omega)
  have e4 : ∀ x, r.2 2254 x 0 = K 2254 x 0 := fun x => h.2 2254 x 0 (by omega)
  refine qP_if (fun _ => qP_some (dbk_0 t1 e4)) (fun w => ?_)
  have g := ht (h.1 w).1
  have key : ∀ (s : Int × qm), (∀ x, s.2 2254 x 0 = if x = r.2 2252 0 0 + i1 then 1 else r.2 2254 x 0) → DBK K s.2 := fun s hs => by
    refine ⟨K 2252 0 0 + i1, 1, by omega, by omega, Or.inr rfl, fun x => ?_⟩
    rw [hs, e0, e4]
  exact qP_bind (db_X12 (by rw [e0]; exact t0) (by rw [e0]; exact t1) g.1 g.2) (fun s hs => qP_if (fun _ => qP_some (key s hs)) (fun _ => qP_some (key s hs)))
theorem db_J18 {i1 s1 : Int} (t0 : 0 ≤ K 2252 0 0) (t1 : K 2252 0 0 ≤ 180000) (ht : s1 ≠ 0 → 1 ≤ i1 ∧ i1 ≤ 2000) : qP (qf_X18_disturb_J18 20000 i1 s1 K) (fun r => DBK K r.2) := by
  unfold qf_X18_disturb_J18 qf_X18_disturb_J39
  exact qP_if (fun _ => db_J40 t0 t1 ht) (fun _ => qP_pure (fun r => qP_if (fun _ => db_J40 t0 t1 ht) (fun _ => db_J40 t0 t1 ht)))
theorem db_K {i1 : Int} (t0 : 0 ≤ K 2252 0 0) (t1 : K 2252 0 0 ≤ 180000) : qP (qf_X18_disturb 20000 i1 K) (fun r => DBK K r.2) := by
  unfold qf_X18_disturb qf_X18_disturb_J17
  exact qP_if (fun _ => db_J18 t0 t1 (fun z => absurd rfl z)) (fun w1 => qP_if (fun _ => db_J18 t0 t1 (fun z => absurd rfl z)) (fun w2 => db_J18 t0 t1 (fun _ => ⟨by omega, by omega⟩)))
theorem dc_add {i1 : Int} (h0 : -180000 ≤ M 1139 8 0) (h1 : M 1139 8 0 ≤ 50) : qP (qf_X1_addDisturbance 20000 i1 M) (fun r => M 1139 8 0 ≤ r.2 1139 8 0) := by
  have hw : w32 (M 1139 8 0 + 1) = M 1139 8 0 + 1 := w32_id (by omega) (by omega)
  unfold qf_X1_addDisturbance
  (repeat' (first
    | exact qP_none
    | (with_reducible refine qP_if (fun _ => ?_) (fun _ => ?_))
    | (with_reducible refine qP_bn ?_)
    | (with_reducible refine qP_bind needState_q (fun r hr => ?_); rcases r with _ | _)
    | (with_reducible refine qP_bind needArg_q (fun r hr => ?_); rcases r with _ | _)
    | (with_reducible refine qP_pure (fun r => ?_))
    | (with_reducible refine qP_some ?_)))
  all_goals ((try dsimp only at *); (try simp only [qw_ap, false_and, true_and, and_true, and_false, and_self, not_true_eq_false, not_false_eq_true, ne_eq, if_false, if_true, reduceIte, Nat.reduceEqDiff, Int.reduceEq]); omega)
theorem dc_X {i1 : Int} (h0 : -180000 ≤ M 1139 8 0) (h1 : M 1139 8 0 ≤ 50) : qP (qf_X11_disturb 20000 i1 M) (fun r => M 1139 8 0 ≤ r.2 1139 8 0) := by
  unfold qf_X11_disturb
  (repeat' (first
    | exact qP_none
    | (with_reducible refine qP_if (fun _ => ?_) (fun _ => ?_))
    | (with_reducible refine qP_bn ?_)
    | (with_reducible refine qP_bind (dc_add h0 h1) (fun r hr => ?_))
    | (with_reducible refine qP_bind needState_q (fun r hr => ?_); rcases r with _ | _)
    | (with_reducible refine qP_bind needArg_q (fun r hr => ?_); rcases r with _ | _)
    | (with_reducible refine qP_pure (fun r => ?_))
    | unfold qf_X11_disturb_J35
    | unfold qf_X11_disturb_J34
    | (with_reducible refine qP_some ?_)))
  all_goals first | exact Int.le_refl _ | exact hr
theorem dc_L {i1 : Int} (h0 : -180000 ≤ M 1139 8 0) (h1 : M 1139 8 0 ≤ 50) : qP (qf_L_disturb 20000 i1 M) (fun r => M 1139 8 0 ≤ r.2 1139 8 0) := by
  unfold qf_L_disturb
  (repeat' (first
    | exact qP_none
    | (with_reducible refine qP_if (fun _ => ?_) (fun _ => ?_))
    | (with_reducible refine qP_bn ?_)
    | (with_reducible refine qP_bind (dc_X h0 h1) (fun r hr => ?_); obtain ⟨_ | _, _⟩ := r)
    | (with_reducible refine qP_bind needState_q (fun r hr => ?_); rcases r with _ | _)
    | (with_reducible refine qP_bind needArg_q (fun r hr => ?_); rcases r with _ | _)
    | (with_reducible refine qP_pure (fun r => ?_))
    | unfold qf_L_disturb_J15
    | (with_reducible refine qP_some ?_)))
  all_goals first | exact hr | (rw [qw_a (by decide)]; exact hr)
end LIg
