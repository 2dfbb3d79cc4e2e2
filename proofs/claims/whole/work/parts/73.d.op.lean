/-! ===== the calls block, inside, cell ===== -/
theorem ql_r {σ ρ : Type} {f : σ → Option (ρ ⊕ σ)} {k : Nat} {s s' : σ} (h : f s = some (.inr s')) : qloop f (k + 1) s = qloop f k s' := by
  show (match f s with
    | none => none
    | some (.inl r) => some r
    | some (.inr s') => qloop f k s') = _
  rw [h]
theorem ql_l {σ ρ : Type} {f : σ → Option (ρ ⊕ σ)} {k : Nat} {s : σ} {r : ρ} (h : f s = some (.inl r)) : qloop f (k + 1) s = some r := by
  show (match f s with
    | none => none
    | some (.inl r) => some r
    | some (.inr s') => qloop f k s') = _
  rw [h]
section OPD
variable {M K : qm} {x1 x2 x3 z : Int}
theorem wires_r {n : Int} (h0 : 0 ≤ n) (h1 : n < 40) (hn : (K 2235 0 0) = n) : qf_X17_block_L12 20000 20000 0 K = some (.inr ((), qw (qw (qw K 2240 (3 * n) 0 (-1)) 2240 (3 * n + 1) 0 (-1)) 2240 (3 * n + 2) 0 (-1))) := by
  have st : ∀ (N : qm) i, N 2235 0 0 = n → 0 ≤ i → i < 3 → qf_X17_block_L12_b 20000 i N = some (.inr (i + 1, qw N 2240 (3 * n + i) 0 (-1))) := by
    intro N i hN i0 i1
    unfold qf_X17_block_L12_b
    have e : w32 (w32 (3 * N 2235 0 0) + i) = 3 * n + i := by rw [hN, w32_id (x := 3 * n) (by omega) (by omega), w32_id (by omega) (by omega)]
    rw [if_neg (by omega), e, if_pos (by omega), w32_id (x := i + 1) (by omega) (by omega)]
    rfl
  have en : ∀ N : qm, qf_X17_block_L12_b 20000 3 N = some (.inl (.inr ((), N))) := by
    intro N
    unfold qf_X17_block_L12_b
    rw [if_pos (by decide)]
  unfold qf_X17_block_L12
  rw [show (20000 : Nat) = 19996 + 1 + 1 + 1 + 1 from rfl]
  refine (ql_r (st K 0 hn (by decide) (by decide))).trans ((ql_r (st _ (0 + 1) (by exact hn) (by decide) (by decide))).trans ((ql_r (st _ (0 + 1 + 1) (by exact hn) (by decide) (by decide))).trans ((ql_l (en _)).trans ?_)))
  rw [Int.add_zero]
  rfl
theorem op_block (h_built : R_built M K) (h_blocks : R_blocks M K) (h_kinds : R_kinds M K) (h_wire : R_wire M K) (h_bound : R_bound M K) (h_boundz : R_boundz M K) : oK2 cI (qf_L_block 20000 x1 M) (qf_X18_block 20000 x1 K) (fun M' K' => R_blocks M' K' ∧ R_kinds M' K' ∧ R_wire M' K' ∧ R_bound M' K' ∧ R_boundz M' K' ∧ ((M' 1003 13 0) = 0 ∨ ∀ a i j, a = 1003 ∨ a = 1004 ∨ a = 1008 → M' a i j = M a i j)) := by
  have s_built := h_built
  unfold R_built at s_built
  have s_blocks := h_blocks
  unfold R_blocks at s_blocks
  unfold oK2
  by_cases hx : (M 1003 0 0) < 40
  · have eW := wires_r (K := qw (qw K 2156 0 0 0) 2236 (K 2235 0 0) 0 x1) (n := (M 1003 0 0)) s_blocks.1 hx s_blocks.2.2
    unfold qf_L_block qf_X11_block qf_X11_block_J33 qf_X11_block_J34 qf_X9_addBlock qf_X18_block qf_X18_block_J30 qf_X18_block_J31 qf_X17_block
    repeat' first
      | ((with_reducible refine qW_eq eW ?_); (try dsimp only))
      | with_reducible refine qW_within (fun _ => ?_) (fun _ _ => ?_)
      | with_reducible refine qW_isIn (fun _ => ?_) (fun _ _ => ?_)
      | with_reducible refine qW_na (fun _ => ?_) (fun _ => ?_)
      | with_reducible refine qW_ns (fun _ => ?_) (fun _ => ?_)
      | (with_reducible refine qW_goes (fun _ => ?_) (fun _ _ => ?_) (fun _ _ => ?_) <;> (try dsimp only) <;> (try simp only [qw_ap, qfl1_ap, qfl2_ap, qcp1_ap, qcp2_ap, false_and, true_and, and_true, and_false, and_self, if_false, if_true, reduceIte, Nat.reduceEqDiff, Int.reduceEq, Int.reduceNeg]))
      | (with_reducible refine qW_stays (by omega) (fun _ => ?_) (fun _ => ?_) <;> (try dsimp only) <;> (try simp only [qw_ap, qfl1_ap, qfl2_ap, qcp1_ap, qcp2_ap, false_and, true_and, and_true, and_false, and_self, if_false, if_true, reduceIte, Nat.reduceEqDiff, Int.reduceEq, Int.reduceNeg]))
      | (exfalso; omega)
      | with_reducible refine qW_bind ?_
      | (with_reducible refine qW_bnd ?_; try simp only [qw_ap, qfl1_ap, qfl2_ap, qcp1_ap, qcp2_ap, false_and, true_and, and_true, and_false, and_self, if_false, if_true, reduceIte, Nat.reduceEqDiff, Int.reduceEq, Int.reduceNeg])
      | (with_reducible refine qW_some ?_; (try dsimp only); try simp only [qw_ap, qfl1_ap, qfl2_ap, qcp1_ap, qcp2_ap, false_and, true_and, and_true, and_false, and_self, if_false, if_true, reduceIte, Nat.reduceEqDiff, Int.reduceEq, Int.reduceNeg])
      | ((with_reducible refine qW_no ?_); omega)
      | with_reducible refine qW_pos rfl ?_
      | ((with_reducible refine qW_pos ?_ ?_); omega)
      | ((with_reducible refine qW_neg ?_ ?_); (first | omega | decide))
      | with_reducible refine qW_ite (fun _ => ?_) (fun _ => ?_)
      | dsimp only
    all_goals first
      | exact ⟨fun x => absurd x (by decide), R_blocks_x (M := M) (K := K) rfl rfl h_blocks, R_kinds_x (M := M) (K := K) (fun _ _ => rfl) (fun _ _ => rfl) h_kinds, R_wire_x (M := M) (K := K) rfl (fun _ _ => rfl) (fun _ _ => rfl) h_wire, R_bound_x (M := M) (K := K) rfl (fun _ _ => rfl) (fun _ _ => rfl) h_bound, R_boundz_x (M := M) (K := K) rfl (fun _ _ => rfl) h_boundz, (by first | exact Or.inr trivial | exact Or.inr (fun _ _ _ _ => rfl) | simp)⟩
      | skip
    all_goals (
      have ek : (K 2235 0 0) = (M 1003 0 0) := s_blocks.2.2
      have e1 : w32 ((M 1003 0 0) + 1) = (M 1003 0 0) + 1 := w32_id (by omega) (by omega)
      have e2 : w32 ((M 1003 0 0) + 1 - 1) = (M 1003 0 0) := (w32_id (by omega) (by omega)).trans (by omega)
      simp only [ek, e1, e2]
      refine ⟨fun _ => rfl, ?_, ?_, ?_, ?_, ?_, (by first | exact Or.inl trivial | exact Or.inl rfl)⟩
      · unfold R_blocks
        simp only [qw_ap, false_and, true_and, and_true, and_false, and_self, if_false, if_true, reduceIte, Nat.reduceEqDiff, Int.reduceEq]
        omega
      · intro b b0 b1
        have q := h_kinds b b0 b1
        by_cases e : b = (M 1003 0 0)
        · subst e
          simp only [qw_ap, qfl2_ap, false_and, true_and, and_true, and_false, and_self, if_false, if_true, reduceIte, Nat.reduceEqDiff, Int.reduceEq]
          omega
        · simp only [qw_ap, qfl2_ap, e, false_and, true_and, and_true, and_false, and_self, if_false, if_true, reduceIte, Nat.reduceEqDiff, Int.reduceEq]
          exact q
      · intro b i b0 b1 i0 i1
        have b2 : b < (M 1003 0 0) + 1 := b1
        by_cases e : b = (M 1003 0 0)
        · subst e
          have h3 : i = 0 ∨ i = 1 ∨ i = 2 := by omega
          rcases h3 with rfl | rfl | rfl <;> simp (disch := omega) [qw_ap, qfl2_ap] <;> omega
        · have q := h_wire b i b0 (by omega) i0 i1
          have f0 : ¬ 3 * b + i = 3 * (M 1003 0 0) := by omega
          have f1 : ¬ 3 * b + i = 3 * (M 1003 0 0) + 1 := by omega
          have f2 : ¬ 3 * b + i = 3 * (M 1003 0 0) + 2 := by omega
          simp only [qw_ap, qfl2_ap, e, f0, f1, f2, false_and, true_and, and_true, and_false, and_self, if_false, if_true, reduceIte, Nat.reduceEqDiff, Int.reduceEq]
          omega
      · intro b b0 b1
        have b2 : b < (M 1003 0 0) + 1 := b1
        by_cases e : b = (M 1003 0 0)
        · subst e
          have y := h_boundz (M 1003 0 0) (Int.le_refl _) hx
          simp only [qw_ap, qfl2_ap, false_and, true_and, and_true, and_false, and_self, if_false, if_true, reduceIte, Nat.reduceEqDiff, Int.reduceEq]
          omega
        · have q := h_bound b b0 (by omega)
          simp only [qw_ap, qfl2_ap, e, false_and, true_and, and_true, and_false, and_self, if_false, if_true, reduceIte, Nat.reduceEqDiff, Int.reduceEq]
          exact q
      · intro b b0 b1
        have b2 : (M 1003 0 0) + 1 ≤ b := b0
        exact h_boundz b (by omega) b1)
  · unfold qf_L_block qf_X11_block qf_X11_block_J33 qf_X11_block_J34 qf_X9_addBlock qf_X18_block qf_X18_block_J30 qf_X18_block_J31 qf_X17_block
    repeat' first
      | with_reducible refine qW_within (fun _ => ?_) (fun _ _ => ?_)
      | with_reducible refine qW_isIn (fun _ => ?_) (fun _ _ => ?_)
      | with_reducible refine qW_na (fun _ => ?_) (fun _ => ?_)
      | with_reducible refine qW_ns (fun _ => ?_) (fun _ => ?_)
      | (with_reducible refine qW_goes (fun _ => ?_) (fun _ _ => ?_) (fun _ _ => ?_) <;> (try dsimp only) <;> (try simp only [qw_ap, qfl1_ap, qfl2_ap, qcp1_ap, qcp2_ap, false_and, true_and, and_true, and_false, and_self, if_false, if_true, reduceIte, Nat.reduceEqDiff, Int.reduceEq, Int.reduceNeg]))
      | (with_reducible refine qW_stays (by omega) (fun _ => ?_) (fun _ => ?_) <;> (try dsimp only) <;> (try simp only [qw_ap, qfl1_ap, qfl2_ap, qcp1_ap, qcp2_ap, false_and, true_and, and_true, and_false, and_self, if_false, if_true, reduceIte, Nat.reduceEqDiff, Int.reduceEq, Int.reduceNeg]))
      | (exfalso; omega)
      | with_reducible refine qW_bind ?_
      | (with_reducible refine qW_bnd ?_; try simp only [qw_ap, qfl1_ap, qfl2_ap, qcp1_ap, qcp2_ap, false_and, true_and, and_true, and_false, and_self, if_false, if_true, reduceIte, Nat.reduceEqDiff, Int.reduceEq, Int.reduceNeg])
      | (with_reducible refine qW_some ?_; (try dsimp only); try simp only [qw_ap, qfl1_ap, qfl2_ap, qcp1_ap, qcp2_ap, false_and, true_and, and_true, and_false, and_self, if_false, if_true, reduceIte, Nat.reduceEqDiff, Int.reduceEq, Int.reduceNeg])
      | ((with_reducible refine qW_no ?_); omega)
      | with_reducible refine qW_pos rfl ?_
      | ((with_reducible refine qW_pos ?_ ?_); omega)
      | ((with_reducible refine qW_neg ?_ ?_); (first | omega | decide))
      | with_reducible refine qW_ite (fun _ => ?_) (fun _ => ?_)
      | dsimp only
    all_goals exact ⟨fun x => absurd x (by decide), R_blocks_x (M := M) (K := K) rfl rfl h_blocks, R_kinds_x (M := M) (K := K) (fun _ _ => rfl) (fun _ _ => rfl) h_kinds, R_wire_x (M := M) (K := K) rfl (fun _ _ => rfl) (fun _ _ => rfl) h_wire, R_bound_x (M := M) (K := K) rfl (fun _ _ => rfl) (fun _ _ => rfl) h_bound, R_boundz_x (M := M) (K := K) rfl (fun _ _ => rfl) h_boundz, (by first | exact Or.inr trivial | exact Or.inr (fun _ _ _ _ => rfl) | simp)⟩
end OPD
