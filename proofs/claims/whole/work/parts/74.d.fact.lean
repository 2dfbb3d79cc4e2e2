/-! ===== a fact found, set; the call fact ===== -/
section FB
variable {M K : qm} {x v : Int}
theorem fact_both (h_factn : R_factn M K) (h_facts : R_facts M K) (h_factd : R_factd M K) : ∃ r : Int, qf_X7_findFact 20000 x M = some r ∧ qf_X15_factOf 20000 x K = some r ∧ ((r = -1 ∧ ∀ k, 0 ≤ k → k < M 735 8 0 → M 754 k 0 ≠ x) ∨ (0 ≤ r ∧ r < M 735 8 0 ∧ M 754 r 0 = x)) := by
  unfold R_factn at h_factn
  unfold R_facts at h_facts
  unfold R_factd at h_factd
  obtain ⟨n0, n40, nk⟩ := h_factn
  have a : qW (qf_X7_findFact 20000 x M) (fun r => (r = -1 ∧ ∀ k, 0 ≤ k → k < M 735 8 0 → M 754 k 0 ≠ x) ∨ (0 ≤ r ∧ r < M 735 8 0 ∧ M 754 r 0 = x)) := by
    unfold qf_X7_findFact
    refine qW_call (Q := fun o => (o = .inr () ∧ ∀ k, 0 ≤ k → k < M 735 8 0 → M 754 k 0 ≠ x) ∨ (∃ r, o = .inl r ∧ 0 ≤ r ∧ r < M 735 8 0 ∧ M 754 r 0 = x)) ?_ ?_
    · unfold qf_X7_findFact_L2
      refine qW_for (M 735 8 0) (fun i s => s = (x, i) ∧ ∀ k, 0 ≤ k → k < i → M 754 k 0 ≠ x) ?_ ?_ ?_ n0 (by omega)
      · rintro i _ i0 i1 ⟨rfl, hk⟩
        unfold qf_X7_findFact_L2_b
        (try dsimp only)
        rw [if_neg (show ¬ M 735 8 0 ≤ i by omega), if_pos ⟨i0, by omega⟩, w32_id (x := i + 1) (by omega) (by omega)]
        by_cases g : M 754 i 0 = x
        · rw [if_pos g]
          exact qW_some (Or.inr ⟨i, rfl, i0, i1, g⟩)
        · rw [if_neg g]
          exact qW_some ⟨rfl, all_s hk g⟩
      · rintro _ ⟨rfl, hk⟩
        unfold qf_X7_findFact_L2_b
        (try dsimp only)
        rw [if_pos (Int.le_refl _)]
        exact qW_some (Or.inl ⟨rfl, hk⟩)
      · exact ⟨rfl, all_0⟩
    · rintro _ (⟨rfl, g⟩ | ⟨r, rfl, g⟩)
      · exact qW_some (Or.inl ⟨rfl, g⟩)
      · exact qW_some (Or.inr g)
  have b : qW (qf_X15_factOf 20000 x K) (fun r => (r = -1 ∧ ∀ k, 0 ≤ k → k < M 735 8 0 → M 754 k 0 ≠ x) ∨ (0 ≤ r ∧ r < M 735 8 0 ∧ M 754 r 0 = x)) := by
    unfold qf_X15_factOf
    refine qW_call (Q := fun o => ∃ r, o = .inr r ∧ ((r = -1 ∧ ∀ k, 0 ≤ k → k < M 735 8 0 → M 754 k 0 ≠ x) ∨ (0 ≤ r ∧ r < M 735 8 0 ∧ M 754 r 0 = x))) ?_ ?_
    · unfold qf_X15_factOf_L5
      refine qW_for (M 735 8 0) (fun i s => ∃ r, s = (x, r, i) ∧ ((r = -1 ∧ ∀ k, 0 ≤ k → k < i → M 754 k 0 ≠ x) ∨ (0 ≤ r ∧ r < i ∧ M 754 r 0 = x))) ?_ ?_ ?_ n0 (by omega)
      · rintro i _ i0 i1 ⟨r, rfl, hk⟩
        unfold qf_X15_factOf_L5_b
        (try dsimp only)
        rw [nk, if_neg (show ¬ M 735 8 0 ≤ i by omega), if_pos ⟨i0, by omega⟩, w32_id (x := i + 1) (by omega) (by omega), (h_facts i i0 i1).1]
        by_cases g : M 754 i 0 = x
        · rw [if_pos g]
          exact qW_some ⟨i, rfl, Or.inr ⟨i0, by omega, g⟩⟩
        · rw [if_neg g]
          refine qW_some ⟨r, rfl, ?_⟩
          rcases hk with ⟨k1, k2⟩ | ⟨k1, k2, k3⟩
          · exact Or.inl ⟨k1, all_s k2 g⟩
          · exact Or.inr ⟨k1, by omega, k3⟩
      · rintro _ ⟨r, rfl, hk⟩
        unfold qf_X15_factOf_L5_b
        (try dsimp only)
        rw [nk, if_pos (Int.le_refl _)]
        exact qW_some ⟨r, rfl, hk⟩
      · exact ⟨-1, rfl, Or.inl ⟨rfl, all_0⟩⟩
    · rintro _ ⟨r, rfl, g⟩
      exact qW_some g
  obtain ⟨r, e1, h1⟩ := a
  obtain ⟨t, e2, h2⟩ := b
  have e : t = r := by
    rcases h1 with ⟨p1, p2⟩ | ⟨p1, p2, p3⟩
    · rcases h2 with ⟨q1, q2⟩ | ⟨q1, q2, q3⟩
      · omega
      · exact absurd q3 (p2 t q1 q2)
    · rcases h2 with ⟨q1, q2⟩ | ⟨q1, q2, q3⟩
      · exact absurd p3 (q2 r p1 p2)
      · by_cases a : t < r
        · exact absurd (q3.trans p3.symm) (h_factd t r q1 a p2)
        · by_cases b : r < t
          · exact absurd (p3.trans q3.symm) (h_factd r t p1 b q2)
          · omega
  exact ⟨r, e1, by rw [e2, e], h1⟩
/-- facts hold the same, and other cells stay -/
def FCT (M K A B : qm) : Prop := R_factn A B ∧ R_facts A B ∧ R_factd A B ∧ (∀ a i j, a ≠ 735 → a ≠ 754 → a ≠ 755 → A a i j = M a i j) ∧ (∀ i j, ¬ (i = 8 ∧ j = 0) → A 735 i j = M 735 i j) ∧ (∀ a i j, a ≠ 2184 → a ≠ 2186 → a ≠ 2187 → B a i j = K a i j) ∧ (∀ i j, ¬ (i = 2 ∧ j = 0) → B 2184 i j = K 2184 i j)
theorem setFact_b (h_factn : R_factn M K) (h_facts : R_facts M K) (h_factd : R_factd M K) (hv : -1000000000 ≤ v ∧ v ≤ 1000000000) (r : Int) (e1 : qf_X7_findFact 20000 x M = some r) (e2 : qf_X15_factOf 20000 x K = some r) (hr : (r = -1 ∧ ∀ k, 0 ≤ k → k < M 735 8 0 → M 754 k 0 ≠ x) ∨ (0 ≤ r ∧ r < M 735 8 0 ∧ M 754 r 0 = x)) (room : r = -1 → M 735 8 0 < 40) : ∃ w A B, qf_X7_setFact 20000 x v M = some (w, A) ∧ qf_X15_fact 20000 x v K = some (w, B) ∧ FCT M K A B := by
  unfold R_factn at h_factn
  unfold R_facts at h_facts
  unfold R_factd at h_factd
  obtain ⟨n0, n40, nk⟩ := h_factn
  unfold qf_X7_setFact qf_X15_fact qf_X15_fact_J26 qf_X15_fact_J49
  rcases hr with ⟨rfl, h2⟩ | ⟨h1, h2, h3⟩
  · have n4 := room rfl
    have c1 : (qw M 754 (M 735 8 0) 0 x) 735 8 0 = M 735 8 0 := qw_a (by decide)
    have c2 : (qw (qw M 754 (M 735 8 0) 0 x) 755 (M 735 8 0) 0 v) 735 8 0 = M 735 8 0 := (qw_a (by decide)).trans c1
    refine ⟨1000000000000, qw (qw (qw M 754 (M 735 8 0) 0 x) 755 (M 735 8 0) 0 v) 735 8 0 (M 735 8 0 + 1), qw (qw (qw K 2184 2 0 (M 735 8 0 + 1)) 2186 (M 735 8 0) 0 x) 2187 (M 735 8 0) 0 v, ?_, ?_, ?_⟩
    · refine qW_e ?_
      refine qW_eq e1 ?_
      (try dsimp only)
      rw [if_pos rfl, if_neg (by omega), if_pos ⟨n0, n4⟩]
      refine qW_bnd ?_
      (try dsimp only)
      rw [c1, if_pos ⟨n0, n4⟩]
      refine qW_bnd ?_
      (try dsimp only)
      rw [c2, w32_id (by omega) (by omega)]
      refine qW_bnd ?_
      exact qW_some rfl
    · refine qW_e ?_
      refine qW_eq e2 ?_
      (try dsimp only)
      rw [if_neg (by decide), if_neg (by decide), nk, w32_id (by omega) (by omega)]
      refine qW_bnd ?_
      (try dsimp only)
      rw [if_pos ⟨n0, n4⟩]
      refine qW_bnd ?_
      (try dsimp only)
      rw [if_pos ⟨n0, n4⟩]
      refine qW_bnd ?_
      exact qW_some rfl
    · unfold FCT R_factn R_facts R_factd
      simp only [qw_ap, false_and, true_and, and_true, and_false, and_self, if_false, if_true, reduceIte, Nat.reduceEqDiff, Int.reduceEq]
      refine ⟨⟨by omega, by omega⟩, ?_, ?_, ?_, ?_, ?_, ?_⟩
      · intro k k0 k1
        by_cases g : k = M 735 8 0
        · rw [if_pos g, if_pos g, if_pos g, if_pos g]
          exact ⟨rfl, rfl, hv⟩
        · rw [if_neg g, if_neg g, if_neg g, if_neg g]
          exact h_facts k k0 (by omega)
      · intro j k j0 jk k1
        rw [if_neg (show ¬ j = M 735 8 0 by omega)]
        by_cases g : k = M 735 8 0
        · rw [if_pos g]
          exact h2 j j0 (by omega)
        · rw [if_neg g]
          exact h_factd j k j0 jk (by omega)
      · intro a i j a1 a2 a3
        rw [if_neg (fun z => a1 z.1), if_neg (fun z => a3 z.1), if_neg (fun z => a2 z.1)]
      · intro i j hij
        rw [if_neg hij]
      · intro a i j a1 a2 a3
        rw [if_neg (fun z => a3 z.1), if_neg (fun z => a2 z.1), if_neg (fun z => a1 z.1)]
      · intro i j hij
        rw [if_neg hij]
  · have f := h_facts r h1 h2
    refine ⟨M 755 r 0, qw M 755 r 0 v, qw (qw K 2186 r 0 x) 2187 r 0 v, ?_, ?_, ?_⟩
    · refine qW_e ?_
      refine qW_eq e1 ?_
      (try dsimp only)
      rw [if_neg (by omega), if_pos ⟨h1, by omega⟩, if_pos ⟨h1, by omega⟩]
      refine qW_bnd ?_
      exact qW_some rfl
    · refine qW_e ?_
      refine qW_eq e2 ?_
      (try dsimp only)
      rw [if_pos h1, if_pos ⟨h1, by omega⟩, if_pos h1, if_pos ⟨h1, by omega⟩]
      refine qW_bnd ?_
      (try dsimp only)
      rw [if_pos ⟨h1, by omega⟩, f.2.1]
      refine qW_bnd ?_
      exact qW_some rfl
    · unfold FCT R_factn R_facts R_factd
      simp only [qw_ap, false_and, true_and, and_true, and_false, and_self, if_false, if_true, reduceIte, Nat.reduceEqDiff, Int.reduceEq]
      refine ⟨⟨n0, n40, nk⟩, ?_, h_factd, ?_, ?_, ?_, ?_⟩
      · intro k k0 k1
        have q := h_facts k k0 k1
        by_cases g : k = r
        · rw [if_pos g, if_pos g, if_pos g, g, h3]
          exact ⟨rfl, rfl, hv⟩
        · rw [if_neg g, if_neg g, if_neg g]
          exact q
      · intro a i j a1 a2 a3
        rw [if_neg (fun z => a3 z.1)]
      · intro i j hij
        first | trivial | rfl
      · intro a i j a1 a2 a3
        rw [if_neg (fun z => a3 z.1), if_neg (fun z => a2 z.1)]
      · intro i j hij
        first | trivial | rfl
theorem op_fact (h_factn : R_factn M K) (h_facts : R_facts M K) (h_factd : R_factd M K) (hx : i64r x) : oK2 cI (qf_L_fact 20000 x v M) (qf_X18_fact 20000 x v K) (fun M' K' => R_factn M' K' ∧ R_facts M' K' ∧ R_factd M' K') := by
  have s_factn := h_factn
  unfold R_factn at s_factn
  have eN := isFactName_r (M := M) hx
  have eM := isName_r (K := K) hx
  obtain ⟨r, e1, e2, hr⟩ := fact_both (x := x) h_factn h_facts h_factd
  have ef : ∃ t : Int, t = r ∧ qf_X15_factOf 20000 x (qw K 2156 0 0 0) = some t := by
    obtain ⟨t, f1, f2, _⟩ := fact_both (x := x) (M := M) (K := qw K 2156 0 0 0) (R_factn_x (M := M) (K := K) rfl rfl h_factn) (R_facts_x (M := M) (K := K) rfl (fun _ _ => rfl) (fun _ _ => rfl) (fun _ _ => rfl) (fun _ _ => rfl) h_facts) (R_factd_x (M := M) (K := K) rfl (fun _ _ => rfl) h_factd)
    exact ⟨t, Option.some.inj (f1.symm.trans e1), f2⟩
  obtain ⟨t, ht, f2⟩ := ef
  rw [ht] at f2
  unfold oK2
  by_cases g : yname x ∧ -1000000000 ≤ v ∧ v ≤ 1000000000
  · obtain ⟨g1, g2⟩ := g
    rw [b01_t g1] at eN eM
    by_cases room : r = -1 → M 735 8 0 < 40
    · obtain ⟨w, A, B, eA, eB, hT⟩ := setFact_b (M := M) (K := qw K 2156 0 0 0) (R_factn_x (M := M) (K := K) rfl rfl h_factn) (R_facts_x (M := M) (K := K) rfl (fun _ _ => rfl) (fun _ _ => rfl) (fun _ _ => rfl) (fun _ _ => rfl) h_facts) (R_factd_x (M := M) (K := K) rfl (fun _ _ => rfl) h_factd) g2 r e1 f2 hr room
      have hB : B 2156 0 0 = 0 := hT.2.2.2.2.2.1 2156 0 0 (by decide) (by decide) (by decide)
      unfold qf_L_fact qf_X11_fact qf_X11_fact_J22 qf_X11_fact_J23 qf_X7_hasRoomForFact qf_X18_fact qf_X18_fact_J26 qf_X18_fact_J27 qf_X18_hasRoom
      repeat' first
        | ((with_reducible refine qW_eq eN ?_); (try dsimp only))
        | ((with_reducible refine qW_eq eM ?_); (try dsimp only))
        | ((with_reducible refine qW_eq e1 ?_); (try dsimp only))
        | ((with_reducible refine qW_eq e2 ?_); (try dsimp only))
        | ((with_reducible refine qW_eq eA ?_); (try dsimp only))
        | ((with_reducible refine qW_eq eB ?_); (try dsimp only))
        | with_reducible refine qW_pos (Or.inl trivial) ?_
        | with_reducible refine qW_pos (Or.inr trivial) ?_
        | with_reducible refine qW_within (fun _ => ?_) (fun _ _ => ?_)
        | with_reducible refine qW_isIn (fun _ => ?_) (fun _ _ => ?_)
        | with_reducible refine qW_na (fun _ => ?_) (fun _ => ?_)
        | with_reducible refine qW_ns (fun _ => ?_) (fun _ => ?_)
        | (with_reducible refine qW_goes (fun _ => ?_) (fun _ _ => ?_) (fun _ _ => ?_) <;> (try dsimp only) <;> (try simp only [qw_ap, qfl1_ap, qfl2_ap, qcp1_ap, qcp2_ap, false_and, true_and, and_true, and_false, and_self, if_false, if_true, reduceIte, Nat.reduceEqDiff, Int.reduceEq, Int.reduceNeg]))
        | (with_reducible refine qW_stays (by omega) (fun _ => ?_) (fun _ => ?_) <;> (try dsimp only) <;> (try simp only [qw_ap, qfl1_ap, qfl2_ap, qcp1_ap, qcp2_ap, false_and, true_and, and_true, and_false, and_self, if_false, if_true, reduceIte, Nat.reduceEqDiff, Int.reduceEq, Int.reduceNeg]))
        | (exfalso; omega)
        | with_reducible refine qW_bind ?_
        | (with_reducible refine qW_bnd ?_; try simp only [qw_ap, qfl1_ap, qfl2_ap, qcp1_ap, qcp2_ap, false_and, true_and, and_true, and_false, and_self, if_false, if_true, reduceIte, Nat.reduceEqDiff, Int.reduceEq, Int.reduceNeg])
        | (with_reducible refine qW_some ?_; (try dsimp only); try simp only [qw_ap, qfl1_ap, qfl2_ap, qcp1_ap, qcp2_ap, false_and, true_and, and_true, and_false, and_self, if_false, if_true, reduceIte, Nat.reduceEqDiff, Int.reduceEq, Int.reduceNeg])
        | ((with_reducible refine qW_no ?_); omega)
        | with_reducible refine qW_pos rfl ?_
        | ((with_reducible refine qW_pos ?_ ?_); omega)
        | ((with_reducible refine qW_neg ?_ ?_); (first | omega | decide))
        | with_reducible refine qW_ite (fun _ => ?_) (fun _ => ?_)
        | dsimp only
      all_goals first
        | exact ⟨hB, fun _ => rfl, hT.1, hT.2.1, hT.2.2.1⟩
        | done
    · unfold qf_L_fact qf_X11_fact qf_X11_fact_J22 qf_X11_fact_J23 qf_X7_hasRoomForFact qf_X18_fact qf_X18_fact_J26 qf_X18_fact_J27 qf_X18_hasRoom
      repeat' first
        | ((with_reducible refine qW_eq eN ?_); (try dsimp only))
        | ((with_reducible refine qW_eq eM ?_); (try dsimp only))
        | ((with_reducible refine qW_eq e1 ?_); (try dsimp only))
        | ((with_reducible refine qW_eq e2 ?_); (try dsimp only))
        | with_reducible refine qW_pos (Or.inl trivial) ?_
        | with_reducible refine qW_pos (Or.inr trivial) ?_
        | with_reducible refine qW_within (fun _ => ?_) (fun _ _ => ?_)
        | with_reducible refine qW_isIn (fun _ => ?_) (fun _ _ => ?_)
        | with_reducible refine qW_na (fun _ => ?_) (fun _ => ?_)
        | with_reducible refine qW_ns (fun _ => ?_) (fun _ => ?_)
        | (with_reducible refine qW_goes (fun _ => ?_) (fun _ _ => ?_) (fun _ _ => ?_) <;> (try dsimp only) <;> (try simp only [qw_ap, qfl1_ap, qfl2_ap, qcp1_ap, qcp2_ap, false_and, true_and, and_true, and_false, and_self, if_false, if_true, reduceIte, Nat.reduceEqDiff, Int.reduceEq, Int.reduceNeg]))
        | (with_reducible refine qW_stays (by omega) (fun _ => ?_) (fun _ => ?_) <;> (try dsimp only) <;> (try simp only [qw_ap, qfl1_ap, qfl2_ap, qcp1_ap, qcp2_ap, false_and, true_and, and_true, and_false, and_self, if_false, if_true, reduceIte, Nat.reduceEqDiff, Int.reduceEq, Int.reduceNeg]))
        | (exfalso; omega)
        | with_reducible refine qW_bind ?_
        | (with_reducible refine qW_bnd ?_; try simp only [qw_ap, qfl1_ap, qfl2_ap, qcp1_ap, qcp2_ap, false_and, true_and, and_true, and_false, and_self, if_false, if_true, reduceIte, Nat.reduceEqDiff, Int.reduceEq, Int.reduceNeg])
        | (with_reducible refine qW_some ?_; (try dsimp only); try simp only [qw_ap, qfl1_ap, qfl2_ap, qcp1_ap, qcp2_ap, false_and, true_and, and_true, and_false, and_self, if_false, if_true, reduceIte, Nat.reduceEqDiff, Int.reduceEq, Int.reduceNeg])
        | ((with_reducible refine qW_no ?_); omega)
        | with_reducible refine qW_pos rfl ?_
        | ((with_reducible refine qW_pos ?_ ?_); omega)
        | ((with_reducible refine qW_neg ?_ ?_); (first | omega | decide))
        | with_reducible refine qW_ite (fun _ => ?_) (fun _ => ?_)
        | dsimp only
      all_goals first
        | exact ⟨fun x => absurd x (by decide), R_factn_x (M := M) (K := K) rfl rfl h_factn, R_facts_x (M := M) (K := K) rfl (fun _ _ => rfl) (fun _ _ => rfl) (fun _ _ => rfl) (fun _ _ => rfl) h_facts, R_factd_x (M := M) (K := K) rfl (fun _ _ => rfl) h_factd⟩
        | done
  · rcases b01_o (p := yname x) with ⟨gb, gy⟩ | ⟨gb, gy⟩
    · rw [gb] at eN eM
      have gv : ¬ (-1000000000 ≤ v ∧ v ≤ 1000000000) := fun z => g ⟨gy, z⟩
      clear g
      unfold qf_L_fact qf_X11_fact qf_X11_fact_J22 qf_X11_fact_J23 qf_X7_hasRoomForFact qf_X18_fact qf_X18_fact_J26 qf_X18_fact_J27 qf_X18_hasRoom
      repeat' first
        | ((with_reducible refine qW_eq eN ?_); (try dsimp only))
        | ((with_reducible refine qW_eq eM ?_); (try dsimp only))
        | ((with_reducible refine qW_eq e1 ?_); (try dsimp only))
        | ((with_reducible refine qW_eq e2 ?_); (try dsimp only))
        | with_reducible refine qW_pos (Or.inl trivial) ?_
        | with_reducible refine qW_pos (Or.inr trivial) ?_
        | with_reducible refine qW_within (fun _ => ?_) (fun _ _ => ?_)
        | with_reducible refine qW_isIn (fun _ => ?_) (fun _ _ => ?_)
        | with_reducible refine qW_na (fun _ => ?_) (fun _ => ?_)
        | with_reducible refine qW_ns (fun _ => ?_) (fun _ => ?_)
        | (with_reducible refine qW_goes (fun _ => ?_) (fun _ _ => ?_) (fun _ _ => ?_) <;> (try dsimp only) <;> (try simp only [qw_ap, qfl1_ap, qfl2_ap, qcp1_ap, qcp2_ap, false_and, true_and, and_true, and_false, and_self, if_false, if_true, reduceIte, Nat.reduceEqDiff, Int.reduceEq, Int.reduceNeg]))
        | (with_reducible refine qW_stays (by omega) (fun _ => ?_) (fun _ => ?_) <;> (try dsimp only) <;> (try simp only [qw_ap, qfl1_ap, qfl2_ap, qcp1_ap, qcp2_ap, false_and, true_and, and_true, and_false, and_self, if_false, if_true, reduceIte, Nat.reduceEqDiff, Int.reduceEq, Int.reduceNeg]))
        | (exfalso; omega)
        | with_reducible refine qW_bind ?_
        | (with_reducible refine qW_bnd ?_; try simp only [qw_ap, qfl1_ap, qfl2_ap, qcp1_ap, qcp2_ap, false_and, true_and, and_true, and_false, and_self, if_false, if_true, reduceIte, Nat.reduceEqDiff, Int.reduceEq, Int.reduceNeg])
        | (with_reducible refine qW_some ?_; (try dsimp only); try simp only [qw_ap, qfl1_ap, qfl2_ap, qcp1_ap, qcp2_ap, false_and, true_and, and_true, and_false, and_self, if_false, if_true, reduceIte, Nat.reduceEqDiff, Int.reduceEq, Int.reduceNeg])
        | ((with_reducible refine qW_no ?_); omega)
        | with_reducible refine qW_pos rfl ?_
        | ((with_reducible refine qW_pos ?_ ?_); omega)
        | ((with_reducible refine qW_neg ?_ ?_); (first | omega | decide))
        | with_reducible refine qW_ite (fun _ => ?_) (fun _ => ?_)
        | dsimp only
      all_goals first
        | exact ⟨fun x => absurd x (by decide), R_factn_x (M := M) (K := K) rfl rfl h_factn, R_facts_x (M := M) (K := K) rfl (fun _ _ => rfl) (fun _ _ => rfl) (fun _ _ => rfl) (fun _ _ => rfl) h_facts, R_factd_x (M := M) (K := K) rfl (fun _ _ => rfl) h_factd⟩
        | done
    · rw [gb] at eN eM
      unfold qf_L_fact qf_X11_fact qf_X11_fact_J22 qf_X11_fact_J23 qf_X7_hasRoomForFact qf_X18_fact qf_X18_fact_J26 qf_X18_fact_J27 qf_X18_hasRoom
      repeat' first
        | ((with_reducible refine qW_eq eN ?_); (try dsimp only))
        | ((with_reducible refine qW_eq eM ?_); (try dsimp only))
        | ((with_reducible refine qW_eq e1 ?_); (try dsimp only))
        | ((with_reducible refine qW_eq e2 ?_); (try dsimp only))
        | with_reducible refine qW_pos (Or.inl trivial) ?_
        | with_reducible refine qW_pos (Or.inr trivial) ?_
        | with_reducible refine qW_within (fun _ => ?_) (fun _ _ => ?_)
        | with_reducible refine qW_isIn (fun _ => ?_) (fun _ _ => ?_)
        | with_reducible refine qW_na (fun _ => ?_) (fun _ => ?_)
        | with_reducible refine qW_ns (fun _ => ?_) (fun _ => ?_)
        | (with_reducible refine qW_goes (fun _ => ?_) (fun _ _ => ?_) (fun _ _ => ?_) <;> (try dsimp only) <;> (try simp only [qw_ap, qfl1_ap, qfl2_ap, qcp1_ap, qcp2_ap, false_and, true_and, and_true, and_false, and_self, if_false, if_true, reduceIte, Nat.reduceEqDiff, Int.reduceEq, Int.reduceNeg]))
        | (with_reducible refine qW_stays (by omega) (fun _ => ?_) (fun _ => ?_) <;> (try dsimp only) <;> (try simp only [qw_ap, qfl1_ap, qfl2_ap, qcp1_ap, qcp2_ap, false_and, true_and, and_true, and_false, and_self, if_false, if_true, reduceIte, Nat.reduceEqDiff, Int.reduceEq, Int.reduceNeg]))
        | (exfalso; omega)
        | with_reducible refine qW_bind ?_
        | (with_reducible refine qW_bnd ?_; try simp only [qw_ap, qfl1_ap, qfl2_ap, qcp1_ap, qcp2_ap, false_and, true_and, and_true, and_false, and_self, if_false, if_true, reduceIte, Nat.reduceEqDiff, Int.reduceEq, Int.reduceNeg])
        | (with_reducible refine qW_some ?_; (try dsimp only); try simp only [qw_ap, qfl1_ap, qfl2_ap, qcp1_ap, qcp2_ap, false_and, true_and, and_true, and_false, and_self, if_false, if_true, reduceIte, Nat.reduceEqDiff, Int.reduceEq, Int.reduceNeg])
        | ((with_reducible refine qW_no ?_); omega)
        | with_reducible refine qW_pos rfl ?_
        | ((with_reducible refine qW_pos ?_ ?_); omega)
        | ((with_reducible refine qW_neg ?_ ?_); (first | omega | decide))
        | with_reducible refine qW_ite (fun _ => ?_) (fun _ => ?_)
        | dsimp only
      all_goals first
        | exact ⟨fun x => absurd x (by decide), R_factn_x (M := M) (K := K) rfl rfl h_factn, R_facts_x (M := M) (K := K) rfl (fun _ _ => rfl) (fun _ _ => rfl) (fun _ _ => rfl) (fun _ _ => rfl) h_facts, R_factd_x (M := M) (K := K) rfl (fun _ _ => rfl) h_factd⟩
        | done
end FB
