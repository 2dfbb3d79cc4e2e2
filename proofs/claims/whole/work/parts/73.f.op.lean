/-! ===== smoke in a cell more ===== -/
def SMK (M K : qm) : Prop := R_smoke M K ∧ R_smoky M K ∧ R_sroom M K
def asC (M : qm) (c : Int) : qm := if 0 ≤ (M 56 c 0) ∧ (M 56 c 0) < 40 then qw (qw (qw M 757 c 0 1) 756 4 0 ((M 756 4 0) + 1)) 758 (M 56 c 0) 0 ((M 758 (M 56 c 0) 0) + 1) else qw (qw M 757 c 0 1) 756 4 0 ((M 756 4 0) + 1)
section SM
variable {M K : qm} {c x y x1 x2 v : Int}
theorem smk_b (h : SMK M K) : 0 ≤ (M 756 4 0) ∧ (M 756 4 0) ≤ 576 ∧ ∀ r, 0 ≤ r → r < 40 → 0 ≤ (M 758 r 0) ∧ (M 758 r 0) ≤ 576 := by
  obtain ⟨h1, h2, h3⟩ := h
  unfold R_smoky at h2
  refine ⟨?_, ?_, fun r r0 r1 => ?_⟩
  · rw [h2]
    exact (sI_b (g := fun c => if (K 2326 c 0) = 0 then 0 else 1) (by decide) (fun k _ _ => by (try dsimp only); split <;> decide)).1
  · rw [h2]
    exact (sI_b (g := fun c => if (K 2326 c 0) = 0 then 0 else 1) (by decide) (fun k _ _ => by (try dsimp only); split <;> decide)).2
  · rw [h3 r r0 r1]
    exact sI_b (g := fun c => if (K 2326 c 0) ≠ 0 ∧ (K 2329 c 0) = r then 1 else 0) (by decide) (fun k _ _ => by (try dsimp only); split <;> decide)
theorem addSmoke_r (h : SMK M K) (c0 : 0 ≤ c) (c1 : c < 576) (hs : (M 757 c 0) = 0) : qf_X10_addSmoke 20000 c M = some (1, asC M c) := by
  obtain ⟨b1, b2, b3⟩ := smk_b h
  have hc : 0 ≤ c ∧ c < 576 := ⟨c0, c1⟩
  have e1 : w32 ((M 756 4 0) + 1) = (M 756 4 0) + 1 := w32_id (by omega) (by omega)
  refine qW_e ?_
  unfold qf_X10_addSmoke asC
  rw [if_pos hc, if_pos hs, if_pos hc]
  refine qW_bnd (qW_bnd ?_)
  rw [if_pos hc]
  show qW (if (M 56 c 0) < 0 then some (1, qw (qw M 757 c 0 1) 756 4 0 (w32 ((M 756 4 0) + 1))) else if 40 ≤ (M 56 c 0) then some (1, qw (qw M 757 c 0 1) 756 4 0 (w32 ((M 756 4 0) + 1))) else if 0 ≤ (M 56 c 0) ∧ (M 56 c 0) < 40 then if 0 ≤ (M 56 c 0) ∧ (M 56 c 0) < 40 then some (1, qw (qw (qw M 757 c 0 1) 756 4 0 (w32 ((M 756 4 0) + 1))) 758 (M 56 c 0) 0 (w32 ((M 758 (M 56 c 0) 0) + 1))) else none else none) _
  rw [e1]
  by_cases g1 : (M 56 c 0) < 0
  · rw [if_pos g1, if_neg (show ¬ (0 ≤ (M 56 c 0) ∧ (M 56 c 0) < 40) by omega)]
    exact qW_some rfl
  · rw [if_neg g1]
    by_cases g2 : 40 ≤ (M 56 c 0)
    · rw [if_pos g2, if_neg (show ¬ (0 ≤ (M 56 c 0) ∧ (M 56 c 0) < 40) by omega)]
      exact qW_some rfl
    · have g3 : 0 ≤ (M 56 c 0) ∧ (M 56 c 0) < 40 := by omega
      have q := b3 _ g3.1 g3.2
      rw [if_neg g2, if_pos g3, if_pos g3, if_pos g3, w32_id (by omega) (by omega)]
      exact qW_some rfl
theorem addSmoke_n (c0 : 0 ≤ c) (c1 : c < 576) (hs : (M 757 c 0) ≠ 0) : qf_X10_addSmoke 20000 c M = some (0, M) := by
  unfold qf_X10_addSmoke
  rw [if_pos ⟨c0, c1⟩, if_neg hs]
theorem asC_o {b : Nat} {i j : Int} (h1 : b ≠ 757) (h2 : ¬ (b = 756 ∧ i = 4)) (h3 : b ≠ 758) : (asC M c) b i j = M b i j := by
  unfold asC
  split
  · rw [qw_a h3, qw_ap, if_neg (by omega), qw_a h1]
  · rw [qw_ap, if_neg (by omega), qw_a h1]
theorem smk_add (h : SMK M K) (x0 : 0 ≤ x) (x1 : x < 24) (y0 : 0 ≤ y) (y1 : y < 24) (hs : (K 2326 (24 * y + x) 0) = 0) (ho : (K 2329 (24 * y + x) 0) = (M 56 (24 * x + y) 0)) : SMK (asC M (24 * x + y)) (qw K 2326 (24 * y + x) 0 1) := by
  obtain ⟨h1, h2, h3⟩ := h
  have s1 : ∀ k, (qw K 2326 (24 * y + x) 0 1) 2326 k 0 = if k = 24 * y + x then 1 else (K 2326 k 0) := by
    intro k
    rw [qw_ap]
    by_cases e : k = 24 * y + x
    · rw [if_pos ⟨rfl, e, rfl⟩, if_pos e]
    · rw [if_neg (fun z => e z.2.1), if_neg e]
  have s2 : ∀ k, (qw K 2326 (24 * y + x) 0 1) 2329 k 0 = (K 2329 k 0) := fun k => qw_a (by decide)
  refine ⟨?_, ?_, ?_⟩
  · intro a b a0 a1 b0 b1
    have q := h1 a b a0 a1 b0 b1
    rw [s1]
    have t : (asC M (24 * x + y)) 757 (24 * a + b) 0 = if 24 * a + b = 24 * x + y then 1 else (M 757 (24 * a + b) 0) := by
      unfold asC
      split
      · rw [qw_a (by decide), qw_a (by decide), qw_ap]
        by_cases e : 24 * a + b = 24 * x + y
        · rw [if_pos ⟨rfl, e, rfl⟩, if_pos e]
        · rw [if_neg (fun z => e z.2.1), if_neg e]
      · rw [qw_a (by decide), qw_ap]
        by_cases e : 24 * a + b = 24 * x + y
        · rw [if_pos ⟨rfl, e, rfl⟩, if_pos e]
        · rw [if_neg (fun z => e z.2.1), if_neg e]
    rw [t]
    by_cases e : 24 * b + a = 24 * y + x
    · rw [if_pos e, if_pos (by omega)]
      exact ⟨rfl, Or.inr rfl⟩
    · rw [if_neg e, if_neg (by omega)]
      exact q
  · unfold R_smoky at h2 ⊢
    have t : (asC M (24 * x + y)) 756 4 0 = (M 756 4 0) + 1 := by
      unfold asC
      split
      · rw [qw_a (by decide), qw_s]
      · rw [qw_s]
    rw [t, h2]
    have u := sI_u (f := fun c => if (K 2326 c 0) = 0 then 0 else 1) (g := fun c => if (qw K 2326 (24 * y + x) 0 1) 2326 c 0 = 0 then 0 else 1) (c := 24 * y + x) (n := 576) (by omega) (by omega) (fun k hk => by (try dsimp only); rw [s1, if_neg hk])
    rw [u]
    (try dsimp only)
    rw [s1, if_pos rfl, if_pos hs, if_neg (by decide)]
    omega
  · intro r r0 r1
    have t : (asC M (24 * x + y)) 758 r 0 = if r = (M 56 (24 * x + y) 0) then (M 758 r 0) + 1 else (M 758 r 0) := by
      unfold asC
      by_cases g : 0 ≤ (M 56 (24 * x + y) 0) ∧ (M 56 (24 * x + y) 0) < 40
      · rw [if_pos g, qw_ap]
        by_cases e : r = (M 56 (24 * x + y) 0)
        · rw [if_pos ⟨rfl, e, rfl⟩, if_pos e, e]
        · rw [if_neg (fun z => e z.2.1), if_neg e, qw_a (by decide), qw_a (by decide)]
      · rw [if_neg g, if_neg (by omega), qw_a (by decide), qw_a (by decide)]
    have u := sI_u (f := fun c => if (K 2326 c 0) ≠ 0 ∧ (K 2329 c 0) = r then 1 else 0) (g := fun c => if (qw K 2326 (24 * y + x) 0 1) 2326 c 0 ≠ 0 ∧ (qw K 2326 (24 * y + x) 0 1) 2329 c 0 = r then 1 else 0) (c := 24 * y + x) (n := 576) (by omega) (by omega) (fun k hk => by (try dsimp only); rw [s1, if_neg hk, s2])
    rw [t, u, ← h3 r r0 r1]
    (try dsimp only)
    rw [s1, s2, if_pos rfl, ho]
    by_cases e : r = (M 56 (24 * x + y) 0)
    · rw [if_pos e, if_pos ⟨by decide, e.symm⟩, if_neg (fun z => z.1 hs)]
      omega
    · rw [if_neg e, if_neg (fun z => e z.2.symm), if_neg (fun z => z.1 hs)]
      omega
theorem SMK_K (h : SMK M K) : SMK M (qw K 2156 0 0 v) := h
theorem SMK_A (h : SMK M K) : SMK (qw M 2332 0 0 v) K := h
theorem op_fire (h_built : R_built M K) (h_spaceof : R_spaceof M K) (h_smoke0 : R_smoke0 M K) (h : SMK M K) : oK2 cB (qf_L_fire 20000 x1 x2 M) (qf_X18_fire 20000 x1 x2 K) (fun M' K' => SMK M' K' ∧ R_smoke0 M' K') := by
  have s_built := h_built
  unfold R_built at s_built
  unfold oK2
  by_cases hx : (0 ≤ x1 ∧ x1 < 24) ∧ 0 ≤ x2 ∧ x2 < 24
  · have eN : w32 (w32 (x1 * 24) + x2) = 24 * x1 + x2 := by rw [w32_id (x := x1 * 24) (by omega) (by omega), w32_id (by omega) (by omega)]; omega
    have eR : w32 (w32 (24 * x2) + x1) = 24 * x2 + x1 := by rw [w32_id (x := 24 * x2) (by omega) (by omega), w32_id (by omega) (by omega)]
    have qs := h.1 x1 x2 hx.1.1 hx.1.2 hx.2.1 hx.2.2
    by_cases hb : (M 6 11 0) = 0
    · unfold qf_L_fire qf_L_fire_J16 qf_X11_fire qf_X2_cellNumber qf_X11_isCell qf_X18_fire qf_X18_fire_J37 qf_X18_isCell
      repeat' first
        | with_reducible refine qW_pos (Or.inl trivial) ?_
        | with_reducible refine qW_pos (Or.inr trivial) ?_
        | with_reducible refine qW_within (fun _ => ?_) (fun _ _ => ?_)
        | with_reducible refine qW_isIn (fun _ => ?_) (fun _ _ => ?_)
        | with_reducible refine qW_na (fun _ => ?_) (fun _ => ?_)
        | with_reducible refine qW_ns (fun _ => ?_) (fun _ => ?_)
        | (with_reducible refine qW_goes (fun _ => ?_) (fun _ _ => ?_) (fun _ _ => ?_) <;> (try dsimp only) <;> (try simp only [qw_ap, qfl1_ap, qfl2_ap, qcp1_ap, qcp2_ap, false_and, true_and, and_true, and_false, and_self, if_false, if_true, reduceIte, Nat.reduceEqDiff, Int.reduceEq, Int.reduceNeg]))
        | (with_reducible refine qW_stays (by omega) (fun _ => ?_) (fun _ => ?_) <;> (try dsimp only) <;> (try simp only [qw_ap, qfl1_ap, qfl2_ap, qcp1_ap, qcp2_ap, false_and, true_and, and_true, and_false, and_self, if_false, if_true, reduceIte, Nat.reduceEqDiff, Int.reduceEq, Int.reduceNeg]))
        | (exfalso; omega)
        | with_reducible refine qW_bind ?_
        | (with_reducible refine qW_bnd ?_; try simp only [qw_ap, qfl1_ap, qfl2_ap, qcp1_ap, qcp2_ap, false_and, true_and, and_true, and_false, and_self, if_false, if_true, reduceIte, Nat.reduceEqDiff, Int.reduceEq, Int.reduceNeg])
        | (with_reducible refine qW_some ?_; (try dsimp only); try simp only [qw_ap, qfl1_ap, qfl2_ap, qcp1_ap, qcp2_ap, false_and, true_and, and_true, and_false, and_self, if_false, if_true, reduceIte, Nat.reduceEqDiff, Int.reduceEq, Int.reduceNeg])
        | ((with_reducible refine qW_no ?_); omega)
        | with_reducible refine qW_pos rfl ?_
        | ((with_reducible refine qW_pos ?_ ?_); omega)
        | ((with_reducible refine qW_neg ?_ ?_); (first | omega | decide))
        | with_reducible refine qW_ite (fun _ => ?_) (fun _ => ?_)
        | dsimp only
      all_goals exact ⟨fun x => absurd x (by decide), SMK_K h, R_smoke0_x (M := M) (K := K) rfl (fun _ _ => rfl) h_smoke0⟩
    · have qo := h_spaceof hb x1 x2 hx.1.1 hx.1.2 hx.2.1 hx.2.2
      by_cases g : (K 2326 (24 * x2 + x1) 0) = 0
      · have ea := addSmoke_r (c := 24 * x1 + x2) h (by omega) (by omega) (by omega)
        have add := smk_add (SMK_K (v := 0) h) hx.1.1 hx.1.2 hx.2.1 hx.2.2 g qo.1
        unfold qf_L_fire qf_L_fire_J16 qf_X11_fire qf_X2_cellNumber qf_X11_isCell qf_X18_fire qf_X18_fire_J37 qf_X18_isCell
        simp only [eN, eR]
        repeat' first
          | ((with_reducible refine qW_eq ea ?_); (try dsimp only))
          | with_reducible refine qW_pos (Or.inl trivial) ?_
          | with_reducible refine qW_pos (Or.inr trivial) ?_
          | with_reducible refine qW_within (fun _ => ?_) (fun _ _ => ?_)
          | with_reducible refine qW_isIn (fun _ => ?_) (fun _ _ => ?_)
          | with_reducible refine qW_na (fun _ => ?_) (fun _ => ?_)
          | with_reducible refine qW_ns (fun _ => ?_) (fun _ => ?_)
          | (with_reducible refine qW_goes (fun _ => ?_) (fun _ _ => ?_) (fun _ _ => ?_) <;> (try dsimp only) <;> (try simp only [qw_ap, qfl1_ap, qfl2_ap, qcp1_ap, qcp2_ap, false_and, true_and, and_true, and_false, and_self, if_false, if_true, reduceIte, Nat.reduceEqDiff, Int.reduceEq, Int.reduceNeg]))
          | (with_reducible refine qW_stays (by omega) (fun _ => ?_) (fun _ => ?_) <;> (try dsimp only) <;> (try simp only [qw_ap, qfl1_ap, qfl2_ap, qcp1_ap, qcp2_ap, false_and, true_and, and_true, and_false, and_self, if_false, if_true, reduceIte, Nat.reduceEqDiff, Int.reduceEq, Int.reduceNeg]))
          | (exfalso; omega)
          | with_reducible refine qW_bind ?_
          | (with_reducible refine qW_bnd ?_; try simp only [qw_ap, qfl1_ap, qfl2_ap, qcp1_ap, qcp2_ap, false_and, true_and, and_true, and_false, and_self, if_false, if_true, reduceIte, Nat.reduceEqDiff, Int.reduceEq, Int.reduceNeg])
          | (with_reducible refine qW_some ?_; (try dsimp only); try simp only [qw_ap, qfl1_ap, qfl2_ap, qcp1_ap, qcp2_ap, false_and, true_and, and_true, and_false, and_self, if_false, if_true, reduceIte, Nat.reduceEqDiff, Int.reduceEq, Int.reduceNeg])
          | ((with_reducible refine qW_no ?_); omega)
          | with_reducible refine qW_pos rfl ?_
          | ((with_reducible refine qW_pos ?_ ?_); omega)
          | ((with_reducible refine qW_neg ?_ ?_); (first | omega | decide))
          | with_reducible refine qW_ite (fun _ => ?_) (fun _ => ?_)
          | dsimp only
        all_goals first
          | exact ⟨fun x => absurd x (by decide), SMK_K h, R_smoke0_x (M := M) (K := K) rfl (fun _ _ => rfl) h_smoke0⟩
          | exact ⟨fun _ => rfl, SMK_A add, fun x => absurd ((asC_o (by decide) (by decide) (by decide)).symm.trans x) hb⟩
      · have ea := addSmoke_n (M := M) (c := 24 * x1 + x2) (by omega) (by omega) (by omega)
        have es : qw (qw K 2156 0 0 0) 2326 (24 * x2 + x1) 0 1 = qw K 2156 0 0 0 := by
          have := qw_self (M := qw K 2156 0 0 0) (a := 2326) (i := 24 * x2 + x1) (k := 0)
          rw [show (qw K 2156 0 0 0) 2326 (24 * x2 + x1) 0 = 1 by show (K 2326 (24 * x2 + x1) 0) = 1; omega] at this
          exact this
        unfold qf_L_fire qf_L_fire_J16 qf_X11_fire qf_X2_cellNumber qf_X11_isCell qf_X18_fire qf_X18_fire_J37 qf_X18_isCell
        simp only [eN, eR]
        repeat' first
          | ((with_reducible refine qW_eq ea ?_); (try dsimp only))
          | with_reducible refine qW_pos (Or.inl trivial) ?_
          | with_reducible refine qW_pos (Or.inr trivial) ?_
          | with_reducible refine qW_within (fun _ => ?_) (fun _ _ => ?_)
          | with_reducible refine qW_isIn (fun _ => ?_) (fun _ _ => ?_)
          | with_reducible refine qW_na (fun _ => ?_) (fun _ => ?_)
          | with_reducible refine qW_ns (fun _ => ?_) (fun _ => ?_)
          | (with_reducible refine qW_goes (fun _ => ?_) (fun _ _ => ?_) (fun _ _ => ?_) <;> (try dsimp only) <;> (try simp only [qw_ap, qfl1_ap, qfl2_ap, qcp1_ap, qcp2_ap, false_and, true_and, and_true, and_false, and_self, if_false, if_true, reduceIte, Nat.reduceEqDiff, Int.reduceEq, Int.reduceNeg]))
          | (with_reducible refine qW_stays (by omega) (fun _ => ?_) (fun _ => ?_) <;> (try dsimp only) <;> (try simp only [qw_ap, qfl1_ap, qfl2_ap, qcp1_ap, qcp2_ap, false_and, true_and, and_true, and_false, and_self, if_false, if_true, reduceIte, Nat.reduceEqDiff, Int.reduceEq, Int.reduceNeg]))
          | (exfalso; omega)
          | with_reducible refine qW_bind ?_
          | (with_reducible refine qW_bnd ?_; try simp only [qw_ap, qfl1_ap, qfl2_ap, qcp1_ap, qcp2_ap, false_and, true_and, and_true, and_false, and_self, if_false, if_true, reduceIte, Nat.reduceEqDiff, Int.reduceEq, Int.reduceNeg])
          | (with_reducible refine qW_some ?_; (try dsimp only); try simp only [qw_ap, qfl1_ap, qfl2_ap, qcp1_ap, qcp2_ap, false_and, true_and, and_true, and_false, and_self, if_false, if_true, reduceIte, Nat.reduceEqDiff, Int.reduceEq, Int.reduceNeg])
          | ((with_reducible refine qW_no ?_); omega)
          | with_reducible refine qW_pos rfl ?_
          | ((with_reducible refine qW_pos ?_ ?_); omega)
          | ((with_reducible refine qW_neg ?_ ?_); (first | omega | decide))
          | with_reducible refine qW_ite (fun _ => ?_) (fun _ => ?_)
          | dsimp only
        all_goals first
          | exact ⟨fun x => absurd x (by decide), SMK_K h, R_smoke0_x (M := M) (K := K) rfl (fun _ _ => rfl) h_smoke0⟩
          | (rw [es]; exact ⟨fun _ => rfl, SMK_A (SMK_K h), fun x => absurd x hb⟩)
  · unfold qf_L_fire qf_L_fire_J16 qf_X11_fire qf_X2_cellNumber qf_X11_isCell qf_X18_fire qf_X18_fire_J37 qf_X18_isCell
    repeat' first
      | with_reducible refine qW_pos (Or.inl trivial) ?_
      | with_reducible refine qW_pos (Or.inr trivial) ?_
      | with_reducible refine qW_within (fun _ => ?_) (fun _ _ => ?_)
      | with_reducible refine qW_isIn (fun _ => ?_) (fun _ _ => ?_)
      | with_reducible refine qW_na (fun _ => ?_) (fun _ => ?_)
      | with_reducible refine qW_ns (fun _ => ?_) (fun _ => ?_)
      | (with_reducible refine qW_goes (fun _ => ?_) (fun _ _ => ?_) (fun _ _ => ?_) <;> (try dsimp only) <;> (try simp only [qw_ap, qfl1_ap, qfl2_ap, qcp1_ap, qcp2_ap, false_and, true_and, and_true, and_false, and_self, if_false, if_true, reduceIte, Nat.reduceEqDiff, Int.reduceEq, Int.reduceNeg]))
      | (with_reducible refine qW_stays (by omega) (fun _ => ?_) (fun _ => ?_) <;> (try dsimp only) <;> (try simp only [qw_ap, qfl1_ap, qfl2_ap, qcp1_ap, qcp2_ap, false_and, true_and, and_true, and_false, and_self, if_false, if_true, reduceIte, Nat.reduceEqDiff, Int.reduceEq, Int.reduceNeg]))
      | (exfalso; omega)
      | with_reducible refine qW_bind ?_
      | (with_reducible refine qW_bnd ?_; try simp only [qw_ap, qfl1_ap, qfl2_ap, qcp1_ap, qcp2_ap, false_and, true_and, and_true, and_false, and_self, if_false, if_true, reduceIte, Nat.reduceEqDiff, Int.reduceEq, Int.reduceNeg])
      | (with_reducible refine qW_some ?_; (try dsimp only); try simp only [qw_ap, qfl1_ap, qfl2_ap, qcp1_ap, qcp2_ap, false_and, true_and, and_true, and_false, and_self, if_false, if_true, reduceIte, Nat.reduceEqDiff, Int.reduceEq, Int.reduceNeg])
      | ((with_reducible refine qW_no ?_); omega)
      | with_reducible refine qW_pos rfl ?_
      | ((with_reducible refine qW_pos ?_ ?_); omega)
      | ((with_reducible refine qW_neg ?_ ?_); (first | omega | decide))
      | with_reducible refine qW_ite (fun _ => ?_) (fun _ => ?_)
      | dsimp only
    all_goals exact ⟨fun x => absurd x (by decide), SMK_K h, R_smoke0_x (M := M) (K := K) rfl (fun _ _ => rfl) h_smoke0⟩
end SM
