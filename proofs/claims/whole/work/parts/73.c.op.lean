section LD
variable {M K S T : qm} {x1 p : Int}
theorem done_fin (h : LFT M K) (p0 : 0 ≤ p) (p1 : p < (M 1337 4 0)) (hp : (M 1744 p 0) = x1) (s1 : (S 1337 2 0) = (M 1337 2 0)) (s2 : (S 1337 4 0) = (M 1337 4 0) - 1) (s3 : (S 1337 0 0) = (M 1337 0 0)) (s4 : (S 6 12 0) = (M 6 12 0)) (s5 : ∀ c i, (S 1343 c i) = (M 1343 c i)) (s6 : ∀ c i, (S 1745 c i) = (M 1745 c i)) (s7 : ∀ k, (S 1744 k 0) = if p ≤ k ∧ k < (M 1337 4 0) - 1 then (M 1744 (k + 1) 0) else (M 1744 k 0)) (s8 : ∀ a i, (S 1338 a i) = if i = 5 ∧ 0 ≤ a ∧ a < (M 1337 0 0) ∧ (M 1338 a 5) = x1 then -1 else (M 1338 a i)) (r5 : ∀ c, (T 2279 c 0) = if c = x1 then 0 else (K 2279 c 0)) (r7 : ∀ b i j, b ≠ 2279 → (b ≠ 2156 ∨ i ≠ 0) → T b i j = K b i j) : LFT S T := by
  obtain ⟨h_carn, h_cars, h_carz, h_calln, h_calls, h_given, h_givenz, h_opens, h_openl, h_openi, h_opena, h_begun, h_begunz, h_begunr⟩ := h
  have r : ∀ b i j, b ≠ 2279 → b ≠ 2156 → T b i j = K b i j := fun b i j h1 h2 => r7 b i j h1 (Or.inl h2)
  have qp := h_openl p p0 p1
  rw [hp] at qp
  have s8' : ∀ a i, i ≠ 5 → (S 1338 a i) = (M 1338 a i) := fun a i hi => by rw [s8, if_neg (fun x => hi x.1)]
  have inj : ∀ j k, 0 ≤ j → j < (M 1337 4 0) → 0 ≤ k → k < (M 1337 4 0) → (M 1744 j 0) = (M 1744 k 0) → j = k := by
    intro j k j0 j1 k0 k1 e
    by_cases e2 : j = k
    · exact e2
    · by_cases e3 : j < k
      · have := h_openi j k j0 e3 k1
        omega
      · have := h_openi k j k0 (by omega) j1
        omega
  refine ⟨?_, ?_, ?_, ?_, ?_, ?_, ?_, ?_, ?_, ?_, ?_, ?_, ?_, ?_⟩
  · exact R_carn_x (M := M) (K := K) s3 (r _ _ _ (by decide) (by decide)) h_carn
  · intro a a0 a1
    rw [s3] at a1
    have q := h_cars a a0 a1
    rw [s8' a 0 (by decide), s8' a 1 (by decide), s8' a 2 (by decide), s8' a 3 (by decide), s8' a 4 (by decide), r 2271 _ _ (by decide) (by decide), r 2272 _ _ (by decide) (by decide), r 2273 _ _ (by decide) (by decide), r 2274 _ _ (by decide) (by decide), r 2275 _ _ (by decide) (by decide)]
    exact q
  · intro a a0 a1
    rw [s3] at a0
    rw [s8' a 2 (by decide), s8' a 3 (by decide)]
    exact h_carz a a0 a1
  · exact R_calln_x (M := M) (K := K) s1 (r _ _ _ (by decide) (by decide)) h_calln
  · intro c c0 c1
    rw [s1] at c1
    have q := h_calls c c0 c1
    rw [s5, s5, s5, r5, s4, r 2276 _ _ (by decide) (by decide), r 2277 _ _ (by decide) (by decide), r 2278 _ _ (by decide) (by decide)]
    refine ⟨q.1, q.2.1, q.2.2.1, q.2.2.2.1, q.2.2.2.2.1, q.2.2.2.2.2.1, q.2.2.2.2.2.2.1, q.2.2.2.2.2.2.2.1, q.2.2.2.2.2.2.2.2.1, ?_⟩
    split
    · exact Or.inl rfl
    · exact q.2.2.2.2.2.2.2.2.2
  · intro c c0 c1
    rw [s1] at c1
    rw [s6, s6, s6, s6, r 2285 _ _ (by decide) (by decide), r 2286 _ _ (by decide) (by decide), r 2287 _ _ (by decide) (by decide), r 2288 _ _ (by decide) (by decide)]
    exact h_given c c0 c1
  · intro c c0 c1
    rw [s1] at c0
    rw [r 2285 _ _ (by decide) (by decide)]
    exact h_givenz c c0 c1
  · have u := sI_u (f := fun c => (K 2279 c 0)) (g := fun c => (T 2279 c 0)) (c := x1) (n := (M 1337 2 0)) qp.1 qp.2.1 (fun k hk => by show (T 2279 k 0) = _; rw [r5, if_neg hk])
    have e : (T 2279 x1 0) = 0 := by rw [r5, if_pos rfl]
    have q := h_opens
    unfold R_opens at q
    refine ⟨?_, by rw [s2]; omega, by rw [s2]; omega⟩
    rw [s1, s2, u, q.1]
    (try dsimp only)
    rw [e, qp.2.2]
    omega
  · intro k k0 k1
    rw [s2] at k1
    rw [s7, s1]
    by_cases e : p ≤ k ∧ k < (M 1337 4 0) - 1
    · have q := h_openl (k + 1) (by omega) (by omega)
      rw [if_pos e, r5, if_neg (fun x => by have := inj (k + 1) p (by omega) (by omega) p0 p1 (x.trans hp.symm); omega)]
      exact q
    · have q := h_openl k k0 (by omega)
      rw [if_neg e, r5, if_neg (fun x => by have := inj k p k0 (by omega) p0 p1 (x.trans hp.symm); omega)]
      exact q
  · intro j k j0 jk k1
    rw [s2] at k1
    rw [s7, s7]
    by_cases e : p ≤ j
    · rw [if_pos (by omega), if_pos (by omega)]
      exact h_openi (j + 1) (k + 1) (by omega) (by omega) (by omega)
    · rw [if_neg (by omega)]
      by_cases e2 : p ≤ k
      · rw [if_pos (by omega)]
        exact h_openi j (k + 1) j0 (by omega) (by omega)
      · rw [if_neg (by omega)]
        exact h_openi j k j0 jk (by omega)
  · intro c c0 c1 c2
    rw [s1] at c1
    rw [r5] at c2
    rw [s2]
    by_cases e : c = x1
    · rw [if_pos e] at c2
      omega
    · rw [if_neg e] at c2
      obtain ⟨k, k0, k1, k2⟩ := h_opena c c0 c1 c2
      have kp : k ≠ p := fun y => e (by rw [← k2, y, hp])
      by_cases g : k < p
      · exact ⟨k, k0, by omega, by rw [s7, if_neg (by omega)]; exact k2⟩
      · refine ⟨k - 1, by omega, by omega, ?_⟩
        rw [s7, if_pos (by omega), show k - 1 + 1 = k by omega]
        exact k2
  · intro a c a0 a1 c0 c1 c2
    rw [s3] at a1
    rw [s1] at c1
    rw [r5] at c2
    rw [r 2280 _ _ (by decide) (by decide), s8]
    by_cases e : c = x1
    · rw [if_pos e] at c2
      omega
    · rw [if_neg e] at c2
      have q := h_begun a c a0 a1 c0 c1 c2
      by_cases g : (M 1338 a 5) = x1
      · rw [if_pos ⟨rfl, a0, a1, g⟩, q]
        constructor <;> intro x <;> omega
      · rw [if_neg (fun x => g x.2.2.2)]
        exact q
  · intro a a0 a1
    rw [s3] at a1
    rw [s8, s1]
    by_cases g : (M 1338 a 5) = x1
    · rw [if_pos ⟨rfl, a0, a1, g⟩]
      exact Or.inl rfl
    · rw [if_neg (fun x => g x.2.2.2)]
      rcases h_begunz a a0 a1 with q | ⟨q1, q2, q3⟩
      · exact Or.inl q
      · exact Or.inr ⟨q1, q2, by rw [r5, if_neg g]; exact q3⟩
  · intro c c0 c1
    rw [s1] at c1
    rw [r 2280 _ _ (by decide) (by decide), s3]
    exact h_begunr c c0 c1
theorem op_done (h_built : R_built M K) (h : LFT M K) : oK2 cU (qf_L_done 20000 x1 M) (qf_X18_done 20000 x1 K) (fun M' K' => LFT M' K') := by
  have s_built := h_built
  unfold R_built at s_built
  have hh := h
  obtain ⟨h_carn, h_cars, h_carz, h_calln, h_calls, h_given, h_givenz, h_opens, h_openl, h_openi, h_opena, h_begun, h_begunz, h_begunr⟩ := hh
  have s_carn := h_carn
  unfold R_carn at s_carn
  have s_calln := h_calln
  unfold R_calln at s_calln
  have s_opens := h_opens
  unfold R_opens at s_opens
  obtain ⟨o0, o1⟩ := s_opens.2
  clear s_opens
  obtain ⟨b, eb1, eb2, hb⟩ := ask_both (isOpenCall_r h_calln h_calls h_openl h_opena h_opens (x := x1)) (opensR_r h_calln h_calls (x := x1))
  unfold oK2
  rcases hb with ⟨hb, hs⟩ | ⟨hb, hs⟩
  · rw [hb] at eb1 eb2
    obtain ⟨⟨u, M1⟩, e1, f1⟩ := endBeginning_r (M := M) (x := x1) s_carn.1 s_carn.2.1
    have f1 : ∀ b i j, M1 b i j = if b = 1338 ∧ j = 5 ∧ 0 ≤ i ∧ i < (M 1337 0 0) ∧ M 1338 i 5 = x1 then -1 else M b i j := f1
    have g0 : M1 1337 4 0 = (M 1337 4 0) := by rw [f1, if_neg (fun x => absurd x.1 (by decide))]
    obtain ⟨r, e2, hr⟩ := placeOfOpen_r (M := M1) (x := x1) (by rw [g0]; exact o0) (by rw [g0]; exact o1)
    have g4 : ∀ k, M1 1744 k 0 = (M 1744 k 0) := fun k => by rw [f1, if_neg (fun x => by have := x.1; omega)]
    have hr2 : 0 ≤ r ∧ r < (M 1337 4 0) ∧ (M 1744 r 0) = x1 := by
      rcases hr with ⟨_, h2⟩ | ⟨h2, h3, h4⟩
      · obtain ⟨k, k0, k1, k2⟩ := (opS_iff h_calln h_calls h_openl h_opena).mp hs
        exact absurd ((g4 k).trans k2) (h2 k k0 (by rw [g0]; exact k1))
      · rw [g0] at h3
        rw [g4] at h4
        exact ⟨h2, h3, h4⟩
    obtain ⟨r0, r1, r2⟩ := hr2
    clear hr
    have w1 : w32 (r + 1) = r + 1 := w32_id (by omega) (by omega)
    have w2 : w32 (w32 ((M 1337 4 0) - r) - 1) = (M 1337 4 0) - r - 1 := by rw [w32_id (x := (M 1337 4 0) - r) (by omega) (by omega), w32_id (by omega) (by omega)]
    have w3 : w32 ((M 1337 4 0) - 1) = (M 1337 4 0) - 1 := w32_id (by omega) (by omega)
    have ec : qf_X3_closeCall 20000 x1 M = some ((), qw (qcp1 M1 1744 (r + 1) 1744 r ((M 1337 4 0) - r - 1)) 1337 4 0 ((M 1337 4 0) - 1)) := by
      refine qW_e ?_
      unfold qf_X3_closeCall
      rw [e1]
      refine qW_bind (qW_some ?_)
      (try dsimp only)
      rw [e2]
      refine qW_bind (qW_some ?_)
      (try dsimp only)
      rw [if_neg (by omega)]
      refine qW_pos (show 0 ≤ w32 (r + 1) ∧ 0 ≤ r ∧ 0 ≤ w32 (w32 (M1 1337 4 0 - r) - 1) ∧ w32 (r + 1) + w32 (w32 (M1 1337 4 0 - r) - 1) ≤ 6 ∧ r + w32 (w32 (M1 1337 4 0 - r) - 1) ≤ 6 by rw [g0, w1, w2]; omega) ?_
      refine qW_bnd (qW_bnd (qW_some ?_))
      show ((), qw (qcp1 M1 1744 (w32 (r + 1)) 1744 r (w32 (w32 (M1 1337 4 0 - r) - 1))) 1337 4 0 (w32 ((M1 1337 4 0) - 1))) = _
      rw [g0, w1, w2, w3]
    have fin : LFT (qw (qcp1 M1 1744 (r + 1) 1744 r ((M 1337 4 0) - r - 1)) 1337 4 0 ((M 1337 4 0) - 1)) (qw (qw K 2156 0 0 0) 2279 x1 0 0) := by
      refine done_fin (p := r) (x1 := x1) h r0 r1 r2 ?_ qw_s ?_ ?_ (fun c i => ?_) (fun c i => ?_) (fun k => ?_) (fun a i => ?_) (fun c => ?_) (fun b i j h1 h2 => ?_)
      · show M1 1337 2 0 = _
        rw [f1, if_neg (fun x => absurd x.1 (by decide))]
      · show M1 1337 0 0 = _
        rw [f1, if_neg (fun x => absurd x.1 (by decide))]
      · show M1 6 12 0 = _
        rw [f1, if_neg (fun x => absurd x.1 (by decide))]
      · show M1 1343 c i = _
        rw [f1, if_neg (fun x => by have := x.1; omega)]
      · show M1 1745 c i = _
        rw [f1, if_neg (fun x => by have := x.1; omega)]
      · rw [qw_a (by decide), qcp1_ap]
        by_cases g : r ≤ k ∧ k < (M 1337 4 0) - 1
        · rw [if_pos ⟨rfl, g.1, by omega, rfl⟩, if_pos g, g4, show k - r + (r + 1) = k + 1 by omega]
        · rw [if_neg (by omega), if_neg g, g4]
      · show M1 1338 a i = _
        rw [f1]
        simp only [true_and]
      · simp only [qw_ap, false_and, true_and, and_true, and_false, and_self, if_false, if_true, reduceIte, Nat.reduceEqDiff, Int.reduceEq]
      · rw [qw_a h1, qw_ap, if_neg (by omega)]
    have hx : 0 ≤ x1 ∧ x1 < 400 := by
      have := hs.1
      have := hs.2.1
      omega
    unfold qf_L_done qf_X11_done qf_X18_done
    repeat' first
      | ((with_reducible refine qW_eq eb1 ?_); (try dsimp only))
      | ((with_reducible refine qW_eq eb2 ?_); (try dsimp only))
      | ((with_reducible refine qW_eq ec ?_); (try dsimp only))
      | with_reducible refine qW_within (fun _ => ?_) (fun _ _ => ?_)
      | with_reducible refine qW_isIn (fun _ => ?_) (fun _ _ => ?_)
      | with_reducible refine qW_na (fun _ => ?_) (fun _ => ?_)
      | with_reducible refine qW_ns (fun _ => ?_) (fun _ => ?_)
      | (with_reducible refine qW_goes (fun _ => ?_) (fun _ _ => ?_) (fun _ _ => ?_) <;> (try dsimp only) <;> (try simp only [qw_ap, qfl1_ap, qfl2_ap, qcp1_ap, qcp2_ap, false_and, true_and, and_true, and_false, and_self, if_false, if_true, reduceIte, Nat.reduceEqDiff, Int.reduceEq, Int.reduceNeg]))
      | (with_reducible refine qW_stays (by omega) (fun _ => ?_) (fun _ => ?_) <;> (try dsimp only) <;> (try simp only [qw_ap, qfl1_ap, qfl2_ap, qcp1_ap, qcp2_ap, false_and, true_and, and_true, and_false, and_self, if_false, if_true, reduceIte, Nat.reduceEqDiff, Int.reduceEq, Int.reduceNeg]))
      | (exfalso; omega)
      | with_reducible refine qW_bind ?_
      | (with_reducible refine qW_bnd ?_; try simp only [qw_ap, qfl1_ap, qfl2_ap, qcp1_ap, qcp2_ap, false_and, true_and, and_true, and_false, and_self, if_false, if_true, reduceIte, Nat.reduceEqDiff, Int.reduceEq, Int.reduceNeg])
      | (with_reducible refine qW_some ?_; (try dsimp only); try simp only [qw_ap, qfl1_ap, qfl2_ap, qcp1_ap, qcp2_ap, false_and, true_and, and_true, and_false, and_self, if_false, if_true, reduceIte, Nat.reduceEqDiff, Int.reduceEq, Int.reduceNeg])
      | ((with_reducible refine qW_no ?_); omega)
      | with_reducible refine qW_pos rfl ?_
      | ((with_reducible refine qW_pos ?_ ?_); omega)
      | ((with_reducible refine qW_neg ?_ ?_); (first | omega | decide))
      | with_reducible refine qW_ite (fun _ => ?_) (fun _ => ?_)
      | dsimp only
    all_goals first
      | exact ⟨fun x => absurd x (by decide), LFT_K h⟩
      | exact ⟨fun _ => trivial, fin⟩
  · rw [hb] at eb1 eb2
    unfold qf_L_done qf_X11_done qf_X18_done
    repeat' first
      | ((with_reducible refine qW_eq eb1 ?_); (try dsimp only))
      | ((with_reducible refine qW_eq eb2 ?_); (try dsimp only))
      | with_reducible refine qW_within (fun _ => ?_) (fun _ _ => ?_)
      | with_reducible refine qW_isIn (fun _ => ?_) (fun _ _ => ?_)
      | with_reducible refine qW_na (fun _ => ?_) (fun _ => ?_)
      | with_reducible refine qW_ns (fun _ => ?_) (fun _ => ?_)
      | (with_reducible refine qW_goes (fun _ => ?_) (fun _ _ => ?_) (fun _ _ => ?_) <;> (try dsimp only) <;> (try simp only [qw_ap, qfl1_ap, qfl2_ap, qcp1_ap, qcp2_ap, false_and, true_and, and_true, and_false, and_self, if_false, if_true, reduceIte, Nat.reduceEqDiff, Int.reduceEq, Int.reduceNeg]))
      | (with_reducible refine qW_stays (by omega) (fun _ => ?_) (fun _ => ?_) <;> (try dsimp only) <;> (try simp only [qw_ap, qfl1_ap, qfl2_ap, qcp1_ap, qcp2_ap, false_and, true_and, and_true, and_false, and_self, if_false, if_true, reduceIte, Nat.reduceEqDiff, Int.reduceEq, Int.reduceNeg]))
      | (exfalso; omega)
      | with_reducible refine qW_bind ?_
      | (with_reducible refine qW_bnd ?_; try simp only [qw_ap, qfl1_ap, qfl2_ap, qcp1_ap, qcp2_ap, false_and, true_and, and_true, and_false, and_self, if_false, if_true, reduceIte, Nat.reduceEqDiff, Int.reduceEq, Int.reduceNeg])
      | (with_reducible refine qW_some ?_; (try dsimp only); try simp only [qw_ap, qfl1_ap, qfl2_ap, qcp1_ap, qcp2_ap, false_and, true_and, and_true, and_false, and_self, if_false, if_true, reduceIte, Nat.reduceEqDiff, Int.reduceEq, Int.reduceNeg])
      | ((with_reducible refine qW_no ?_); omega)
      | with_reducible refine qW_pos rfl ?_
      | ((with_reducible refine qW_pos ?_ ?_); omega)
      | ((with_reducible refine qW_neg ?_ ?_); (first | omega | decide))
      | with_reducible refine qW_ite (fun _ => ?_) (fun _ => ?_)
      | dsimp only
    all_goals exact ⟨fun x => absurd x (by decide), LFT_K h⟩
end LD
