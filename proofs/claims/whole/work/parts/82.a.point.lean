/-! ===== the reference's points ===== -/
section PO
variable {M K E : qm} {n p k v z l x y c r i j : Int}
def kp (E : qm) (i : Int) : Int := 25 * (E 2174 i 0) + (E 2175 i 0)
def PTS (E : qm) (n : Int) : Prop := 0 ≤ n ∧ (∀ i, 0 ≤ i → i < n → 0 ≤ (E 2174 i 0) ∧ (E 2174 i 0) ≤ 24 ∧ 0 ≤ (E 2175 i 0) ∧ (E 2175 i 0) ≤ 24) ∧ ∀ i j, 0 ≤ i → i < j → j < n → kp E i < kp E j
def pin (E : qm) (n x y : Int) : Prop := ∃ i, 0 ≤ i ∧ i < n ∧ (E 2174 i 0) = x ∧ (E 2175 i 0) = y
def PFR (K E : qm) : Prop := ∀ b i j, b ≠ 2174 → b ≠ 2175 → ¬ (b = 2157 ∧ i = 27) → E b i j = K b i j
theorem pointAt_e (hn : 0 ≤ n) (h5 : n ≤ 459) (e : (E 2157 27 0) = n) : ∃ k, qf_X16_pointAt 20000 x y E = some k ∧ 0 ≤ k ∧ k ≤ n ∧ (k < n → (E 2174 k 0) = x ∧ (E 2175 k 0) = y) ∧ ∀ i, 0 ≤ i → i < k → ¬ ((E 2174 i 0) = x ∧ (E 2175 i 0) = y) := by
  have q : qW (qf_X16_pointAt 20000 x y E) (fun k => 0 ≤ k ∧ k ≤ n ∧ (k < n → (E 2174 k 0) = x ∧ (E 2175 k 0) = y) ∧ ∀ i, 0 ≤ i → i < k → ¬ ((E 2174 i 0) = x ∧ (E 2175 i 0) = y)) := by
    unfold qf_X16_pointAt
    refine qW_call (Q := fun o => ∃ k, o = .inr k ∧ 0 ≤ k ∧ k ≤ n ∧ (k < n → (E 2174 k 0) = x ∧ (E 2175 k 0) = y) ∧ ∀ i, 0 ≤ i → i < k → ¬ ((E 2174 i 0) = x ∧ (E 2175 i 0) = y)) ?_ ?_
    · unfold qf_X16_pointAt_L2
      refine qW_loop (fun t => ∃ k, t = (x, y, k) ∧ 0 ≤ k ∧ k ≤ n ∧ ∀ i, 0 ≤ i → i < k → ¬ ((E 2174 i 0) = x ∧ (E 2175 i 0) = y)) (fun t => (460 - t.2.2).toNat) ?_ 20000 _ ⟨0, rfl, by decide, hn, fun i a b => by omega⟩ (by (try dsimp only); omega)
      rintro _ ⟨k, rfl, k0, k1, hk⟩
      unfold qf_X16_pointAt_L2_b
      (try dsimp only)
      have on : ¬ ((E 2174 k 0) = x ∧ (E 2175 k 0) = y) → k < n → (∃ j, (x, y, k + 1) = (x, y, j) ∧ 0 ≤ j ∧ j ≤ n ∧ ∀ i, 0 ≤ i → i < j → ¬ ((E 2174 i 0) = x ∧ (E 2175 i 0) = y)) ∧ (460 - (k + 1)).toNat < (460 - k).toNat := fun w w2 => ⟨⟨k + 1, rfl, by omega, by omega, all_s hk w⟩, by omega⟩
      by_cases g : n ≤ k
      · rw [if_pos (by omega)]
        exact qW_some ⟨k, rfl, k0, k1, fun z => by omega, hk⟩
      · rw [if_neg (by omega), if_pos ⟨k0, by omega⟩]
        by_cases g1 : (E 2174 k 0) = x
        · rw [if_pos g1, if_pos ⟨k0, by omega⟩]
          by_cases g2 : (E 2175 k 0) = y
          · rw [if_pos g2]
            exact qW_some ⟨k, rfl, k0, k1, fun _ => ⟨g1, g2⟩, hk⟩
          · rw [if_neg g2, w32_id (x := k + 1) (by omega) (by omega)]
            exact qW_some (on (fun w => g2 w.2) (by omega))
        · rw [if_neg g1, w32_id (x := k + 1) (by omega) (by omega)]
          exact qW_some (on (fun w => g1 w.1) (by omega))
    · rintro _ ⟨k, rfl, h⟩
      exact qW_some h
  obtain ⟨k, e, h⟩ := q
  exact ⟨k, e, h⟩
def SHF (E F : qm) (k n : Int) : Prop := (∀ b i j, b ≠ 2174 → b ≠ 2175 → F b i j = E b i j) ∧ ∀ i, (F 2174 i 0) = (if k < i ∧ i ≤ n then (E 2174 (i - 1) 0) else (E 2174 i 0)) ∧ (F 2175 i 0) = (if k < i ∧ i ≤ n then (E 2175 (i - 1) 0) else (E 2175 i 0))
theorem point_mv (h : PTS E n) (h5 : n < 459) (e : (E 2157 27 0) = n) (x0 : 0 ≤ x) (x1 : x ≤ 24) (y0 : 0 ≤ y) (y1 : y ≤ 24) (hno : ¬ pin E n x y) : qW (qf_X16_point_L19 20000 20000 x y n E) (fun o => ∃ k F, o = .inr (k, F) ∧ 0 ≤ k ∧ k ≤ n ∧ SHF E F k n ∧ (∀ i, 0 ≤ i → i < k → kp E i < 25 * x + y) ∧ ∀ i, k ≤ i → i < n → 25 * x + y < kp E i) := by
  have n0 := h.1
  unfold qf_X16_point_L19
  refine qW_loop (fun t => ∃ k F, t = (x, y, k, F) ∧ 0 ≤ k ∧ k ≤ n ∧ SHF E F k n ∧ ∀ i, k ≤ i → i < n → 25 * x + y < kp E i) (fun t => (t.2.2.1).toNat) ?_ 20000 _ ⟨n, E, rfl, n0, Int.le_refl n, ⟨fun _ _ _ _ _ => rfl, fun i => ⟨by rw [if_neg (by omega)], by rw [if_neg (by omega)]⟩⟩, fun i a b => by omega⟩ (by (try dsimp only); omega)
  rintro _ ⟨k, F, rfl, k0, k1, hF, hk⟩
  have done : (k ≤ 0 ∨ kp E (k - 1) < 25 * x + y) → ∃ j F', (Sum.inr (k, F) : (Unit × qm) ⊕ (Int × qm)) = Sum.inr (j, F') ∧ 0 ≤ j ∧ j ≤ n ∧ SHF E F' j n ∧ (∀ i, 0 ≤ i → i < j → kp E i < 25 * x + y) ∧ ∀ i, j ≤ i → i < n → 25 * x + y < kp E i := by
    intro w
    refine ⟨k, F, rfl, k0, k1, hF, fun i i0 i1 => ?_, hk⟩
    rcases w with w | w
    · omega
    · by_cases g : i = k - 1
      · rw [g]
        exact w
      · have := h.2.2 i (k - 1) i0 (by omega) (by omega)
        omega
  unfold qf_X16_point_L19_b
  (try dsimp only)
  by_cases g : k ≤ 0
  · rw [if_pos g]
    exact qW_some (done (Or.inl g))
  · have a1 := hF.2 (k - 1)
    rw [if_neg (by omega), if_neg (by omega)] at a1
    have b1 := h.2.1 (k - 1) (by omega) (by omega)
    have kd : kp E (k - 1) = 25 * (E 2174 (k - 1) 0) + (E 2175 (k - 1) 0) := rfl
    have r1 : 0 ≤ k - 1 ∧ k - 1 < 460 := by omega
    have r2 : 0 ≤ k ∧ k < 460 := by omega
    rw [if_neg g, w32_id (x := k - 1) (by omega) (by omega), if_pos r1, if_pos r1, if_pos r1]
    have step : 25 * x + y < kp E (k - 1) → qW (qf_X16_point_J59 20000 x y k F) (fun o => ∃ G, o = .inr (x, y, k - 1, G) ∧ SHF E G (k - 1) n ∧ ∀ i, k - 1 ≤ i → i < n → 25 * x + y < kp E i) := by
      intro w
      unfold qf_X16_point_J59
      rw [w32_id (x := k - 1) (by omega) (by omega), if_pos r1, if_pos r2]
      refine qW_bnd ?_
      rw [if_pos r1, if_pos r2]
      refine qW_bnd (qW_some ⟨_, rfl, ⟨fun b i j c1 c2 => ?_, fun i => ?_⟩, fun i i0 i1 => ?_⟩)
      · rw [qw_a c2, qw_a c1]
        exact hF.1 b i j c1 c2
      · have q := hF.2 i
        have e1 : ∀ u w, qw (qw F 2174 k 0 u) 2175 k 0 w 2174 i 0 = if i = k then u else F 2174 i 0 := by
          intro u w
          simp only [qw_ap, false_and, true_and, and_true, and_false, and_self, if_false, if_true, reduceIte, Nat.reduceEqDiff, Int.reduceEq]
        have e2 : ∀ u w, qw (qw F 2174 k 0 u) 2175 k 0 w 2175 i 0 = if i = k then w else F 2175 i 0 := by
          intro u w
          simp only [qw_ap, false_and, true_and, and_true, and_false, and_self, if_false, if_true, reduceIte, Nat.reduceEqDiff, Int.reduceEq]
        rw [e1, e2, qw_a (by decide), a1.1, a1.2]
        by_cases gi : i = k
        · rw [if_pos gi, if_pos gi, if_pos (by omega), if_pos (by omega), gi]
          exact ⟨rfl, rfl⟩
        · rw [if_neg gi, if_neg gi, q.1, q.2]
          by_cases g2 : k < i ∧ i ≤ n
          · rw [if_pos g2, if_pos (by omega), if_pos g2, if_pos (by omega)]
            exact ⟨rfl, rfl⟩
          · rw [if_neg g2, if_neg (by omega), if_neg g2, if_neg (by omega)]
            exact ⟨rfl, rfl⟩
      · by_cases gi : i = k - 1
        · rw [gi]
          exact w
        · exact hk i (by omega) i1
    have ne : kp E (k - 1) ≠ 25 * x + y := fun w => hno ⟨k - 1, by omega, by omega, by omega, by omega⟩
    have a1x := a1.1
    have a1y := a1.2
    by_cases g1 : x < F 2174 (k - 1) 0
    · rw [if_pos g1]
      refine qW_mono (step (by omega)) ?_
      rintro _ ⟨G, rfl, hG, hl⟩
      exact ⟨⟨k - 1, G, rfl, by omega, by omega, hG, hl⟩, by (try dsimp only); omega⟩
    · rw [if_neg g1]
      by_cases g2 : F 2174 (k - 1) 0 = x
      · rw [if_pos g2]
        by_cases g3 : F 2175 (k - 1) 0 ≤ y
        · rw [if_pos g3]
          exact qW_some (done (Or.inr (by omega)))
        · rw [if_neg g3]
          refine qW_mono (step (by omega)) ?_
          rintro _ ⟨G, rfl, hG, hl⟩
          exact ⟨⟨k - 1, G, rfl, by omega, by omega, hG, hl⟩, by (try dsimp only); omega⟩
      · rw [if_neg g2]
        exact qW_some (done (Or.inr (by omega)))
theorem point_r (h : PTS E n) (h5 : n < 459) (e : (E 2157 27 0) = n) (x0 : 0 ≤ x) (x1 : x ≤ 24) (y0 : 0 ≤ y) (y1 : y ≤ 24) : qW (qf_X16_point 20000 x y E) (fun r => ∃ m, PTS r.2 m ∧ r.2 2157 27 0 = m ∧ m ≤ n + 1 ∧ PFR E r.2 ∧ ∀ a b, pin r.2 m a b ↔ ((a = x ∧ b = y) ∨ pin E n a b)) := by
  have n0 := h.1
  obtain ⟨k, ek, k0, k1, k2, k3⟩ := pointAt_e (x := x) (y := y) n0 (by omega) e
  unfold qf_X16_point
  refine qW_eq ek ?_
  (try dsimp only)
  by_cases g : n ≤ k
  · rw [e, if_pos g]
    have no : ¬ pin E n x y := fun ⟨i, i0, i1, i2⟩ => k3 i i0 (by omega) i2
    refine qW_call (point_mv h h5 e x0 x1 y0 y1 no) ?_
    rintro _ ⟨p, F, rfl, p0, p1, hF, hl, hr⟩
    (try dsimp only)
    unfold qf_X16_point_J93
    rw [if_pos ⟨p0, by omega⟩]
    refine qW_bnd ?_
    rw [if_pos ⟨p0, by omega⟩]
    refine qW_bnd (qW_bnd (qW_some ⟨n + 1, ⟨by omega, fun i i0 i1 => ?_, fun i j i0 i1 i2 => ?_⟩, ?_, Int.le_refl _, fun b i j b1 b2 b3 => ?_, fun a b => ?_⟩))
    all_goals (try dsimp only)
    · have q := hF.2 i
      have b := h.2.1
      have e1 : ∀ u, qw (qw (qw F 2174 p 0 x) 2175 p 0 y) 2157 27 0 u 2174 i 0 = if i = p then x else F 2174 i 0 := by
        intro u
        simp only [qw_ap, false_and, true_and, and_true, and_false, and_self, if_false, if_true, reduceIte, Nat.reduceEqDiff, Int.reduceEq]
      have e2 : ∀ u, qw (qw (qw F 2174 p 0 x) 2175 p 0 y) 2157 27 0 u 2175 i 0 = if i = p then y else F 2175 i 0 := by
        intro u
        simp only [qw_ap, false_and, true_and, and_true, and_false, and_self, if_false, if_true, reduceIte, Nat.reduceEqDiff, Int.reduceEq]
      rw [e1, e2, q.1, q.2]
      by_cases gi : i = p
      · rw [if_pos gi, if_pos gi]
        exact ⟨x0, x1, y0, y1⟩
      · rw [if_neg gi, if_neg gi]
        by_cases g2 : p < i ∧ i ≤ n
        · rw [if_pos g2, if_pos g2]
          exact b (i - 1) (by omega) (by omega)
        · rw [if_neg g2, if_neg g2]
          exact b i i0 (by omega)
    · have e3 : ∀ u i, kp (qw (qw (qw F 2174 p 0 x) 2175 p 0 y) 2157 27 0 u) i = if i = p then 25 * x + y else if p < i ∧ i ≤ n then kp E (i - 1) else kp E i := by
        intro u i
        have q := hF.2 i
        have e1 : qw (qw (qw F 2174 p 0 x) 2175 p 0 y) 2157 27 0 u 2174 i 0 = if i = p then x else F 2174 i 0 := by
          simp only [qw_ap, false_and, true_and, and_true, and_false, and_self, if_false, if_true, reduceIte, Nat.reduceEqDiff, Int.reduceEq]
        have e2 : qw (qw (qw F 2174 p 0 x) 2175 p 0 y) 2157 27 0 u 2175 i 0 = if i = p then y else F 2175 i 0 := by
          simp only [qw_ap, false_and, true_and, and_true, and_false, and_self, if_false, if_true, reduceIte, Nat.reduceEqDiff, Int.reduceEq]
        unfold kp
        rw [e1, e2, q.1, q.2]
        by_cases gi : i = p
        · rw [if_pos gi, if_pos gi, if_pos gi]
        · rw [if_neg gi, if_neg gi, if_neg gi]
          by_cases g2 : p < i ∧ i ≤ n
          · rw [if_pos g2, if_pos g2, if_pos g2]
          · rw [if_neg g2, if_neg g2, if_neg g2]
      rw [e3, e3]
      by_cases gi : i = p
      · rw [if_pos gi, if_neg (by omega), if_pos (by omega)]
        exact hr (j - 1) (by omega) (by omega)
      · rw [if_neg gi]
        by_cases gj : j = p
        · rw [if_pos gj, if_neg (by omega)]
          exact hl i i0 (by omega)
        · rw [if_neg gj]
          by_cases g1 : p < i ∧ i ≤ n
          · rw [if_pos g1, if_pos (by omega)]
            exact h.2.2 (i - 1) (j - 1) (by omega) (by omega) (by omega)
          · rw [if_neg g1]
            by_cases g2 : p < j ∧ j ≤ n
            · rw [if_pos g2]
              by_cases g3 : j - 1 = i
              · have := hl i i0 (by omega)
                have := hr i (by omega) (by omega)
                omega
              · exact h.2.2 i (j - 1) i0 (by omega) (by omega)
            · rw [if_neg g2]
              exact h.2.2 i j i0 i1 (by omega)
    · have : qw (qw F 2174 p 0 x) 2175 p 0 y 2157 27 0 = n := by
        rw [qw_a (by decide), qw_a (by decide), hF.1 _ _ _ (by decide) (by decide)]
        exact e
      rw [this, w32_id (x := n + 1) (by omega) (by omega)]
      exact qw_s
    · rw [qw_ap, if_neg (by omega), qw_a b2, qw_a b1]
      exact hF.1 b i j b1 b2
    · have e1 : ∀ u i, qw (qw (qw F 2174 p 0 x) 2175 p 0 y) 2157 27 0 u 2174 i 0 = if i = p then x else F 2174 i 0 := by
        intro u i
        simp only [qw_ap, false_and, true_and, and_true, and_false, and_self, if_false, if_true, reduceIte, Nat.reduceEqDiff, Int.reduceEq]
      have e2 : ∀ u i, qw (qw (qw F 2174 p 0 x) 2175 p 0 y) 2157 27 0 u 2175 i 0 = if i = p then y else F 2175 i 0 := by
        intro u i
        simp only [qw_ap, false_and, true_and, and_true, and_false, and_self, if_false, if_true, reduceIte, Nat.reduceEqDiff, Int.reduceEq]
      unfold pin
      constructor
      · rintro ⟨i, i0, i1, i2, i3⟩
        rw [e1, (hF.2 i).1] at i2
        rw [e2, (hF.2 i).2] at i3
        by_cases gi : i = p
        · rw [if_pos gi] at i2 i3
          exact Or.inl ⟨i2.symm, i3.symm⟩
        · rw [if_neg gi] at i2 i3
          by_cases g2 : p < i ∧ i ≤ n
          · rw [if_pos g2] at i2 i3
            exact Or.inr ⟨i - 1, by omega, by omega, i2, i3⟩
          · rw [if_neg g2] at i2 i3
            exact Or.inr ⟨i, i0, by omega, i2, i3⟩
      · rintro (⟨rfl, rfl⟩ | ⟨i, i0, i1, i2, i3⟩)
        · exact ⟨p, p0, by omega, by rw [e1, if_pos rfl], by rw [e2, if_pos rfl]⟩
        · by_cases gi : i < p
          · exact ⟨i, i0, by omega, by rw [e1, if_neg (by omega), (hF.2 i).1, if_neg (by omega)]; exact i2, by rw [e2, if_neg (by omega), (hF.2 i).2, if_neg (by omega)]; exact i3⟩
          · exact ⟨i + 1, by omega, by omega, by rw [e1, if_neg (by omega), (hF.2 (i + 1)).1, if_pos (by omega), show i + 1 - 1 = i by omega]; exact i2, by rw [e2, if_neg (by omega), (hF.2 (i + 1)).2, if_pos (by omega), show i + 1 - 1 = i by omega]; exact i3⟩
  · rw [e, if_neg g]
    have q := k2 (by omega)
    refine qW_some ⟨n, h, e, by omega, fun _ _ _ _ _ _ => rfl, fun a b => ⟨Or.inr, fun z => ?_⟩⟩
    rcases z with ⟨rfl, rfl⟩ | z
    · exact ⟨k, k0, by omega, q.1, q.2⟩
    · exact z
end PO
