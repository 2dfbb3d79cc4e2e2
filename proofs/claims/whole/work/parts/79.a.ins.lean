/-! ===== a number comes into a row that rises ===== -/
section IA
variable {M K E : qm} {n p k v z : Int}
def SRx (K : qm) (n : Int) : Prop := 0 ≤ n ∧ (∀ i j, 0 ≤ i → i < j → j < n → (K 2166 i 0) < (K 2166 j 0)) ∧ ∀ i, 0 ≤ i → i < n → 0 ≤ (K 2166 i 0) ∧ (K 2166 i 0) ≤ 24
theorem SRx_n (h : SRx K n) : n ≤ 25 := by
  have key : ∀ k : Nat, (k : Int) < n → (k : Int) ≤ (K 2166 (k : Int) 0) := by
    intro k
    induction k with
    | zero => intro a; exact (h.2.2 0 (by decide) a).1
    | succ k ih =>
      intro a
      have := ih (by omega)
      have := h.2.1 k ((k + 1 : Nat) : Int) (by omega) (by omega) a
      omega
  by_cases g : n ≤ 25
  · exact g
  · have q := key 25 (by omega)
    rw [show ((25 : Nat) : Int) = 25 from rfl] at q
    have := (h.2.2 25 (by decide) (by omega)).2
    omega
theorem insx_at (h : SRx K n) : qW (qf_X16_insert_L2 20000 20000 n v 0 K) (fun o => ∃ p, o = .inr p ∧ 0 ≤ p ∧ p ≤ n ∧ (∀ i, 0 ≤ i → i < p → (K 2166 i 0) < v) ∧ (p < n → v ≤ (K 2166 p 0))) := by
  have n5 := SRx_n h
  have n0 := h.1
  unfold qf_X16_insert_L2
  refine qW_loop (fun t => ∃ p, t = (n, v, p) ∧ 0 ≤ p ∧ p ≤ n ∧ ∀ i, 0 ≤ i → i < p → (K 2166 i 0) < v) (fun t => (26 - t.2.2).toNat) ?_ 20000 _ ⟨0, rfl, by decide, by omega, fun i a b => by omega⟩ (by (try dsimp only); omega)
  rintro _ ⟨p, rfl, p0, p1, hp⟩
  unfold qf_X16_insert_L2_b
  (try dsimp only)
  by_cases g : n ≤ p
  · rw [if_pos g]
    exact qW_some ⟨p, rfl, p0, p1, hp, fun z => by omega⟩
  · rw [if_neg g, if_pos ⟨p0, by omega⟩]
    by_cases g2 : v ≤ (K 2166 p 0)
    · rw [if_pos g2]
      exact qW_some ⟨p, rfl, p0, p1, hp, fun _ => g2⟩
    · rw [if_neg g2, w32_id (x := p + 1) (by omega) (by omega)]
      refine qW_some ⟨⟨p + 1, rfl, by omega, by omega, all_s hp (by omega)⟩, ?_⟩
      (try dsimp only)
      omega
theorem insx_mv (h : SRx K n) (n5 : n < 40) (p0 : 0 ≤ p) (p1 : p ≤ n) : qW (qf_X16_insert_L37 20000 20000 n v p n K) (fun o => ∃ E, o = .inr ((), E) ∧ ofr 2166 K E ∧ ∀ i, (E 2166 i 0) = if p < i ∧ i ≤ n then (K 2166 (i - 1) 0) else (K 2166 i 0)) := by
  unfold qf_X16_insert_L37
  refine qW_loop (fun t => ∃ k E, t = (n, v, p, k, E) ∧ p ≤ k ∧ k ≤ n ∧ ofr 2166 K E ∧ ∀ i, (E 2166 i 0) = if k < i ∧ i ≤ n then (K 2166 (i - 1) 0) else (K 2166 i 0)) (fun t => (t.2.2.2.1).toNat) ?_ 20000 _ ⟨n, K, rfl, p1, Int.le_refl n, ofr_r, fun i => by rw [if_neg (by omega)]⟩ (by (try dsimp only); omega)
  rintro _ ⟨k, E, rfl, k0, k1, hE, hk⟩
  unfold qf_X16_insert_L37_b
  (try dsimp only)
  by_cases g : k ≤ p
  · rw [if_pos g]
    have e : k = p := by omega
    rw [e] at hk
    exact qW_some ⟨E, rfl, hE, hk⟩
  · rw [if_neg g, w32_id (x := k - 1) (by omega) (by omega), if_pos ⟨by omega, by omega⟩, if_pos ⟨by omega, by omega⟩]
    refine qW_bnd (qW_some ⟨⟨k - 1, _, rfl, by omega, by omega, ofr_w hE, fun i => ?_⟩, ?_⟩)
    · have e1 := hk (k - 1)
      rw [if_neg (by omega)] at e1
      have e2 : qw E 2166 k 0 (E 2166 (k - 1) 0) 2166 i 0 = if i = k then E 2166 (k - 1) 0 else (E 2166 i 0) := by
        simp only [qw_ap, false_and, true_and, and_true, and_false, and_self, if_false, if_true, reduceIte, Nat.reduceEqDiff, Int.reduceEq]
      rw [e2, e1, hk i]
      by_cases gi : i = k
      · rw [if_pos gi, if_pos (by omega), gi]
      · rw [if_neg gi]
        by_cases g2 : k < i ∧ i ≤ n
        · rw [if_pos g2, if_pos (by omega)]
        · rw [if_neg g2, if_neg (by omega)]
    · (try dsimp only)
      omega
theorem insx_r (h : SRx K n) (v0 : 0 ≤ v) (v1 : v ≤ 24) : qW (qf_X16_insert 20000 n v K) (fun r => SRx r.2 r.1 ∧ ofr 2166 K r.2 ∧ ∀ z, (∃ i, 0 ≤ i ∧ i < r.1 ∧ r.2 2166 i 0 = z) ↔ (z = v ∨ ∃ i, 0 ≤ i ∧ i < n ∧ (K 2166 i 0) = z)) := by
  have n5 := SRx_n h
  unfold qf_X16_insert
  refine qW_call (insx_at h) ?_
  rintro _ ⟨p, rfl, p0, p1, hp, hq⟩
  (try dsimp only)
  have put : (∀ i, p ≤ i → i < n → v < (K 2166 i 0)) → qW (qf_X16_insert_J34 20000 n v p K) (fun r => SRx r.2 r.1 ∧ ofr 2166 K r.2 ∧ ∀ z, (∃ i, 0 ≤ i ∧ i < r.1 ∧ r.2 2166 i 0 = z) ↔ (z = v ∨ ∃ i, 0 ≤ i ∧ i < n ∧ (K 2166 i 0) = z)) := by
    intro hl
    unfold qf_X16_insert_J34
    refine qW_call (insx_mv h (by omega) p0 p1) ?_
    rintro _ ⟨E, rfl, hE, he⟩
    (try dsimp only)
    rw [if_pos ⟨p0, by omega⟩, w32_id (x := n + 1) (by omega) (by omega)]
    have e2 : ∀ i, qw E 2166 p 0 v 2166 i 0 = if i = p then v else if p < i ∧ i ≤ n then (K 2166 (i - 1) 0) else (K 2166 i 0) := by
      intro i
      rw [← he i]
      simp only [qw_ap, false_and, true_and, and_true, and_false, and_self, if_false, if_true, reduceIte, Nat.reduceEqDiff, Int.reduceEq]
    refine qW_bnd (qW_some ⟨⟨by omega, fun i j a b c => ?_, fun i a b => ?_⟩, ofr_w hE, fun z => ⟨?_, ?_⟩⟩)
    · (try dsimp only at c ⊢)
      rw [e2, e2]
      by_cases gi : i = p
      · rw [if_pos gi, if_neg (by omega), if_pos (by omega)]
        exact hl (j - 1) (by omega) (by omega)
      · rw [if_neg gi]
        by_cases gj : j = p
        · rw [if_pos gj, if_neg (by omega)]
          exact hp i a (by omega)
        · rw [if_neg gj]
          by_cases g1 : p < i ∧ i ≤ n
          · rw [if_pos g1, if_pos (by omega)]
            exact h.2.1 (i - 1) (j - 1) (by omega) (by omega) (by omega)
          · rw [if_neg g1]
            by_cases g2 : p < j ∧ j ≤ n
            · rw [if_pos g2]
              by_cases g3 : j - 1 = i
              · omega
              · exact h.2.1 i (j - 1) a (by omega) (by omega)
            · rw [if_neg g2]
              exact h.2.1 i j a b (by omega)
    · (try dsimp only at b ⊢)
      rw [e2]
      split
      · exact ⟨v0, v1⟩
      · split
        · exact h.2.2 (i - 1) (by omega) (by omega)
        · exact h.2.2 i a (by omega)
    · rintro ⟨i, a, b, c⟩
      (try dsimp only at b c)
      rw [e2] at c
      split at c
      · exact Or.inl c.symm
      · split at c
        · exact Or.inr ⟨i - 1, by omega, by omega, c⟩
        · exact Or.inr ⟨i, a, by omega, c⟩
    · (try dsimp only)
      rintro (c | ⟨i, a, b, c⟩)
      · exact ⟨p, p0, by omega, by rw [e2, if_pos rfl]; exact c.symm⟩
      · by_cases g : i < p
        · exact ⟨i, a, by omega, by rw [e2, if_neg (by omega), if_neg (by omega)]; exact c⟩
        · exact ⟨i + 1, by omega, by omega, by rw [e2, if_neg (by omega), if_pos (by omega), show i + 1 - 1 = i by omega]; exact c⟩
  unfold qf_X16_insert_J20
  by_cases g : n ≤ p
  · rw [if_pos g]
    exact put (fun i a b => by omega)
  · rw [if_neg g, if_pos ⟨p0, by omega⟩]
    by_cases g2 : (K 2166 p 0) = v
    · rw [if_pos g2]
      refine qW_some ⟨h, ofr_r, fun z => ⟨fun c => Or.inr c, fun c => ?_⟩⟩
      rcases c with c | c
      · exact ⟨p, p0, by (try dsimp only); omega, g2.trans c.symm⟩
      · exact c
    · rw [if_neg g2]
      have := hq (by omega)
      refine put (fun i a b => ?_)
      by_cases e : i = p
      · rw [e]
        omega
      · have := h.2.1 p i p0 (by omega) b
        omega
end IA
