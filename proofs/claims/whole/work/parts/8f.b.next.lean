/-! ===== the giving: the reference's next row ===== -/
section GVb
variable {M K A W Z X : qm} {c i j k n s p q v w T : Int} {m N : Nat}
theorem nx7_K (p0 : 0 ≤ p) (ps : p + 1 < s) (s6 : s ≤ 6) (hp : K 2282 p 0 < K 2282 (p + 1) 0) (hd : ∀ i, p < i → i + 1 < s → K 2282 (i + 1) 0 < K 2282 i 0) : qf_X13_nextRow_L7 20000 20000 (s - 2) K = some (.inr p) := by
  refine qW_e ?_
  unfold qf_X13_nextRow_L7
  refine qW_for (s - 2 - p) (fun t i => i = s - 2 - t) ?_ ?_ (by omega) (by omega) (by omega)
  · rintro t _ t0 t1 rfl
    have d := hd (s - 2 - t) (by omega) (by omega)
    unfold qf_X13_nextRow_L7_b
    rw [if_neg (by omega), if_pos (show 0 ≤ s - 2 - t ∧ s - 2 - t < 6 by omega), w32_id (x := s - 2 - t + 1) (by omega) (by omega), if_pos (show 0 ≤ s - 2 - t + 1 ∧ s - 2 - t + 1 < 6 by omega), if_neg (by omega), w32_id (x := s - 2 - t - 1) (by omega) (by omega)]
    exact qW_some (by omega)
  · rintro _ rfl
    rw [show s - 2 - (s - 2 - p) = p by omega]
    unfold qf_X13_nextRow_L7_b
    rw [if_neg (by omega), if_pos (show 0 ≤ p ∧ p < 6 by omega), w32_id (x := p + 1) (by omega) (by omega), if_pos (show 0 ≤ p + 1 ∧ p + 1 < 6 by omega), if_pos (by omega)]
    exact qW_some rfl
theorem nx47_K (p0 : 0 ≤ p) (pq : p < q) (qs : q < s) (s6 : s ≤ 6) (hq : K 2282 p 0 < K 2282 q 0) (hd : ∀ i, q < i → i < s → K 2282 i 0 < K 2282 p 0) : qf_X13_nextRow_L47 20000 20000 p (s - 1) K = some (.inr q) := by
  refine qW_e ?_
  unfold qf_X13_nextRow_L47
  refine qW_for (s - 1 - q) (fun t i => i = (p, s - 1 - t)) ?_ ?_ (by rw [show s - 1 - 0 = s - 1 by omega]) (by omega) (by omega)
  · rintro t _ t0 t1 rfl
    have d := hd (s - 1 - t) (by omega) (by omega)
    show qW (qf_X13_nextRow_L47_b 20000 p (s - 1 - t) K) _
    unfold qf_X13_nextRow_L47_b
    rw [if_pos (show 0 ≤ s - 1 - t ∧ s - 1 - t < 6 by omega), if_pos (show 0 ≤ p ∧ p < 6 by omega), if_neg (by omega), w32_id (x := s - 1 - t - 1) (by omega) (by omega)]
    refine qW_some ?_
    show (p, s - 1 - t - 1) = (p, s - 1 - (t + 1))
    rw [show s - 1 - t - 1 = s - 1 - (t + 1) by omega]
  · rintro _ rfl
    rw [show s - 1 - (s - 1 - q) = q by omega]
    show qW (qf_X13_nextRow_L47_b 20000 p q K) _
    unfold qf_X13_nextRow_L47_b
    rw [if_pos (show 0 ≤ q ∧ q < 6 by omega), if_pos (show 0 ≤ p ∧ p < 6 by omega), if_pos (by omega)]
    exact qW_some rfl
theorem nx107_K (p0 : 0 ≤ p) (ps : p + 1 < s) (s6 : s ≤ 6) : ∃ Y, qf_X13_nextRow_L107 20000 20000 (p + 1) (s - 1) X = some (.inr ((), Y)) ∧ (∀ i, p < i → i < s → Y 2282 i 0 = X 2282 (s + p - i) 0) ∧ ∀ b x y, ¬ (b = 2282 ∧ p < x ∧ x < s) → Y b x y = X b x y := by
  obtain ⟨o, e1, Y, rfl, y1, y2⟩ : qW (qf_X13_nextRow_L107 20000 20000 (p + 1) (s - 1) X) (fun o => ∃ Y, o = .inr ((), Y) ∧ (∀ i, p < i → i < s → Y 2282 i 0 = X 2282 (s + p - i) 0) ∧ ∀ b x y, ¬ (b = 2282 ∧ p < x ∧ x < s) → Y b x y = X b x y) := by
    unfold qf_X13_nextRow_L107
    refine qW_for ((s - 1 - p) / 2) (fun t r => ∃ W, r = (p + 1 + t, s - 1 - t, W) ∧ (∀ i, p < i → i < s → (i < p + 1 + t ∨ s - 1 - t < i) → W 2282 i 0 = X 2282 (s + p - i) 0) ∧ (∀ i, p + 1 + t ≤ i → i ≤ s - 1 - t → W 2282 i 0 = X 2282 i 0) ∧ ∀ b x y, ¬ (b = 2282 ∧ p < x ∧ x < s) → W b x y = X b x y) ?_ ?_ ⟨X, by rw [show p + 1 + 0 = p + 1 by omega, show s - 1 - 0 = s - 1 by omega], fun i i0 i1 i2 => by omega, fun _ _ _ => rfl, fun _ _ _ _ => rfl⟩ (by omega) (by omega)
    · rintro t _ t0 t1 ⟨W, rfl, h1, h2, h3⟩
      show qW (qf_X13_nextRow_L107_b 20000 (p + 1 + t) (s - 1 - t) W) _
      have a1 := h2 (p + 1 + t) (by omega) (by omega)
      have a2 := h2 (s - 1 - t) (by omega) (by omega)
      unfold qf_X13_nextRow_L107_b qbnd
      rw [if_neg (by omega)]
      simp only [if_pos (show 0 ≤ p + 1 + t ∧ p + 1 + t < 6 by omega), if_pos (show 0 ≤ s - 1 - t ∧ s - 1 - t < 6 by omega)]
      rw [w32_id (x := p + 1 + t + 1) (by omega) (by omega), w32_id (x := s - 1 - t - 1) (by omega) (by omega), a1, a2]
      refine qW_some ⟨_, by rw [show p + 1 + (t + 1) = p + 1 + t + 1 by omega, show s - 1 - (t + 1) = s - 1 - t - 1 by omega], fun i i0 i1 i2 => ?_, fun i i0 i1 => ?_, fun b x y z => ?_⟩
      · by_cases e1 : i = s - 1 - t
        · rw [e1, show s + p - (s - 1 - t) = p + 1 + t by omega]
          exact qw_s
        · by_cases e2 : i = p + 1 + t
          · rw [e2, qw_i (by omega), show s + p - (p + 1 + t) = s - 1 - t by omega]
            exact qw_s
          · rw [qw_i e1, qw_i e2]
            exact h1 i i0 i1 (by omega)
      · rw [qw_i (by omega), qw_i (by omega)]
        exact h2 i (by omega) (by omega)
      · rw [qw_ap, if_neg (by omega), qw_ap, if_neg (by omega)]
        exact h3 b x y z
    · rintro _ ⟨W, rfl, h1, h2, h3⟩
      show qW (qf_X13_nextRow_L107_b 20000 (p + 1 + (s - 1 - p) / 2) (s - 1 - (s - 1 - p) / 2) W) _
      unfold qf_X13_nextRow_L107_b
      rw [if_pos (by omega)]
      refine qW_some ⟨W, rfl, fun i i0 i1 => ?_, h3⟩
      by_cases g : i < p + 1 + (s - 1 - p) / 2 ∨ s - 1 - (s - 1 - p) / 2 < i
      · exact h1 i i0 i1 g
      · rw [h2 i (by omega) (by omega), show s + p - i = i by omega]
  exact ⟨Y, e1, y1, y2⟩
/-- there is a next row: p is where it changes, q holds the one that comes there -/
theorem next_some (hs : K 2270 16 0 = s) (p0 : 0 ≤ p) (pq : p < q) (qs : q < s) (s6 : s ≤ 6) (hp : K 2282 p 0 < K 2282 (p + 1) 0) (hd : ∀ i, p < i → i + 1 < s → K 2282 (i + 1) 0 < K 2282 i 0) (hq : K 2282 p 0 < K 2282 q 0) (hd2 : ∀ i, q < i → i < s → K 2282 i 0 < K 2282 p 0) : ∃ Y, qf_X13_nextRow 20000 K = some (1, Y) ∧ Y 2282 p 0 = K 2282 q 0 ∧ (∀ i, p < i → i < s → Y 2282 i 0 = if s + p - i = q then K 2282 p 0 else K 2282 (s + p - i) 0) ∧ ∀ b x y, ¬ (b = 2282 ∧ p ≤ x ∧ x < s) → Y b x y = K b x y := by
  obtain ⟨X, hX⟩ : ∃ X, qw (qw K 2282 p 0 (K 2282 q 0)) 2282 q 0 (K 2282 p 0) = X := ⟨_, rfl⟩
  have fX : ∀ b x y, ¬ (b = 2282 ∧ (x = p ∨ x = q)) → X b x y = K b x y := fun b x y z => by rw [← hX, qw_ap, if_neg (by omega), qw_ap, if_neg (by omega)]
  have xp : X 2282 p 0 = K 2282 q 0 := by rw [← hX, qw_i (by omega)]; exact qw_s
  have xq : X 2282 q 0 = K 2282 p 0 := by rw [← hX]; exact qw_s
  have x16 : X 2270 16 0 = s := (fX _ _ _ (by omega)).trans hs
  obtain ⟨Y, e1, y1, y2⟩ := nx107_K (X := X) p0 (show p + 1 < s by omega) s6
  refine ⟨Y, ?_, ?_, fun i i0 i1 => ?_, fun b x y z => ?_⟩
  · unfold qf_X13_nextRow
    rw [hs, w32_id (x := s - 2) (by omega) (by omega), nx7_K p0 (by omega) s6 hp hd]
    simp only [Option.bind_some]
    unfold qf_X13_nextRow_J34 qbnd
    rw [if_pos p0, hs, w32_id (x := s - 1) (by omega) (by omega), nx47_K p0 pq qs s6 hq hd2]
    simp only [Option.bind_some]
    simp only [if_pos (show 0 ≤ p ∧ p < 6 by omega), if_pos (show 0 ≤ q ∧ q < 6 by omega)]
    rw [hX, x16, w32_id (x := s - 1) (by omega) (by omega), w32_id (x := p + 1) (by omega) (by omega), e1]
    rfl
  · rw [y2 _ _ _ (by omega)]
    exact xp
  · rw [y1 i i0 i1]
    by_cases g : s + p - i = q
    · rw [if_pos g, g]
      exact xq
    · rw [if_neg g]
      exact fX _ _ _ (by omega)
  · rw [y2 b x y (by omega)]
    exact fX b x y (by omega)
/-- there is none -/
theorem next_none (hs : K 2270 16 0 = s) (s0 : 0 ≤ s) (s6 : s ≤ 6) (hd : ∀ i, 0 ≤ i → i + 1 < s → K 2282 (i + 1) 0 < K 2282 i 0) : qf_X13_nextRow 20000 K = some (0, K) := by
  obtain ⟨o, e1, v, rfl, hv⟩ : qW (qf_X13_nextRow_L7 20000 20000 (s - 2) K) (fun o => ∃ v, o = .inr v ∧ v < 0) := by
    unfold qf_X13_nextRow_L7
    by_cases g : s ≤ 1
    · refine qW_for 0 (fun t i => i = s - 2 - t) ?_ ?_ (by omega) (by omega) (by omega)
      · rintro t _ t0 t1 _
        omega
      · rintro _ rfl
        unfold qf_X13_nextRow_L7_b
        rw [if_pos (by omega)]
        exact qW_some ⟨_, rfl, by omega⟩
    · refine qW_for (s - 1) (fun t i => i = s - 2 - t) ?_ ?_ (by omega) (by omega) (by omega)
      · rintro t _ t0 t1 rfl
        have d := hd (s - 2 - t) (by omega) (by omega)
        unfold qf_X13_nextRow_L7_b
        rw [if_neg (by omega), if_pos (show 0 ≤ s - 2 - t ∧ s - 2 - t < 6 by omega), w32_id (x := s - 2 - t + 1) (by omega) (by omega), if_pos (show 0 ≤ s - 2 - t + 1 ∧ s - 2 - t + 1 < 6 by omega), if_neg (by omega), w32_id (x := s - 2 - t - 1) (by omega) (by omega)]
        exact qW_some (by omega)
      · rintro _ rfl
        unfold qf_X13_nextRow_L7_b
        rw [if_pos (by omega)]
        exact qW_some ⟨_, rfl, by omega⟩
  unfold qf_X13_nextRow
  rw [hs, w32_id (x := s - 2) (by omega) (by omega), e1]
  simp only [Option.bind_some]
  unfold qf_X13_nextRow_J34
  rw [if_neg (by omega)]
end GVb
