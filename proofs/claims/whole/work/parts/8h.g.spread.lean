/-! ===== passing: smoke, both sides ===== -/
section PSg
variable {M K N A B C D D0 E F G H T V W Y Z K0 M0 Kv : qm} {a b c d k n m p r s t u v x y h i j R S w l z τ : Int} {q stt cnt o f : Int → Int}
theorem spread_K (h_lines : R_lines M K) (h_ends : R_ends M K) (h_doorn : R_doorn M K) (h_doors : R_doors M K) (h_smoke : R_smoke M K) (one : ∀ l k, 0 ≤ l → l < (M 7 0 0) → 0 ≤ k → k < (M 7 0 0) → ∀ d x y, onU M l d x y → onU M k d x y → l = k) : ∃ K', qf_X18_spread 20000 K = some ((), K') ∧ (∀ e x y, e ≠ 2326 → e ≠ 2327 → K' e x y = K e x y) ∧ ∀ x y, 0 ≤ x → x < 24 → 0 ≤ y → y < 24 → (K' 2326 (24 * y + x) 0 = 0 ∨ K' 2326 (24 * y + x) 0 = 1) ∧ (K' 2326 (24 * y + x) 0 ≠ 0 ↔ SPR M (24 * x + y)) := by
  obtain ⟨o, e1, W, rfl, h1, h2⟩ : qW (qf_X18_spread_L2 20000 20000 0 K) (fun o => ∃ W, o = .inr ((), W) ∧ (∀ e x y, e ≠ 2327 → W e x y = K e x y) ∧ ∀ c, 0 ≤ c → c < 576 → (W 2327 c 0 = 0 ∨ W 2327 c 0 = 1) ∧ (W 2327 c 0 ≠ 0 ↔ SPR M (24 * (c % 24) + c / 24))) := by
    unfold qf_X18_spread_L2
    refine qW_for 576 (fun i r => ∃ W, r = (i, W) ∧ (∀ e x y, e ≠ 2327 → W e x y = K e x y) ∧ ∀ c, 0 ≤ c → c < i → (W 2327 c 0 = 0 ∨ W 2327 c 0 = 1) ∧ (W 2327 c 0 ≠ 0 ↔ SPR M (24 * (c % 24) + c / 24))) ?_ ?_ ⟨K, rfl, fun _ _ _ _ => rfl, fun c c0 c1 => by omega⟩ (by omega) (by omega)
    · rintro i _ i0 i1 ⟨W, rfl, h1, h2⟩
      obtain ⟨x, hx⟩ : ∃ x, i % 24 = x := ⟨_, rfl⟩
      obtain ⟨y, hy⟩ : ∃ y, i / 24 = y := ⟨_, rfl⟩
      have ei : 24 * y + x = i := by omega
      have sm := h_smoke x y (by omega) (by omega) (by omega) (by omega)
      rw [ei] at sm
      obtain ⟨W1, hW1⟩ : ∃ X, qw W 2327 i 0 (K 2326 i 0) = X := ⟨_, rfl⟩
      have f1 : ∀ e x' y', ¬ (e = 2327 ∧ x' = i ∧ y' = 0) → W1 e x' y' = W e x' y' := fun e x' y' z => by rw [← hW1, qw_ap, if_neg z]
      obtain ⟨V, v1, v2, v3, v4⟩ := ways_K (W := W1) h_lines h_ends h_doorn h_doors h_smoke one (x := x) (y := y) (by omega) (by omega) (by omega) (by omega) (fun e x y z => (f1 e x y (by omega)).trans (h1 e x y z)) (by rw [ei, ← hW1]; exact qw_s)
      rw [ei] at v1 v2 v3 v4
      show qW (qf_X18_spread_L2_b 20000 i W) _
      unfold qf_X18_spread_L2_b qbnd
      rw [if_neg (show ¬ 576 ≤ i by omega), h1 2326 i 0 (by decide), if_pos (show 0 ≤ i ∧ i < 576 from ⟨i0, i1⟩), if_pos (show (0 ≤ i ∧ i < 576) ∧ (K 2326 i 0 = 0 ∨ K 2326 i 0 = 1) from ⟨⟨i0, i1⟩, sm.2⟩)]
      (try dsimp only)
      rw [hW1, v1]
      simp only [Option.bind_some]
      rw [w32_id (x := i + 1) (by omega) (by omega)]
      refine qW_some ⟨V, rfl, fun e x y z => ((v2 e x y (by omega)).trans (f1 e x y (by omega))).trans (h1 e x y z), fun c c0 c1 => ?_⟩
      by_cases e : c = i
      · rw [e, hx, hy]
        exact ⟨v3, v4⟩
      · rw [v2 _ _ _ (by omega), f1 _ _ _ (by omega)]
        exact h2 c c0 (by omega)
    · rintro _ ⟨W, rfl, h1, h2⟩
      show qW (qf_X18_spread_L2_b 20000 576 W) _
      unfold qf_X18_spread_L2_b
      rw [if_pos (Int.le_refl _)]
      exact qW_some ⟨W, rfl, h1, h2⟩
  obtain ⟨o, e2, K', rfl, g1, g2⟩ : qW (qf_X18_spread_L121 20000 20000 0 W) (fun o => ∃ V, o = .inr ((), V) ∧ (∀ e x y, e ≠ 2326 → V e x y = W e x y) ∧ ∀ c, 0 ≤ c → c < 576 → V 2326 c 0 = W 2327 c 0) := by
    unfold qf_X18_spread_L121
    refine qW_for 576 (fun i r => ∃ V, r = (i, V) ∧ (∀ e x y, e ≠ 2326 → V e x y = W e x y) ∧ ∀ c, 0 ≤ c → c < i → V 2326 c 0 = W 2327 c 0) ?_ ?_ ⟨W, rfl, fun _ _ _ _ => rfl, fun c c0 c1 => by omega⟩ (by omega) (by omega)
    · rintro i _ i0 i1 ⟨V, rfl, g1, g2⟩
      show qW (qf_X18_spread_L121_b 20000 i V) _
      unfold qf_X18_spread_L121_b qbnd
      rw [if_neg (show ¬ 576 ≤ i by omega), g1 2327 i 0 (by decide), if_pos (show 0 ≤ i ∧ i < 576 from ⟨i0, i1⟩), if_pos (show (0 ≤ i ∧ i < 576) ∧ (W 2327 i 0 = 0 ∨ W 2327 i 0 = 1) from ⟨⟨i0, i1⟩, (h2 i i0 i1).1⟩), w32_id (x := i + 1) (by omega) (by omega)]
      refine qW_some ⟨_, rfl, fun e x y z => (qw_a z).trans (g1 e x y z), fun c c0 c1 => ?_⟩
      by_cases e : c = i
      · rw [e]
        exact qw_s
      · rw [qw_i e]
        exact g2 c c0 (by omega)
    · rintro _ ⟨V, rfl, g1, g2⟩
      show qW (qf_X18_spread_L121_b 20000 576 V) _
      unfold qf_X18_spread_L121_b
      rw [if_pos (Int.le_refl _)]
      exact qW_some ⟨V, rfl, g1, g2⟩
  refine ⟨K', ?_, fun e x y z1 z2 => (g1 e x y z1).trans (h1 e x y z2), fun x y x0 x1 y0 y1 => ?_⟩
  · unfold qf_X18_spread
    rw [e1]
    simp only [Option.bind_some]
    rw [e2]
    rfl
  · have q := h2 (24 * y + x) (by omega) (by omega)
    rw [show (24 * y + x) % 24 = x by omega, show (24 * y + x) / 24 = y by omega] at q
    rw [g2 _ (by omega) (by omega)]
    exact q
/-- smoke spreads: both sides -/
theorem spread_both (h_lines : R_lines M K) (h_ends : R_ends M K) (h_doorn : R_doorn M K) (h_doors : R_doors M K) (h_spaceof : R_spaceof M K) (hb : M 6 11 0 ≠ 0) (h : FNW M K M0 K0 A D0 D E F G H C q m p R stt cnt) (hc : CUR M M0) (hs : SMK M K) (hτ : 0 ≤ τ) (ht : τ % 10 = 0) (one : ∀ l k, 0 ≤ l → l < (M 7 0 0) → 0 ≤ k → k < (M 7 0 0) → ∀ d x y, onU M l d x y → onU M k d x y → l = k) : ∃ M' K', qf_X10_spreadSmoke 20000 τ M = some ((), M') ∧ qf_X18_spread 20000 K = some ((), K') ∧ SMK M' K' ∧ (∀ e x y, ¬ (e = 756 ∧ x = 4) → e ≠ 757 → e ≠ 758 → e ≠ 760 → M' e x y = M e x y) ∧ (∀ e x y, e ≠ 2326 → e ≠ 2327 → K' e x y = K e x y) := by
  obtain ⟨Z, Kv, e1, s1, s2, s3, s4⟩ := spread_C (τ := τ) h_lines h_ends h_doorn h_doors h_spaceof hb h hc hs hτ ht
  obtain ⟨K', e2, k1, k2⟩ := spread_K h_lines h_ends h_doorn h_doors hs.1 one
  have eq : ∀ c, 0 ≤ c → c < 576 → K' 2326 c 0 = Kv 2326 c 0 := fun c c0 c1 => by
    obtain ⟨x, hx⟩ : ∃ x, c % 24 = x := ⟨_, rfl⟩
    obtain ⟨y, hy⟩ : ∃ y, c / 24 = y := ⟨_, rfl⟩
    have ei : 24 * y + x = c := by omega
    have a1 := k2 x y (by omega) (by omega) (by omega) (by omega)
    have a2 := s4 x y (by omega) (by omega) (by omega) (by omega)
    have a3 := (s1.1 x y (by omega) (by omega) (by omega) (by omega)).2
    rw [ei] at a1 a2 a3
    by_cases g : SPR M (24 * x + y)
    · have b1 := a1.2.mpr g
      have b2 := a2.mpr g
      have b3 := a1.1
      clear a1 a2
      omega
    · have b1 : K' 2326 c 0 = 0 := Classical.byContradiction (fun z => g (a1.2.mp z))
      have b2 : Kv 2326 c 0 = 0 := Classical.byContradiction (fun z => g (a2.mp z))
      rw [b1, b2]
  have e29 : ∀ c, K' 2329 c 0 = Kv 2329 c 0 := fun c => (k1 _ _ _ (by decide) (by decide)).trans (s3 _ _ _ (by decide)).symm
  refine ⟨Z, K', e1, e2, ⟨fun x y x0 x1 y0 y1 => ?_, ?_, fun r r0 r1 => ?_⟩, s2, k1⟩
  · rw [eq _ (by omega) (by omega)]
    exact s1.1 x y x0 x1 y0 y1
  · have z := s1.2.1
    unfold R_smoky at z ⊢
    rw [z]
    refine sI_c (fun c c0 c1 => ?_)
    rw [eq c c0 c1]
  · rw [s1.2.2 r r0 r1]
    refine sI_c (fun c c0 c1 => ?_)
    rw [eq c c0 c1, e29]
end PSg
