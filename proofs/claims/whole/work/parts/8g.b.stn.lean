/-! ===== the bus: a station; it begins to say ===== -/
section BUb
variable {M K M' K' Z A : qm} {a b i j k v w x y s I : Int} {n m r : Nat} {q : Int → Int}
/-- a station on both sides -/
def STN (M K : qm) (s : Int) : Prop := (K 2258 s 0 = M 1140 s 0) ∧ (0 ≤ M 1140 s 0) ∧ (M 1140 s 0 ≤ 6) ∧ (K 2260 s 0 = M 1140 s 1) ∧ (-1 ≤ M 1140 s 1) ∧ (K 2261 s 0 = M 1140 s 2) ∧ (-1 ≤ M 1140 s 2) ∧ (K 2264 s 0 = M 1140 s 3 ∧ K 2265 s 0 = M 1140 s 4 ∧ K 2266 s 0 = M 1140 s 5) ∧ (K 2255 s 0 = M 1140 s 6 ∧ 0 ≤ M 1140 s 6 ∧ M 1140 s 6 < 65536) ∧ (K 2257 s 0 = M 1140 s 7 ∧ (M 1140 s 7 = 0 ∨ M 1140 s 7 = 1)) ∧ ((K 2262 s 0 = -1 ∧ M 1140 s 9 = -1) ∨ (K 2262 s 0 = M 1140 s 8 ∧ 0 ≤ M 1140 s 8 ∧ M 1140 s 8 < 256 ∧ K 2263 s 0 = M 1140 s 9 ∧ 0 ≤ M 1140 s 9 ∧ M 1140 s 9 ≤ 10)) ∧ (∀ k, 0 ≤ k → k < M 1140 s 0 → qOK (qC M s k) ∧ (0 < k → qC M s k 6 = 0) ∧ tgIn K (qC M s k) (144 * s + 24 * k)) ∧ (0 ≤ M 1140 s 1 → 0 < M 1140 s 0 ∧ M 1140 s 2 = -1 ∧ M 1140 s 1 < 13 * (qC M s 0 4 + 7) - 2 ∧ ∀ j, 0 ≤ j → j < qC M s 0 4 + 7 → M 1158 s j = K 2259 (144 * s + j) 0) ∧ (0 ≤ M 1140 s 2 → 0 < M 1140 s 0) ∧ (M 1140 s 2 = -1 → 0 < M 1140 s 0 → qC M s 0 6 ≤ 3)
theorem STN.qd {M K : qm} {s : Int} (h : STN M K s) : K 2258 s 0 = M 1140 s 0 := h.1
theorem STN.q0 {M K : qm} {s : Int} (h : STN M K s) : 0 ≤ M 1140 s 0 := h.2.1
theorem STN.q6 {M K : qm} {s : Int} (h : STN M K s) : M 1140 s 0 ≤ 6 := h.2.2.1
theorem STN.sy {M K : qm} {s : Int} (h : STN M K s) : K 2260 s 0 = M 1140 s 1 := h.2.2.2.1
theorem STN.s0 {M K : qm} {s : Int} (h : STN M K s) : -1 ≤ M 1140 s 1 := h.2.2.2.2.1
theorem STN.wt {M K : qm} {s : Int} (h : STN M K s) : K 2261 s 0 = M 1140 s 2 := h.2.2.2.2.2.1
theorem STN.w0 {M K : qm} {s : Int} (h : STN M K s) : -1 ≤ M 1140 s 2 := h.2.2.2.2.2.2.1
theorem STN.ct {M K : qm} {s : Int} (h : STN M K s) : K 2264 s 0 = M 1140 s 3 ∧ K 2265 s 0 = M 1140 s 4 ∧ K 2266 s 0 = M 1140 s 5 := h.2.2.2.2.2.2.2.1
theorem STN.ad {M K : qm} {s : Int} (h : STN M K s) : K 2255 s 0 = M 1140 s 6 ∧ 0 ≤ M 1140 s 6 ∧ M 1140 s 6 < 65536 := h.2.2.2.2.2.2.2.2.1
theorem STN.bs {M K : qm} {s : Int} (h : STN M K s) : K 2257 s 0 = M 1140 s 7 ∧ (M 1140 s 7 = 0 ∨ M 1140 s 7 = 1) := h.2.2.2.2.2.2.2.2.2.1
theorem STN.an {M K : qm} {s : Int} (h : STN M K s) : (K 2262 s 0 = -1 ∧ M 1140 s 9 = -1) ∨ (K 2262 s 0 = M 1140 s 8 ∧ 0 ≤ M 1140 s 8 ∧ M 1140 s 8 < 256 ∧ K 2263 s 0 = M 1140 s 9 ∧ 0 ≤ M 1140 s 9 ∧ M 1140 s 9 ≤ 10) := h.2.2.2.2.2.2.2.2.2.2.1
theorem STN.qu {M K : qm} {s : Int} (h : STN M K s) : ∀ k, 0 ≤ k → k < M 1140 s 0 → qOK (qC M s k) ∧ (0 < k → qC M s k 6 = 0) ∧ tgIn K (qC M s k) (144 * s + 24 * k) := h.2.2.2.2.2.2.2.2.2.2.2.1
theorem STN.sp {M K : qm} {s : Int} (h : STN M K s) : 0 ≤ M 1140 s 1 → 0 < M 1140 s 0 ∧ M 1140 s 2 = -1 ∧ M 1140 s 1 < 13 * (qC M s 0 4 + 7) - 2 ∧ ∀ j, 0 ≤ j → j < qC M s 0 4 + 7 → M 1158 s j = K 2259 (144 * s + j) 0 := h.2.2.2.2.2.2.2.2.2.2.2.2.1
theorem STN.ws {M K : qm} {s : Int} (h : STN M K s) : 0 ≤ M 1140 s 2 → 0 < M 1140 s 0 := h.2.2.2.2.2.2.2.2.2.2.2.2.2.1
theorem STN.tm {M K : qm} {s : Int} (h : STN M K s) : M 1140 s 2 = -1 → 0 < M 1140 s 0 → qC M s 0 6 ≤ 3 := h.2.2.2.2.2.2.2.2.2.2.2.2.2.2
theorem stn_o (h : STN M K s) (e1 : ∀ j, M' 1140 s j = M 1140 s j) (e2 : ∀ j, M' 1149 s j = M 1149 s j) (e3 : ∀ j, M' 1158 s j = M 1158 s j) (e4 : ∀ b, 2255 ≤ b → b ≤ 2266 → b ≠ 2256 → b ≠ 2259 → K' b s 0 = K b s 0) (e5 : ∀ i, 144 * s ≤ i → i < 144 * s + 144 → K' 2259 i 0 = K 2259 i 0) : STN M' K' s := by
  have eq : ∀ k, qC M' s k = qC M s k := fun k => funext fun i => e2 (7 * k + i)
  refine ⟨?_, ?_, ?_, ?_, ?_, ?_, ?_, ?_, ?_, ?_, ?_, ?_, ?_, ?_, ?_⟩
  · rw [e4 2258 (by decide) (by decide) (by decide) (by decide), e1]
    exact h.qd
  · rw [e1]
    exact h.q0
  · rw [e1]
    exact h.q6
  · rw [e4 2260 (by decide) (by decide) (by decide) (by decide), e1]
    exact h.sy
  · rw [e1]
    exact h.s0
  · rw [e4 2261 (by decide) (by decide) (by decide) (by decide), e1]
    exact h.wt
  · rw [e1]
    exact h.w0
  · rw [e4 2264 (by decide) (by decide) (by decide) (by decide), e4 2265 (by decide) (by decide) (by decide) (by decide), e4 2266 (by decide) (by decide) (by decide) (by decide), e1, e1, e1]
    exact h.ct
  · rw [e4 2255 (by decide) (by decide) (by decide) (by decide), e1]
    exact h.ad
  · rw [e4 2257 (by decide) (by decide) (by decide) (by decide), e1]
    exact h.bs
  · rw [e4 2262 (by decide) (by decide) (by decide) (by decide), e4 2263 (by decide) (by decide) (by decide) (by decide), e1, e1]
    exact h.an
  · intro k k0 k1
    rw [e1] at k1
    obtain ⟨h1, h2, h3⟩ := h.qu k k0 k1
    have := h.q6
    rw [eq]
    exact ⟨h1, h2, tgIn_x h3 (fun i i0 i1 => e5 i (by omega) (by omega)) (fun _ _ _ => rfl) h1⟩
  · rw [e1, e1, e1, eq]
    intro z
    obtain ⟨h1, h2, h3, h4⟩ := h.sp z
    have ok := (h.qu 0 (by omega) h1).1
    unfold qOK at ok
    refine ⟨h1, h2, h3, fun j j0 j1 => ?_⟩
    rw [e3, e5 _ (by omega) (by omega)]
    exact h4 j j0 j1
  · rw [e1, e1]
    exact h.ws
  · rw [e1, e1, eq]
    exact h.tm
theorem qC_0 : qC M s 0 i = M 1149 s i := by
  show M 1149 s (7 * 0 + i) = M 1149 s i
  rw [show 7 * 0 + i = i by omega]
theorem spell_C (s0 : 0 ≤ s) (s1 : s < 8) (hq : qC M s 0 = q) (ok : qOK q) : ∃ Y, qf_X1_spell 20000 s s M = some ((), Y) ∧ (∀ e x y, ¬ (e = 1158 ∧ x = s) → Y e x y = M e x y) ∧ ∀ j, 0 ≤ j → j < q 4 + 7 → Y 1158 s j = tgA q j := by
  have e : ∀ i, M 1149 s i = q i := fun i => by
    rw [← hq]
    exact qC_0.symm
  have okk := ok
  unfold qOK at ok
  obtain ⟨o0, o1, o2, o3, o4, o5, o6, o7, o8, o9, o10, o11, o12⟩ := ok
  have okq3 : 0 ≤ q 3 ∧ q 3 ≤ 1 := by omega
  -- the loop
  have loop : ∀ Z : qm, (∀ e x y, ¬ (e = 1158 ∧ x = s) → Z e x y = M e x y) → (∀ j, 0 ≤ j → j < 6 → Z 1158 s j = tgB q j) → ∃ Y, qf_X1_spell_L97 20000 20000 s s (q 4) 255 0 Z = some (.inr (xrF (tgB q) (q 4 + 6).toNat, Y)) ∧ (∀ e x y, ¬ (e = 1158 ∧ x = s) → Y e x y = M e x y) ∧ ∀ j, 0 ≤ j → j < q 4 + 6 → Y 1158 s j = tgB q j := fun Z fZ hZ => by
    obtain ⟨o, e1, Y, rfl, y1, y2⟩ : qW (qf_X1_spell_L97 20000 20000 s s (q 4) 255 0 Z) (fun o => ∃ Y, o = .inr (xrF (tgB q) (q 4 + 6).toNat, Y) ∧ (∀ e x y, ¬ (e = 1158 ∧ x = s) → Y e x y = M e x y) ∧ ∀ j, 0 ≤ j → j < q 4 + 6 → Y 1158 s j = tgB q j) := by
      unfold qf_X1_spell_L97
      refine qW_for (q 4 + 6) (fun i r => ∃ Y, r = (s, s, q 4, xrF (tgB q) i.toNat, i, Y) ∧ (∀ e x y, ¬ (e = 1158 ∧ x = s) → Y e x y = M e x y) ∧ ∀ j, 0 ≤ j → (j < 6 ∨ j < i) → Y 1158 s j = tgB q j) ?_ ?_ ⟨Z, rfl, fZ, fun j j0 j1 => hZ j j0 (by omega)⟩ (by omega) (by omega)
      · rintro i _ i0 i1 ⟨Y, rfl, h1, h2⟩
        have nx : ∀ V : qm, (∀ j, 0 ≤ j → (j < 6 ∨ j < i + 1) → V 1158 s j = tgB q j) → qf_X1_spell_J137 20000 s s (q 4) (xrF (tgB q) i.toNat) i V = some (.inr (s, s, q 4, xrF (tgB q) (i + 1).toNat, i + 1, V)) := fun V v2 => by
          unfold qf_X1_spell_J137
          rw [if_pos (show 0 ≤ i ∧ i < 22 by omega), v2 i i0 (by omega), w32_id (x := i + 1) (by omega) (by omega)]
          have ex : xrF (tgB q) (i + 1).toNat = bX (xrF (tgB q) i.toNat) (tgB q i) := by
            rw [show (i + 1).toNat = i.toNat + 1 by omega]
            show bX (xrF (tgB q) i.toNat) (tgB q ((i.toNat : Nat) : Int)) = _
            rw [show ((i.toNat : Nat) : Int) = i by omega]
          rw [ex]
        show qW (qf_X1_spell_L97_b 20000 s s (q 4) (xrF (tgB q) i.toNat) i Y) _
        unfold qf_X1_spell_L97_b qbnd
        rw [w32_id (x := 6 + q 4) (by omega) (by omega), if_neg (show ¬ 6 + q 4 ≤ i by omega), if_neg (show ¬ 21 ≤ i by omega)]
        by_cases g : i < 6
        · rw [if_pos g]
          exact qW_at (nx Y (fun j j0 j1 => h2 j j0 (by omega))) ⟨Y, rfl, h1, fun j j0 j1 => h2 j j0 (by omega)⟩
        · rw [if_neg g, if_pos (show 0 ≤ i ∧ i < 22 by omega), h1 1149 s 5 (by omega), e, w32_id (x := q 5 + i) (by omega) (by omega), w32_id (x := q 5 + i - 6) (by omega) (by omega), tm_e (show 0 ≤ q 5 + i - 6 by omega)]
          (try dsimp only)
          have val : ∀ j, 0 ≤ j → (j < 6 ∨ j < i + 1) → qw Y 1158 s i ((q 5 + i - 6) % 256) 1158 s j = tgB q j := fun j j0 j1 => by
            by_cases ej : j = i
            · rw [ej]
              refine Eq.trans qw_s ?_
              unfold tgB
              rw [if_neg (by omega), if_neg (by omega), if_neg (by omega), if_neg (by omega), if_neg (by omega), if_neg (by omega), show q 5 + i - 6 = q 5 + (i - 6) by omega]
            · rw [qw_ap, if_neg (by omega)]
              exact h2 j j0 (by omega)
          refine qW_at (nx _ val) ⟨_, rfl, fun e x y z => ?_, val⟩
          rw [qw_ap, if_neg (by omega)]
          exact h1 e x y z
      · rintro _ ⟨Y, rfl, h1, h2⟩
        show qW (qf_X1_spell_L97_b 20000 s s (q 4) (xrF (tgB q) (q 4 + 6).toNat) (q 4 + 6) Y) _
        unfold qf_X1_spell_L97_b
        rw [w32_id (x := 6 + q 4) (by omega) (by omega), if_pos (show 6 + q 4 ≤ q 4 + 6 by omega)]
        exact qW_some ⟨Y, rfl, h1, fun j j0 j1 => h2 j j0 (by omega)⟩
    exact ⟨Y, e1, y1, y2⟩
  -- its end
  have ends : ∀ Z : qm, (∀ e x y, ¬ (e = 1158 ∧ x = s) → Z e x y = M e x y) → (∀ j, 0 ≤ j → j < 5 → Z 1158 s j = tgB q j) → ∀ g : Int, g = (if q 3 = 0 then 0 else 128) → ∃ Y, qf_X1_spell_J85 20000 s s (q 4) s 5 g Z = some ((), Y) ∧ (∀ e x y, ¬ (e = 1158 ∧ x = s) → Y e x y = M e x y) ∧ ∀ j, 0 ≤ j → j < q 4 + 7 → Y 1158 s j = tgA q j := fun Z fZ hZ g hg => by
    have gb : 0 ≤ g ∧ g ≤ 128 := by
      rw [hg]
      by_cases z : q 3 = 0
      · rw [if_pos z]
        omega
      · rw [if_neg z]
        omega
    obtain ⟨Z1, hZ1⟩ : ∃ Z1, qw Z 1158 s 5 (g + q 4 - 1) = Z1 := ⟨_, rfl⟩
    obtain ⟨Y, e1, y1, y2⟩ := loop Z1 (fun e x y z => by rw [← hZ1, qw_ap, if_neg (by omega)]; exact fZ e x y z) (fun j j0 j1 => by
      rw [← hZ1]
      by_cases ej : j = 5
      · rw [ej]
        refine Eq.trans qw_s ?_
        unfold tgB
        rw [if_neg (by omega), if_neg (by omega), if_neg (by omega), if_neg (by omega), if_neg (by omega), if_pos rfl, ← hg]
        omega
      · rw [qw_ap, if_neg (by omega)]
        exact hZ j j0 (by omega))
    refine ⟨qw Y 1158 s (6 + q 4) (xrF (tgB q) (q 4 + 6).toNat), ?_, fun e x y z => ?_, fun j j0 j1 => ?_⟩
    · unfold qf_X1_spell_J85 qf_X1_spell_J150 qbnd
      rw [if_pos (show 0 ≤ (5 : Int) ∧ (5 : Int) < 22 by decide), w32_id (x := g + q 4) (by omega) (by omega), w32_id (x := g + q 4 - 1) (by omega) (by omega)]
      (try dsimp only)
      rw [hZ1, e1]
      simp only [Option.bind_some]
      rw [w32_id (x := 6 + q 4) (by omega) (by omega), if_pos (show 0 ≤ 6 + q 4 ∧ 6 + q 4 < 22 by omega)]
    · rw [qw_ap, if_neg (by omega)]
      exact y1 e x y z
    · by_cases ej : j = 6 + q 4
      · rw [ej]
        refine Eq.trans qw_s ?_
        unfold tgA
        rw [if_neg (by omega)]
      · rw [qw_ap, if_neg (by omega), y2 j j0 (by omega)]
        unfold tgA
        rw [if_pos (by omega)]
  -- its head
  have head : ∀ g : Int, g = (if 0 < q 6 then 32 else 0) → ∃ Y, qf_X1_spell_J28 20000 s s (q 4) s 0 (176 + 4 * q 0) g M = some ((), Y) ∧ (∀ e x y, ¬ (e = 1158 ∧ x = s) → Y e x y = M e x y) ∧ ∀ j, 0 ≤ j → j < q 4 + 7 → Y 1158 s j = tgA q j := fun g hg => by
    have gb : 0 ≤ g ∧ g ≤ 32 := by
      rw [hg]
      by_cases z : 0 < q 6
      · rw [if_pos z]
        omega
      · rw [if_neg z]
        omega
    obtain ⟨Z1, hZ1⟩ : ∃ Z1, qw M 1158 s 0 (176 + 4 * q 0 - g) = Z1 := ⟨_, rfl⟩
    obtain ⟨Z2, hZ2⟩ : ∃ Z2, qw Z1 1158 s 1 (q 1 / 256) = Z2 := ⟨_, rfl⟩
    obtain ⟨Z3, hZ3⟩ : ∃ Z3, qw Z2 1158 s 2 (q 1 % 256) = Z3 := ⟨_, rfl⟩
    obtain ⟨Z4, hZ4⟩ : ∃ Z4, qw Z3 1158 s 3 (q 2 / 256) = Z4 := ⟨_, rfl⟩
    obtain ⟨Z5, hZ5⟩ : ∃ Z5, qw Z4 1158 s 4 (q 2 % 256) = Z5 := ⟨_, rfl⟩
    have f1 : ∀ e x y, ¬ (e = 1158 ∧ x = s) → Z1 e x y = M e x y := fun e x y z => by rw [← hZ1, qw_ap, if_neg (by omega)]
    have f2 : ∀ e x y, ¬ (e = 1158 ∧ x = s) → Z2 e x y = M e x y := fun e x y z => by rw [← hZ2, qw_ap, if_neg (by omega)]; exact f1 e x y z
    have f3 : ∀ e x y, ¬ (e = 1158 ∧ x = s) → Z3 e x y = M e x y := fun e x y z => by rw [← hZ3, qw_ap, if_neg (by omega)]; exact f2 e x y z
    have f4 : ∀ e x y, ¬ (e = 1158 ∧ x = s) → Z4 e x y = M e x y := fun e x y z => by rw [← hZ4, qw_ap, if_neg (by omega)]; exact f3 e x y z
    have f5 : ∀ e x y, ¬ (e = 1158 ∧ x = s) → Z5 e x y = M e x y := fun e x y z => by rw [← hZ5, qw_ap, if_neg (by omega)]; exact f4 e x y z
    have v5 : ∀ j, 0 ≤ j → j < 5 → Z5 1158 s j = tgB q j := fun j j0 j1 => by
      have cs : j = 0 ∨ j = 1 ∨ j = 2 ∨ j = 3 ∨ j = 4 := by omega
      unfold tgB
      rw [← hg]
      rcases cs with rfl | rfl | rfl | rfl | rfl
      · rw [if_pos rfl, ← hZ5, qw_ap, if_neg (by omega), ← hZ4, qw_ap, if_neg (by omega), ← hZ3, qw_ap, if_neg (by omega), ← hZ2, qw_ap, if_neg (by omega), ← hZ1]
        exact qw_s
      · rw [if_neg (by decide), if_pos rfl, ← hZ5, qw_ap, if_neg (by omega), ← hZ4, qw_ap, if_neg (by omega), ← hZ3, qw_ap, if_neg (by omega), ← hZ2]
        exact qw_s
      · rw [if_neg (by decide), if_neg (by decide), if_pos rfl, ← hZ5, qw_ap, if_neg (by omega), ← hZ4, qw_ap, if_neg (by omega), ← hZ3]
        exact qw_s
      · rw [if_neg (by decide), if_neg (by decide), if_neg (by decide), if_pos rfl, ← hZ5, qw_ap, if_neg (by omega), ← hZ4]
        exact qw_s
      · rw [if_neg (by decide), if_neg (by decide), if_neg (by decide), if_neg (by decide), if_pos rfl, ← hZ5]
        exact qw_s
    have go : qf_X1_spell_J28 20000 s s (q 4) s 0 (176 + 4 * q 0) g M = (if q 3 = 0 then qf_X1_spell_J85 20000 s s (q 4) s 5 0 Z5 else qf_X1_spell_J85 20000 s s (q 4) s 5 128 Z5) := by
      unfold qf_X1_spell_J28 qbnd
      rw [if_pos (show 0 ≤ (0 : Int) ∧ (0 : Int) < 22 by decide), w32_id (x := 176 + 4 * q 0 - g) (by omega) (by omega)]
      simp only [hZ1]
      rw [f1 1149 s 1 (by omega), e, td_e o2]
      simp only [hZ2]
      rw [f2 1149 s 1 (by omega), e, tm_e o2]
      simp only [hZ3]
      rw [f3 1149 s 2 (by omega), e, td_e o4]
      simp only [hZ4]
      rw [f4 1149 s 2 (by omega), e, tm_e o4]
      simp only [hZ5]
      rw [f5 1149 s 3 (by omega), e]
    by_cases z : q 3 = 0
    · rw [if_pos z] at go
      rw [go]
      exact ends Z5 f5 v5 0 (by rw [if_pos z])
    · rw [if_neg z] at go
      rw [go]
      exact ends Z5 f5 v5 128 (by rw [if_neg z])
  unfold qf_X1_spell
  rw [e, e, e, w32_id (x := 4 * q 0) (by omega) (by omega), w32_id (x := 176 + 4 * q 0) (by omega) (by omega)]
  by_cases z : q 6 ≤ 0
  · rw [if_pos z]
    exact head 0 (by rw [if_neg (show ¬ 0 < q 6 by omega)])
  · rw [if_neg z]
    exact head 32 (by rw [if_pos (show 0 < q 6 by omega)])
end BUb
