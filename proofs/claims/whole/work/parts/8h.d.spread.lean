/-! ===== passing: smoke spreads in the class ===== -/
section PSd
variable {M K N A B C D D0 E F G H T V W Y Z K0 M0 Kv : qm} {a b c d k n m p r s t u v x y h i j R S w l z : Int} {q stt cnt o f : Int → Int} {P : Int → Int → Prop}
theorem srcs_C (hs : ∀ c, 0 ≤ c → c < 576 → M 757 c 0 = 0 ∨ M 757 c 0 = 1) : ∃ n Y, qf_X10_spreadSmoke_L12 20000 20000 0 0 M = some (.inr (n, Y)) ∧ 0 ≤ n ∧ n ≤ 576 ∧ (∀ e x y, e ≠ 760 → Y e x y = M e x y) ∧ (∀ j, 0 ≤ j → j < n → 0 ≤ Y 760 j 0 ∧ Y 760 j 0 < 576 ∧ M 757 (Y 760 j 0) 0 ≠ 0) ∧ ∀ c, 0 ≤ c → c < 576 → M 757 c 0 ≠ 0 → ∃ j, 0 ≤ j ∧ j < n ∧ Y 760 j 0 = c := by
  obtain ⟨o, e1, n, Y, rfl, y0, y1, y2, y3, y4⟩ : qW (qf_X10_spreadSmoke_L12 20000 20000 0 0 M) (fun o => ∃ n Y, o = .inr (n, Y) ∧ 0 ≤ n ∧ n ≤ 576 ∧ (∀ e x y, e ≠ 760 → Y e x y = M e x y) ∧ (∀ j, 0 ≤ j → j < n → 0 ≤ Y 760 j 0 ∧ Y 760 j 0 < 576 ∧ M 757 (Y 760 j 0) 0 ≠ 0) ∧ ∀ c, 0 ≤ c → c < 576 → M 757 c 0 ≠ 0 → ∃ j, 0 ≤ j ∧ j < n ∧ Y 760 j 0 = c) := by
    unfold qf_X10_spreadSmoke_L12
    refine qW_for 576 (fun i r => ∃ n Y, r = (n, i, Y) ∧ 0 ≤ n ∧ n ≤ i ∧ (∀ e x y, e ≠ 760 → Y e x y = M e x y) ∧ (∀ j, 0 ≤ j → j < n → 0 ≤ Y 760 j 0 ∧ Y 760 j 0 < 576 ∧ M 757 (Y 760 j 0) 0 ≠ 0) ∧ ∀ c, 0 ≤ c → c < i → M 757 c 0 ≠ 0 → ∃ j, 0 ≤ j ∧ j < n ∧ Y 760 j 0 = c) ?_ ?_ ⟨0, M, rfl, Int.le_refl _, Int.le_refl _, fun _ _ _ _ => rfl, fun j j0 j1 => by omega, fun c c0 c1 => by omega⟩ (by omega) (by omega)
    · rintro i _ i0 i1 ⟨n, Y, rfl, h0, h1, h2, h3, h4⟩
      have w1 : w32 (i + 1) = i + 1 := w32_id (by omega) (by omega)
      show qW (qf_X10_spreadSmoke_L12_b 20000 n i Y) _
      unfold qf_X10_spreadSmoke_L12_b qbnd
      rw [if_neg (show ¬ 576 ≤ i by omega), if_pos (show 0 ≤ i ∧ i < 576 from ⟨i0, i1⟩), h2 757 i 0 (by decide), w1, w32_id (x := n + 1) (by omega) (by omega)]
      by_cases g : M 757 i 0 = 0
      · rw [if_pos g]
        refine qW_some ⟨n, Y, rfl, h0, by omega, h2, h3, fun c c0 c1 z => h4 c c0 ?_ z⟩
        by_cases e : c = i
        · rw [e] at z
          exact absurd g z
        · omega
      · rw [if_neg g, if_pos (show 0 ≤ n ∧ n < 576 by omega)]
        refine qW_some ⟨n + 1, _, rfl, by omega, by omega, fun e x y z => (qw_a z).trans (h2 e x y z), fun j j0 j1 => ?_, fun c c0 c1 z => ?_⟩
        · by_cases e : j = n
          · have z : qw Y 760 n 0 i 760 n 0 = i := qw_s
            rw [e, z]
            exact ⟨i0, i1, g⟩
          · rw [qw_i e]
            exact h3 j j0 (by omega)
        · by_cases e : c = i
          · exact ⟨n, h0, by omega, by rw [e]; exact qw_s⟩
          · obtain ⟨j, j0, j1, j2⟩ := h4 c c0 (by omega) z
            exact ⟨j, j0, by omega, (qw_i (by omega)).trans j2⟩
    · rintro _ ⟨n, Y, rfl, h0, h1, h2, h3, h4⟩
      show qW (qf_X10_spreadSmoke_L12_b 20000 n 576 Y) _
      unfold qf_X10_spreadSmoke_L12_b
      rw [if_pos (Int.le_refl _)]
      exact qW_some ⟨n, Y, rfl, h0, h1, h2, h3, h4⟩
  exact ⟨n, Y, e1, y0, y1, y2, y3, y4⟩
/-- while smoke spreads: the pairs P are done -/
def SPJ (M K Y Z Kv : qm) (P : Int → Int → Prop) : Prop := SMK Z Kv ∧ (∀ e x y, ¬ (e = 756 ∧ x = 4) → e ≠ 757 → e ≠ 758 → Z e x y = Y e x y) ∧ (∀ e x y, e ≠ 2326 → Kv e x y = K e x y) ∧ ∀ x y, 0 ≤ x → x < 24 → 0 ≤ y → y < 24 → (Kv 2326 (24 * y + x) 0 ≠ 0 ↔ (K 2326 (24 * y + x) 0 ≠ 0 ∨ ∃ j d, P j d ∧ cb (Y 760 j 0) d = 24 * x + y ∧ GOC M (Y 760 j 0) d))
theorem spj_same (h : SPJ M K Y Z Kv P) (hx : cb (Y 760 i 0) k = -1 ∨ ¬ GOC M (Y 760 i 0) k ∨ (0 ≤ cb (Y 760 i 0) k ∧ cb (Y 760 i 0) k < 576 ∧ Z 757 (cb (Y 760 i 0) k) 0 ≠ 0)) : SPJ M K Y Z Kv (fun j d => P j d ∨ (j = i ∧ d = k)) := by
  obtain ⟨h1, h2, h3, h4⟩ := h
  refine ⟨h1, h2, h3, fun x y x0 x1 y0 y1 => ?_⟩
  rw [h4 x y x0 x1 y0 y1]
  constructor
  · rintro (g | ⟨j, d, g1, g2⟩)
    · exact Or.inl g
    · exact Or.inr ⟨j, d, Or.inl g1, g2⟩
  · rintro (g | ⟨j, d, g1 | ⟨rfl, rfl⟩, g2, g3⟩)
    · exact Or.inl g
    · exact Or.inr ⟨j, d, g1, g2, g3⟩
    · rw [← h4 x y x0 x1 y0 y1]
      rcases hx with e | e | ⟨e1, e2, e3⟩
      · omega
      · exact absurd g3 e
      · rw [g2] at e3
        have q := (h1.1 x y x0 x1 y0 y1).1
        rw [q]
        exact e3
theorem spj_add (h : SPJ M K Y Z Kv P) (hc : cb (Y 760 i 0) k = 24 * x + y) (x0 : 0 ≤ x) (x1 : x < 24) (y0 : 0 ≤ y) (y1 : y < 24) (hz : Z 757 (24 * x + y) 0 = 0) (hg : GOC M (Y 760 i 0) k) (ho : K 2329 (24 * y + x) 0 = Y 56 (24 * x + y) 0) : SPJ M K Y (asC Z (24 * x + y)) (qw Kv 2326 (24 * y + x) 0 1) (fun j d => P j d ∨ (j = i ∧ d = k)) := by
  obtain ⟨h1, h2, h3, h4⟩ := h
  have z0 : Kv 2326 (24 * y + x) 0 = 0 := by
    rw [(h1.1 x y x0 x1 y0 y1).1]
    exact hz
  refine ⟨smk_add h1 x0 x1 y0 y1 z0 (by rw [h3 _ _ _ (by decide), h2 56 _ 0 (by omega) (by decide) (by decide)]; exact ho), fun e x' y' z1 z2 z3 => ?_, fun e x' y' z => (qw_a z).trans (h3 e x' y' z), fun x' y' a0 a1 b0 b1 => ?_⟩
  · unfold asC
    by_cases g : 0 ≤ Z 56 (24 * x + y) 0 ∧ Z 56 (24 * x + y) 0 < 40
    · rw [if_pos g, qw_a z3, qw_ap, if_neg (by omega), qw_a z2]
      exact h2 e x' y' z1 z2 z3
    · rw [if_neg g, qw_ap, if_neg (by omega), qw_a z2]
      exact h2 e x' y' z1 z2 z3
  · by_cases e : x' = x ∧ y' = y
    · have z : qw Kv 2326 (24 * y + x) 0 1 2326 (24 * y + x) 0 = 1 := qw_s
      rw [e.1, e.2, z]
      exact ⟨fun _ => Or.inr ⟨i, k, Or.inr ⟨rfl, rfl⟩, hc, hg⟩, fun _ => by decide⟩
    · rw [qw_i (show 24 * y' + x' ≠ 24 * y + x by omega), h4 x' y' a0 a1 b0 b1]
      constructor
      · rintro (g | ⟨j, d, g1, g2⟩)
        · exact Or.inl g
        · exact Or.inr ⟨j, d, Or.inl g1, g2⟩
      · rintro (g | ⟨j, d, g1 | ⟨rfl, rfl⟩, g2, g3⟩)
        · exact Or.inl g
        · exact Or.inr ⟨j, d, g1, g2, g3⟩
        · rw [hc] at g2
          omega
end PSd
