/-! ===== passing: smoke spreads on both sides ===== -/
section PSf
variable {M K N A B C D D0 E F G H T V W Y Z K0 M0 Kv : qm} {a b c d k n m p r s t u v x y h i j R S w l z τ : Int} {q stt cnt o f : Int → Int} {P P' : Int → Int → Prop}
theorem nb_e (x0 : 0 ≤ x) (x1 : x < 24) (y0 : 0 ≤ y) (y1 : y < 24) (d0 : 0 ≤ d) (d1 : d < 4) : ∃ X Y, qf_X18_nextX 20000 x d N = some X ∧ qf_X18_nextY 20000 y d N = some Y ∧ -1 ≤ X ∧ X ≤ 24 ∧ -1 ≤ Y ∧ Y ≤ 24 ∧ ((0 ≤ X ∧ X < 24 ∧ 0 ≤ Y ∧ Y < 24 ∧ cb (24 * x + y) d = 24 * X + Y) ∨ (¬ (0 ≤ X ∧ X < 24 ∧ 0 ≤ Y ∧ Y < 24) ∧ cb (24 * x + y) d = -1)) := by
  have e1 : (24 * x + y) / 24 = x := by omega
  have e2 : (24 * x + y) % 24 = y := by omega
  have cs : d = 0 ∨ d = 1 ∨ d = 2 ∨ d = 3 := by omega
  unfold qf_X18_nextX qf_X18_nextY cb
  rw [e1, e2]
  rcases cs with rfl | rfl | rfl | rfl
  · refine ⟨x + 1, y, ?_, ?_, by omega, by omega, by omega, by omega, ?_⟩
    · rw [if_pos rfl, w32_id (x := x + 1) (by omega) (by omega)]
    · rw [if_neg (by decide), if_neg (by decide), w32_id (x := y + 0) (by omega) (by omega), Int.add_zero]
    · rw [if_pos rfl]
      by_cases g : 23 ≤ x
      · rw [if_pos g]
        exact Or.inr ⟨by omega, rfl⟩
      · rw [if_neg g]
        exact Or.inl ⟨by omega, by omega, by omega, by omega, by omega⟩
  · refine ⟨x - 1, y, ?_, ?_, by omega, by omega, by omega, by omega, ?_⟩
    · rw [if_neg (by decide), if_pos rfl, w32_id (x := x - 1) (by omega) (by omega)]
    · rw [if_neg (by decide), if_neg (by decide), w32_id (x := y + 0) (by omega) (by omega), Int.add_zero]
    · rw [if_neg (by decide), if_pos rfl]
      by_cases g : x ≤ 0
      · rw [if_pos g]
        exact Or.inr ⟨by omega, rfl⟩
      · rw [if_neg g]
        exact Or.inl ⟨by omega, by omega, by omega, by omega, by omega⟩
  · refine ⟨x, y + 1, ?_, ?_, by omega, by omega, by omega, by omega, ?_⟩
    · rw [if_neg (by decide), if_neg (by decide), w32_id (x := x + 0) (by omega) (by omega), Int.add_zero]
    · rw [if_pos rfl, w32_id (x := y + 1) (by omega) (by omega)]
    · rw [if_neg (by decide), if_neg (by decide), if_pos rfl]
      by_cases g : 23 ≤ y
      · rw [if_pos g]
        exact Or.inr ⟨by omega, rfl⟩
      · rw [if_neg g]
        exact Or.inl ⟨by omega, by omega, by omega, by omega, by omega⟩
  · refine ⟨x, y - 1, ?_, ?_, by omega, by omega, by omega, by omega, ?_⟩
    · rw [if_neg (by decide), if_neg (by decide), w32_id (x := x + 0) (by omega) (by omega), Int.add_zero]
    · rw [if_neg (by decide), if_pos rfl, w32_id (x := y - 1) (by omega) (by omega)]
    · rw [if_neg (by decide), if_neg (by decide), if_neg (by decide)]
      by_cases g : y ≤ 0
      · rw [if_pos g]
        exact Or.inr ⟨by omega, rfl⟩
      · rw [if_neg g]
        exact Or.inl ⟨by omega, by omega, by omega, by omega, by omega⟩
/-- smoke comes from that side -/
def FSM (M : qm) (c d : Int) : Prop := cb c d ≠ -1 ∧ M 757 (cb c d) 0 ≠ 0 ∧ GOC M c d
theorem spr_e (x0 : 0 ≤ c) (x1 : c < 576) : SPR M c ↔ M 757 c 0 ≠ 0 ∨ ∃ d, 0 ≤ d ∧ d < 4 ∧ FSM M c d := by
  unfold SPR FSM
  constructor
  · rintro (z | ⟨q, d, q0, q1, d0, d1, z, hc, g⟩)
    · exact Or.inl z
    · obtain ⟨b1, b2, b3, b4, b5, _⟩ := cbk_b q0 q1 d0 (show d ≤ 3 by omega) (by omega)
      have gb := (goc_back (M := M) q0 q1 d0 (show d ≤ 3 by omega) (by omega)).mpr g
      rw [hc] at b5 gb
      exact Or.inr ⟨bck d, b3, by omega, by omega, by rw [b5]; exact z, gb⟩
  · rintro (z | ⟨d, d0, d1, n, z, g⟩)
    · exact Or.inl z
    · obtain ⟨b1, b2, b3, b4, b5, _⟩ := cbk_b x0 x1 d0 (show d ≤ 3 by omega) n
      have gb := (goc_back (M := M) x0 x1 d0 (show d ≤ 3 by omega) n).mpr g
      exact Or.inr ⟨cb c d, bck d, b1, b2, b3, by omega, z, b5, gb⟩
theorem ways_K (h_lines : R_lines M K) (h_ends : R_ends M K) (h_doorn : R_doorn M K) (h_doors : R_doors M K) (h_smoke : R_smoke M K) (one : ∀ l k, 0 ≤ l → l < (M 7 0 0) → 0 ≤ k → k < (M 7 0 0) → ∀ d x y, onU M l d x y → onU M k d x y → l = k) (x0 : 0 ≤ x) (x1 : x < 24) (y0 : 0 ≤ y) (y1 : y < 24) (hW : ∀ e x y, e ≠ 2327 → W e x y = K e x y) (hv : W 2327 (24 * y + x) 0 = K 2326 (24 * y + x) 0) : ∃ V, qf_X18_spread_L23 20000 20000 (24 * y + x) 0 W = some (.inr ((), V)) ∧ (∀ e x' y', ¬ (e = 2327 ∧ x' = 24 * y + x ∧ y' = 0) → V e x' y' = W e x' y') ∧ (V 2327 (24 * y + x) 0 = 0 ∨ V 2327 (24 * y + x) 0 = 1) ∧ (V 2327 (24 * y + x) 0 ≠ 0 ↔ SPR M (24 * x + y)) := by
  have sm := h_smoke x y x0 x1 y0 y1
  obtain ⟨c', hc'⟩ : ∃ c', 24 * y + x = c' := ⟨_, rfl⟩
  rw [hc'] at hv sm ⊢
  have dm : Int.tmod c' 24 = x := by
    rw [tm_e (by omega)]
    omega
  have dd : Int.tdiv c' 24 = y := by
    rw [td_e (by omega)]
    omega
  obtain ⟨o, e1, V, rfl, h1, h2, h3⟩ : qW (qf_X18_spread_L23 20000 20000 c' 0 W) (fun o => ∃ V, o = .inr ((), V) ∧ (∀ e x' y', ¬ (e = 2327 ∧ x' = c' ∧ y' = 0) → V e x' y' = W e x' y') ∧ (V 2327 c' 0 = 0 ∨ V 2327 c' 0 = 1) ∧ (V 2327 c' 0 ≠ 0 ↔ M 757 (24 * x + y) 0 ≠ 0 ∨ ∃ d, 0 ≤ d ∧ d < 4 ∧ FSM M (24 * x + y) d)) := by
    unfold qf_X18_spread_L23
    refine qW_for 4 (fun d r => ∃ V, r = (c', d, V) ∧ (∀ e x' y', ¬ (e = 2327 ∧ x' = c' ∧ y' = 0) → V e x' y' = W e x' y') ∧ (V 2327 c' 0 = 0 ∨ V 2327 c' 0 = 1) ∧ (V 2327 c' 0 ≠ 0 ↔ M 757 (24 * x + y) 0 ≠ 0 ∨ ∃ e, 0 ≤ e ∧ e < d ∧ FSM M (24 * x + y) e)) ?_ ?_ ⟨W, rfl, fun _ _ _ _ => rfl, by rw [hv]; exact sm.2, by rw [hv, sm.1]; exact ⟨Or.inl, fun z => z.elim id (fun ⟨e, z, z2, _⟩ => by omega)⟩⟩ (by omega) (by omega)
    · rintro d _ d0 d1 ⟨V, rfl, h1, h2, h3⟩
      have gV : ∀ e x y, e ≠ 2327 → V e x y = K e x y := fun e x y z => (h1 e x y (by omega)).trans (hW e x y z)
      obtain ⟨X, Y, n1, n2, n3, n4, n5, n6, n7⟩ := nb_e (N := V) x0 x1 y0 y1 d0 d1
      have ps := passes_e (K := V) (M := M) (by
        apply R_lines_x (M := M) (K := K) (h := h_lines) <;> first | rfl | exact fun _ _ => rfl | exact gV _ _ _ (by decide) | exact fun _ _ => gV _ _ _ (by decide)) (by
        apply R_ends_x (M := M) (K := K) (h := h_ends) <;> first | rfl | exact fun _ _ => rfl | exact gV _ _ _ (by decide) | exact fun _ _ => gV _ _ _ (by decide)) (by
        apply R_doorn_x (M := M) (K := K) (h := h_doorn) <;> first | rfl | exact fun _ _ => rfl | exact gV _ _ _ (by decide) | exact fun _ _ => gV _ _ _ (by decide)) (by
        apply R_doors_x (M := M) (K := K) (h := h_doors) <;> first | rfl | exact fun _ _ => rfl | exact gV _ _ _ (by decide) | exact fun _ _ => gV _ _ _ (by decide)) one x0 x1 y0 y1 d0 (show d ≤ 3 by omega)
      have wd : w32 (d + 1) = d + 1 := w32_id (by omega) (by omega)
      -- what is written
      have wr : ∀ v, (v = 0 ∨ v = 1) → (v ≠ 0 ↔ V 2327 c' 0 ≠ 0 ∨ FSM M (24 * x + y) d) → ∃ V2, ((c', d + 1, qw V 2327 c' 0 v) : Int × Int × qm) = (c', d + 1, V2) ∧ (∀ e x' y', ¬ (e = 2327 ∧ x' = c' ∧ y' = 0) → V2 e x' y' = W e x' y') ∧ (V2 2327 c' 0 = 0 ∨ V2 2327 c' 0 = 1) ∧ (V2 2327 c' 0 ≠ 0 ↔ M 757 (24 * x + y) 0 ≠ 0 ∨ ∃ e, 0 ≤ e ∧ e < d + 1 ∧ FSM M (24 * x + y) e) := fun v v1 v2 => by
        have z : qw V 2327 c' 0 v 2327 c' 0 = v := qw_s
        refine ⟨_, rfl, fun e x' y' z => by rw [qw_ap, if_neg z]; exact h1 e x' y' z, by rw [z]; exact v1, ?_⟩
        rw [z, v2, h3]
        constructor
        · rintro ((a | ⟨e, e0, e1, e2⟩) | a)
          · exact Or.inl a
          · exact Or.inr ⟨e, e0, by omega, e2⟩
          · exact Or.inr ⟨d, d0, by omega, a⟩
        · rintro (a | ⟨e, e0, e1, e2⟩)
          · exact Or.inl (Or.inl a)
          · by_cases ed : e = d
            · rw [ed] at e2
              exact Or.inr e2
            · exact Or.inl (Or.inr ⟨e, e0, by omega, e2⟩)
      have cr : 0 ≤ c' ∧ c' < 576 := by omega
      have j5 : qf_X18_spread_J105 20000 c' d c' V = some (.inr (c', d + 1, qw V 2327 c' 0 0)) := by
        unfold qf_X18_spread_J105 qbnd
        rw [if_pos cr, wd]
      have j1 : qf_X18_spread_J101 20000 c' d c' V = some (.inr (c', d + 1, qw V 2327 c' 0 1)) := by
        unfold qf_X18_spread_J101 qbnd
        rw [if_pos cr, wd]
      show qW (qf_X18_spread_L23_b 20000 c' d V) _
      unfold qf_X18_spread_L23_b
      rw [if_neg (show ¬ 4 ≤ d by omega), dm, dd, n1]
      simp only [Option.bind_some]
      rw [n2]
      simp only [Option.bind_some]
      rw [if_pos cr, isCell_e, j5, j1]
      by_cases g0 : V 2327 c' 0 = 0
      · rw [if_pos g0]
        simp only [Option.bind_some]
        have none_ : ¬ FSM M (24 * x + y) d → qW (some (Sum.inr (c', d + 1, qw V 2327 c' 0 0)) : Option (((Unit × qm) ⊕ (Unit × qm)) ⊕ (Int × Int × qm))) (fun o => o = .inr (c', d + 1, qw V 2327 c' 0 0)) := fun _ => qW_some rfl
        rcases n7 with ⟨a1, a2, a3, a4, a5⟩ | ⟨a1, a2⟩
        · rw [b01_t (show 0 ≤ X ∧ X < 24 ∧ 0 ≤ Y ∧ Y < 24 from ⟨a1, a2, a3, a4⟩), if_neg (by decide), w32_id (x := 24 * Y) (by omega) (by omega), w32_id (x := 24 * Y + X) (by omega) (by omega), if_pos (show 0 ≤ 24 * Y + X ∧ 24 * Y + X < 576 by omega), gV 2326 _ 0 (by decide), ps]
          simp only [Option.bind_some]
          have sn := h_smoke X Y a1 a2 a3 a4
          by_cases g1 : K 2326 (24 * Y + X) 0 = 0
          · rw [if_pos g1]
            exact qW_some (wr 0 (Or.inl rfl) ⟨fun z => absurd rfl z, fun z => z.elim (fun z => absurd g0 z) (fun z => absurd (by rw [a5, ← sn.1]; exact g1) z.2.1)⟩)
          · rw [if_neg g1]
            by_cases g2 : GOC M (24 * x + y) d
            · rw [b01_t g2, if_neg (by decide)]
              exact qW_some (wr 1 (Or.inr rfl) ⟨fun _ => Or.inr ⟨by omega, by rw [a5, ← sn.1]; exact g1, g2⟩, fun _ => by decide⟩)
            · rw [b01_f g2, if_pos rfl]
              exact qW_some (wr 0 (Or.inl rfl) ⟨fun z => absurd rfl z, fun z => z.elim (fun z => absurd g0 z) (fun z => absurd z.2.2 g2)⟩)
        · rw [b01_f a1, if_pos rfl]
          exact qW_some (wr 0 (Or.inl rfl) ⟨fun z => absurd rfl z, fun z => z.elim (fun z => absurd g0 z) (fun z => absurd a2 z.1)⟩)
      · rw [if_neg g0]
        exact qW_some (wr 1 (Or.inr rfl) ⟨fun _ => Or.inl g0, fun _ => by decide⟩)
    · rintro _ ⟨V, rfl, h1, h2, h3⟩
      show qW (qf_X18_spread_L23_b 20000 c' 4 V) _
      unfold qf_X18_spread_L23_b
      rw [if_pos (Int.le_refl _)]
      exact qW_some ⟨V, rfl, h1, h2, h3⟩
  exact ⟨V, e1, h1, h2, h3.trans (spr_e (by omega) (by omega)).symm⟩
end PSf
