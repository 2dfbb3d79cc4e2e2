section WG
variable {M K A B : qm} {l n x y w : Int}
theorem mark_2 (h : ofr 55 A B) (x0 : 0 ≤ x) (x1 : x ≤ 24) (hx : ∀ a b, 0 ≤ a → a < x → 0 ≤ b → b ≤ 24 → (B 55 (25 * a + b) 0) = b01 (PX A a b)) : qW (qf_X2_markPoints_L10 20000 20000 x 0 B) (fun o => ∃ D, o = .inr ((), D) ∧ ofr 55 A D ∧ ∀ a b, 0 ≤ a → a < x + 1 → 0 ≤ b → b ≤ 24 → (D 55 (25 * a + b) 0) = b01 (PX A a b)) := by
  unfold qf_X2_markPoints_L10
  refine qW_for 25 (fun i s => ∃ D, s = (x, i, D) ∧ ofr 55 A D ∧ ∀ a b, 0 ≤ a → 0 ≤ b → b ≤ 24 → (a < x ∨ (a = x ∧ b < i)) → (D 55 (25 * a + b) 0) = b01 (PX A a b)) ?_ ?_ ?_ (by omega) (by omega)
  · rintro i _ i0 i1 ⟨D, rfl, hD, hp⟩
    refine ⟨_, mark_1 hD x0 x1 i0 (show i ≤ 24 by omega), ?_⟩
    refine ⟨_, rfl, ofr_w hD, fun a b a0 b0 b1 c => ?_⟩
    by_cases e : a = x ∧ b = i
    · rw [e.1, e.2]
      exact qw_s
    · rw [qw_i (show 25 * a + b ≠ 25 * x + i by omega)]
      exact hp a b a0 b0 b1 (by omega)
  · rintro _ ⟨D, rfl, hD, hp⟩
    unfold qf_X2_markPoints_L10_b
    (try dsimp only)
    rw [if_pos (by decide)]
    exact qW_some ⟨D, rfl, hD, fun a b a0 a1 b0 b1 => hp a b a0 b0 b1 (by omega)⟩
  · exact ⟨B, rfl, h, fun a b a0 b0 b1 c => hx a b a0 (by omega) b0 b1⟩
theorem mark_3 : qW (qf_X2_markPoints_L2 20000 20000 0 A) (fun o => ∃ D, o = .inr ((), D) ∧ ofr 55 A D ∧ ∀ a b, 0 ≤ a → a ≤ 24 → 0 ≤ b → b ≤ 24 → (D 55 (25 * a + b) 0) = b01 (PX A a b)) := by
  unfold qf_X2_markPoints_L2
  refine qW_for 25 (fun i s => ∃ D, s = (i, D) ∧ ofr 55 A D ∧ ∀ a b, 0 ≤ a → a < i → 0 ≤ b → b ≤ 24 → (D 55 (25 * a + b) 0) = b01 (PX A a b)) ?_ ?_ ?_ (by omega) (by omega)
  · rintro i _ i0 i1 ⟨D, rfl, hD, hp⟩
    unfold qf_X2_markPoints_L2_b
    (try dsimp only)
    rw [if_neg (by omega)]
    refine qW_call (mark_2 hD i0 (by omega) hp) ?_
    rintro _ ⟨E, rfl, hE, hq⟩
    (try dsimp only)
    rw [w32_id (by omega) (by omega)]
    exact qW_some ⟨E, rfl, hE, hq⟩
  · rintro _ ⟨D, rfl, hD, hp⟩
    unfold qf_X2_markPoints_L2_b
    (try dsimp only)
    rw [if_pos (by decide)]
    exact qW_some ⟨D, rfl, hD, fun a b a0 a1 b0 b1 => hp a b a0 (by omega) b0 b1⟩
  · exact ⟨A, rfl, ofr_r, fun a b a0 a1 => by omega⟩
/-- a place is a point -/
def PT (M A : qm) (n x y : Int) : Prop := PX A x y ∨ PE M n x y
theorem mark_r (h_lines : R_lines M K) (h_ends : R_ends M K) (hM : ∀ l i, A 8 l i = (M 8 l i)) (hl : A 7 0 0 = (M 7 0 0)) : qW (qf_X2_markPoints 20000 A) (fun r => ofr 55 A r.2 ∧ ∀ x y, 0 ≤ x → x ≤ 24 → 0 ≤ y → y ≤ 24 → r.2 55 (25 * x + y) 0 = b01 (PT M A (M 7 0 0) x y)) := by
  unfold R_lines at h_lines
  unfold qf_X2_markPoints
  refine qW_call mark_3 ?_
  rintro _ ⟨D, rfl, hD, hp⟩
  (try dsimp only)
  refine qW_call (Q := fun o => ∃ E, o = .inr ((), E) ∧ ofr 55 A E ∧ ∀ x y, 0 ≤ x → x ≤ 24 → 0 ≤ y → y ≤ 24 → (E 55 (25 * x + y) 0) = b01 (PT M A (M 7 0 0) x y)) ?_ ?_
  · unfold qf_X2_markPoints_L112
    refine qW_for (M 7 0 0) (fun i s => ∃ E, s = (i, E) ∧ ofr 55 A E ∧ ∀ x y, 0 ≤ x → x ≤ 24 → 0 ≤ y → y ≤ 24 → (E 55 (25 * x + y) 0) = b01 (PT M A i x y)) ?_ ?_ ?_ (by omega) (by omega)
    · rintro i _ i0 i1 ⟨E, rfl, hE, hq⟩
      have f := fun j => (hE 8 i j (by decide)).trans (hM i j)
      have fl := (hE 7 0 0 (by decide)).trans hl
      have q := h_ends i i0 i1
      obtain ⟨e0, h0⟩ : ∃ v, (M 8 i 0) = v := ⟨_, rfl⟩
      obtain ⟨e1, h1⟩ : ∃ v, (M 8 i 1) = v := ⟨_, rfl⟩
      obtain ⟨e2, h2⟩ : ∃ v, (M 8 i 2) = v := ⟨_, rfl⟩
      obtain ⟨e3, h3⟩ : ∃ v, (M 8 i 3) = v := ⟨_, rfl⟩
      have b : 0 ≤ e0 ∧ 0 ≤ e1 ∧ e2 ≤ 24 ∧ e3 ≤ 24 ∧ ((e1 = e3 ∧ e0 < e2) ∨ (e1 < e3 ∧ e0 = e2)) := by
        rcases q.1 with g | g
        · rw [g, if_pos rfl, if_pos rfl] at q
          omega
        · rw [g, if_neg (by decide), if_neg (by decide)] at q
          omega
      clear q
      have f0 := (f 0).trans h0
      have f1 := (f 1).trans h1
      have f2 := (f 2).trans h2
      have f3 := (f 3).trans h3
      have g2 : ∀ v, qw E 55 v 0 1 8 i 2 = e2 := fun v => (qw_a (by decide)).trans f2
      have g3 : ∀ v, qw E 55 v 0 1 8 i 3 = e3 := fun v => (qw_a (by decide)).trans f3
      have a1 : w32 (w32 (E 8 i 0 * 25) + E 8 i 1) = 25 * e0 + e1 := by
        rw [f0, f1, w32_id (x := e0 * 25) (by omega) (by omega), w32_id (by omega) (by omega)]
        omega
      have a2 : ∀ v, w32 (w32 (qw E 55 v 0 1 8 i 2 * 25) + qw E 55 v 0 1 8 i 3) = 25 * e2 + e3 := by
        intro v
        rw [g2, g3, w32_id (x := e2 * 25) (by omega) (by omega), w32_id (by omega) (by omega)]
        omega
      unfold qf_X2_markPoints_L112_b
      (try dsimp only)
      refine qW_neg (by omega) ?_
      refine qW_pos ⟨i0, by omega⟩ ?_
      refine qW_pos (by omega) ?_
      refine qW_bnd ?_
      (try dsimp only)
      refine qW_pos (by rw [a2]; omega) ?_
      refine qW_bnd ?_
      rw [w32_id (x := i + 1) (by omega) (by omega), a1, a2]
      refine qW_some ⟨_, rfl, ofr_w (ofr_w hE), ?_⟩
      intro x y x0 x1 y0 y1
      have step : PT M A (i + 1) x y ↔ (PT M A i x y ∨ (x = e0 ∧ y = e1) ∨ (x = e2 ∧ y = e3)) := by
        unfold PT PE
        constructor
        · rintro (z | ⟨k, k0, k1, z⟩)
          · exact Or.inl (Or.inl z)
          · by_cases e : k = i
            · rw [e, h0, h1, h2, h3] at z
              exact Or.inr z
            · exact Or.inl (Or.inr ⟨k, k0, by omega, z⟩)
        · rintro ((z | ⟨k, k0, k1, z⟩) | z)
          · exact Or.inl z
          · exact Or.inr ⟨k, k0, by omega, z⟩
          · rw [← h0, ← h1, ← h2, ← h3] at z
            exact Or.inr ⟨i, i0, by omega, z⟩
      rw [b01_c step, qw_ap, qw_ap]
      by_cases c2 : x = e2 ∧ y = e3
      · rw [if_pos ⟨rfl, by omega, rfl⟩, b01_t (Or.inr (Or.inr c2))]
      · rw [if_neg (by omega)]
        by_cases c1 : x = e0 ∧ y = e1
        · rw [if_pos ⟨rfl, by omega, rfl⟩, b01_t (Or.inr (Or.inl c1))]
        · rw [if_neg (by omega), hq x y x0 x1 y0 y1]
          exact b01_c ⟨Or.inl, fun z => by
            rcases z with z | z | z
            · exact z
            · exact absurd z c1
            · exact absurd z c2⟩
    · rintro _ ⟨E, rfl, hE, hq⟩
      have fl := (hE 7 0 0 (by decide)).trans hl
      unfold qf_X2_markPoints_L112_b
      (try dsimp only)
      rw [if_pos (by omega)]
      exact qW_some ⟨E, rfl, hE, hq⟩
    · refine ⟨D, rfl, hD, fun x y x0 x1 y0 y1 => (hp x y x0 x1 y0 y1).trans (b01_c ?_)⟩
      unfold PT PE
      exact ⟨Or.inl, fun z => by
        rcases z with z | ⟨k, k0, k1, _⟩
        · exact z
        · omega⟩
  · rintro _ ⟨E, rfl, hE, hq⟩
    exact qW_some ⟨hE, hq⟩
end WG
