/-! ===== the class finds its spaces ===== -/
section FS
variable {M K A B D D0 : qm} {c d s k n x y S : Int} {F : Int → Int}
/-- a cell with a wall below it and one at its left -/
def COR (A : qm) (c : Int) : Prop := wb A c 1 ≠ -1 ∧ wb A c 3 ≠ -1
theorem wb_1 : wb A c 1 = A 52 1 (25 * (c / 24) + c % 24) := by
  unfold wb
  rw [if_neg (by decide), if_pos rfl]
theorem wb_3 : wb A c 3 = A 52 0 (25 * (c / 24) + c % 24) := by
  unfold wb
  rw [if_neg (by decide), if_neg (by decide), if_neg (by decide)]
theorem cor_100 (h_lines : R_lines M K) (h_ends : R_ends M K) (hA : WAL M A (M 7 0 0)) {q : Int → Int} (n0 : 0 ≤ n) (h : ∀ s, 0 ≤ s → s < n → 0 ≤ q s ∧ q s < 576 ∧ COR A (q s)) (hi : ∀ s t, 0 ≤ s → s < t → t < n → q s ≠ q t) : n ≤ 100 := by
  unfold R_lines at h_lines
  have lv : ∀ c, 0 ≤ c → c < 576 → COR A c → (0 ≤ wb A c 3 ∧ wb A c 3 < (M 7 0 0) ∧ (M 8 (wb A c 3) 1) = (M 8 (wb A c 3) 3) ∧ (M 8 (wb A c 3) 1) = c % 24) ∧ (0 ≤ wb A c 1 ∧ wb A c 1 < (M 7 0 0) ∧ (M 8 (wb A c 1) 1) ≠ (M 8 (wb A c 1) 3) ∧ (M 8 (wb A c 1) 0) = c / 24) := by
    intro c c0 c1 hc
    have r3 := hA.2 0 (c / 24) (c % 24) (by decide) (by decide) (by omega) (by omega) (by omega) (by omega)
    have r1 := hA.2 1 (c / 24) (c % 24) (by decide) (by decide) (by omega) (by omega) (by omega) (by omega)
    rw [← wb_3 (A := A) (c := c)] at r3
    rw [← wb_1 (A := A) (c := c)] at r1
    constructor
    · rcases r3 with ⟨z, _⟩ | ⟨p0, p1, p2⟩
      · exact absurd z hc.2
      · refine ⟨p0, p1, ?_⟩
        rcases p2 with ⟨_, a, b, _⟩ | ⟨z, _⟩
        · exact ⟨a, b.symm⟩
        · exact absurd z (by decide)
    · rcases r1 with ⟨z, _⟩ | ⟨p0, p1, p2⟩
      · exact absurd z hc.1
      · refine ⟨p0, p1, ?_⟩
        rcases p2 with ⟨z, _⟩ | ⟨_, a, b, _⟩
        · exact absurd z (by decide)
        · exact ⟨a, b.symm⟩
  have q1 := inj_le (N := 400) n.toNat (fun v => ((M 8 (v / 20) 1) = (M 8 (v / 20) 3)) ∧ True ∧ ¬ ((M 8 (v % 20) 1) = (M 8 (v % 20) 3))) (fun s => 20 * wb A (q s) 3 + wb A (q s) 1) (fun s a b => by
    have r := h s a (by omega)
    have p := lv _ r.1 r.2.1 r.2.2
    (try dsimp only)
    rw [show (20 * wb A (q s) 3 + wb A (q s) 1) / 20 = wb A (q s) 3 by omega, show (20 * wb A (q s) 3 + wb A (q s) 1) % 20 = wb A (q s) 1 by omega]
    exact ⟨by omega, by omega, p.1.2.2.1, trivial, p.2.2.2.1⟩) (fun s t a b e z => by
    (try dsimp only at z)
    have r := h s a (by omega)
    have p := lv _ r.1 r.2.1 r.2.2
    have r' := h t (by omega) (by omega)
    have p' := lv _ r'.1 r'.2.1 r'.2.2
    have z3 : wb A (q s) 3 = wb A (q t) 3 := by omega
    have z1 : wb A (q s) 1 = wb A (q t) 1 := by omega
    rw [z3, z1] at p
    exact hi s t a b (by omega) (by omega))
  have q2 := pairs_100 (P := fun l => (M 8 l 1) = (M 8 l 3)) (Q := fun _ => True)
  (try dsimp only at q1 q2)
  omega
/-- what holds while the border is gone round -/
def FE1 (A D0 D : qm) : Prop := (∀ b i j, b ≠ 56 → b ≠ 725 → D b i j = D0 b i j) ∧ CLO A (fun c => (D 56 c 0)) ∧ (∀ c, 0 ≤ c → c < 576 → (D 56 c 0) = -3 ∨ ((D 56 c 0) = -1 ∧ ∀ F f, CMP A F f → F c = f))
theorem edge_1 (hA : ∀ i j, D0 52 i j = A 52 i j) (h : FE1 A D0 D) (c0 : 0 ≤ c) (c1 : c < 576) (d0 : 0 ≤ d) (d1 : d ≤ 3) (hc : cb c d = -1) : qW (qf_X2_fillFromEdge 20000 c d D) (fun r => FE1 A D0 r.2 ∧ (∀ v, 0 ≤ v → v < 576 → (D 56 v 0) = -1 → r.2 56 v 0 = -1) ∧ (wb A c d = -1 → r.2 56 c 0 = -1)) := by
  have hw : ∀ i j, D 52 i j = A 52 i j := fun i j => (h.1 _ i j (by decide) (by decide)).trans (hA i j)
  have ew := wb_e (A := D) c0 c1 d0 d1
  rw [wb_o hw] at ew
  unfold qf_X2_fillFromEdge
  rw [if_pos ⟨c0, c1⟩]
  by_cases g : (D 56 c 0) = -3
  · rw [if_pos g]
    refine qW_eq ew ?_
    (try dsimp only)
    by_cases gw : wb A c d = -1
    · rw [if_pos gw]
      refine qW_call (fill_r (A := A) (s := -1) (by decide) hw h.2.1 c0 c1 g) ?_
      rintro ⟨n, E⟩ hE
      (try dsimp only at hE ⊢)
      obtain ⟨h1, h2, h3, h4, h5, h6⟩ := hE
      refine qW_some ⟨⟨fun b i j b1 b2 => (h1 b i j b1 b2).trans (h.1 b i j b1 b2), h5, fun v v0 v1 => ?_⟩, fun v v0 v1 z => ?_, fun _ => h4⟩
      · (try dsimp only)
        by_cases gv : (D 56 v 0) = -3
        · rcases h3 v v0 v1 gv with q | ⟨q, p⟩
          · exact Or.inl q
          · exact Or.inr ⟨q, fun F f hf => (p F f hf).trans ((hf c d c0 c1 d0 d1 gw).1 hc)⟩
        · rw [h2 v v0 v1 gv]
          exact h.2.2 v v0 v1
      · (try dsimp only)
        rw [h2 v v0 v1 (by omega)]
        exact z
    · rw [if_neg gw]
      exact qW_some ⟨h, fun v _ _ z => z, fun z => absurd z gw⟩
  · rw [if_neg g]
    refine qW_some ⟨h, fun v _ _ z => z, fun z => ?_⟩
    rcases h.2.2 c c0 c1 with q | ⟨q, _⟩
    · exact absurd q g
    · exact q
/-- the border has been gone round up to k -/
def FE2 (A D : qm) (k : Int) : Prop := ∀ c d, 0 ≤ c → c < 576 → 0 ≤ d → d ≤ 3 → cb c d = -1 → (if d < 2 then c % 24 else c / 24) < k → wb A c d = -1 → (D 56 c 0) = -1
theorem edges_r (hA : ∀ i j, D0 52 i j = A 52 i j) (h : FE1 A D0 D) : qW (qf_X2_fillSpaces_L11 20000 20000 0 D) (fun o => ∃ E, o = .inr ((), E) ∧ FE1 A D0 E ∧ FE2 A E 24) := by
  unfold qf_X2_fillSpaces_L11
  refine qW_for 24 (fun k t => ∃ E, t = (k, E) ∧ FE1 A D0 E ∧ FE2 A E k) ?_ ?_ ?_ (by omega) (by omega)
  · rintro k _ k0 k1 ⟨E, rfl, hE, h2⟩
    unfold qf_X2_fillSpaces_L11_b qf_X2_cellNumber
    (try dsimp only)
    rw [if_neg (by omega)]
    refine qW_bind (qW_some ?_)
    rw [show w32 (w32 (23 * 24) + k) = 552 + k by rw [w32_id (x := 23 * 24) (by omega) (by omega), w32_id (by omega) (by omega)]; omega]
    refine qW_call (edge_1 hA hE (c := 552 + k) (d := 0) (by omega) (by omega) (by decide) (by decide) (by unfold cb; rw [if_pos rfl, if_pos (by omega)])) ?_
    rintro ⟨_, E1⟩ ⟨p1, p2, p3⟩
    (try dsimp only at p1 p2 p3 ⊢)
    refine qW_bind (qW_some ?_)
    rw [show w32 (w32 (0 * 24) + k) = k by rw [w32_id (x := 0 * 24) (by omega) (by omega), w32_id (by omega) (by omega)]; omega]
    refine qW_call (edge_1 hA p1 (c := k) (d := 1) (by omega) (by omega) (by decide) (by decide) (by unfold cb; rw [if_neg (by decide), if_pos rfl, if_pos (by omega)])) ?_
    rintro ⟨_, E2⟩ ⟨q1, q2, q3⟩
    (try dsimp only at q1 q2 q3 ⊢)
    refine qW_bind (qW_some ?_)
    rw [show w32 (w32 (k * 24) + 23) = 24 * k + 23 by rw [w32_id (x := k * 24) (by omega) (by omega), w32_id (by omega) (by omega)]; omega]
    refine qW_call (edge_1 hA q1 (c := 24 * k + 23) (d := 2) (by omega) (by omega) (by decide) (by decide) (by unfold cb; rw [if_neg (by decide), if_neg (by decide), if_pos rfl, if_pos (by omega)])) ?_
    rintro ⟨_, E3⟩ ⟨r1, r2, r3⟩
    (try dsimp only at r1 r2 r3 ⊢)
    refine qW_bind (qW_some ?_)
    rw [show w32 (w32 (k * 24) + 0) = 24 * k by rw [w32_id (x := k * 24) (by omega) (by omega), w32_id (by omega) (by omega)]; omega]
    refine qW_call (edge_1 hA r1 (c := 24 * k) (d := 3) (by omega) (by omega) (by decide) (by decide) (by unfold cb; rw [if_neg (by decide), if_neg (by decide), if_neg (by decide), if_pos (by omega)])) ?_
    rintro ⟨_, E4⟩ ⟨s1, s2, s3⟩
    (try dsimp only at s1 s2 s3 ⊢)
    rw [w32_id (x := k + 1) (by omega) (by omega)]
    refine qW_some ⟨E4, rfl, s1, ?_⟩
    intro c d c0 c1 d0 d1 hc hk hw
    by_cases g : (if d < 2 then c % 24 else c / 24) < k
    · exact s2 c c0 c1 (r2 c c0 c1 (q2 c c0 c1 (p2 c c0 c1 (h2 c d c0 c1 d0 d1 hc g hw))))
    · have e : d = 0 ∨ d = 1 ∨ d = 2 ∨ d = 3 := by omega
      unfold cb at hc
      rcases e with rfl | rfl | rfl | rfl
      · rw [if_pos (by decide)] at hk g
        rw [if_pos rfl] at hc
        have ec : c = 552 + k := by
          split at hc <;> omega
        rw [ec] at hw ⊢
        exact s2 _ (by omega) (by omega) (r2 _ (by omega) (by omega) (q2 _ (by omega) (by omega) (p3 hw)))
      · rw [if_pos (by decide)] at hk g
        rw [if_neg (by decide), if_pos rfl] at hc
        have ec : c = k := by
          split at hc <;> omega
        rw [ec] at hw ⊢
        exact s2 _ (by omega) (by omega) (r2 _ (by omega) (by omega) (q3 hw))
      · rw [if_neg (by decide)] at hk g
        rw [if_neg (by decide), if_neg (by decide), if_pos rfl] at hc
        have ec : c = 24 * k + 23 := by
          split at hc <;> omega
        rw [ec] at hw ⊢
        exact s2 _ (by omega) (by omega) (r3 hw)
      · rw [if_neg (by decide)] at hk g
        rw [if_neg (by decide), if_neg (by decide), if_neg (by decide)] at hc
        have ec : c = 24 * k := by
          split at hc <;> omega
        rw [ec] at hw ⊢
        exact s3 hw
  · rintro _ ⟨E, rfl, hE, h2⟩
    unfold qf_X2_fillSpaces_L11_b
    (try dsimp only)
    rw [if_pos (by decide)]
    exact qW_some ⟨E, rfl, hE, h2⟩
  · refine ⟨D, rfl, h, fun c d c0 c1 d0 d1 _ z => ?_⟩
    split at z <;> omega
end FS
