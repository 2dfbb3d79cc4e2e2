/-! ===== names are given on ===== -/
section NM
variable {M K A B C D T V K0 : qm} {a b c d k n r q s t x y h i S : Int} {ow ob : Int → Int → Int} {w : Int → Int}
/-- what the class's cells say of units -/
def OWX (C : qm) (ow ob : Int → Int → Int) : Prop := ∀ x y, 0 ≤ x → x < 24 → 0 ≤ y → y < 24 → (C 56 (24 * x + y) 0) = ow x y ∧ (C 57 (24 * x + y) 0) = ob x y
def CNA (C D : qm) : Prop := ∀ b i j, b ≠ 58 → b ≠ 726 → b ≠ 725 → D b i j = C b i j
theorem heir_e (h0 : (C 51 3 0) = S) (S0 : 0 ≤ S) (S1 : S ≤ 100) (hw : ∀ s, 0 ≤ s → s < 100 → (C 725 s 0) = w s) : ∃ h, qf_X2_giveNameOn_L64 20000 20000 t 0 1 C = some (.inr h) ∧ 0 ≤ h ∧ h < 100 ∧ (h = 0 ∨ h < S) ∧ (∀ s, 0 ≤ s → s < S → w s ≤ w h) ∧ ∀ s, 0 ≤ s → s < h → w s < w h := by
  have q : qW (qf_X2_giveNameOn_L64 20000 20000 t 0 1 C) (fun o => ∃ h, o = .inr h ∧ 0 ≤ h ∧ h < 100 ∧ (h = 0 ∨ h < S) ∧ (∀ s, 0 ≤ s → s < S → w s ≤ w h) ∧ ∀ s, 0 ≤ s → s < h → w s < w h) := by
    unfold qf_X2_giveNameOn_L64
    refine qW_loop (fun u => ∃ h k, u = (t, h, k) ∧ 0 ≤ h ∧ h < 100 ∧ (h = 0 ∨ h < S) ∧ h < k ∧ 1 ≤ k ∧ (∀ s, 0 ≤ s → s < k → w s ≤ w h) ∧ ∀ s, 0 ≤ s → s < h → w s < w h) (fun u => (101 - u.2.2).toNat) ?_ 20000 _ ⟨0, 1, rfl, by decide, by decide, Or.inl rfl, by decide, by decide, fun s a b => by rw [show s = 0 by omega]; exact Int.le_refl _, fun s a b => by omega⟩ (by (try dsimp only); omega)
    rintro _ ⟨h, k, rfl, a1, a2, a3, a4, a5, a6, a7⟩
    unfold qf_X2_giveNameOn_L64_b
    (try dsimp only)
    by_cases g : S ≤ k
    · rw [if_pos (by omega)]
      exact qW_some ⟨h, rfl, a1, a2, a3, fun s s0 s1 => a6 s s0 (by omega), a7⟩
    · have e1 := hw k (by omega) (by omega)
      have e2 := hw h a1 a2
      rw [if_neg (by omega), if_pos (by omega), if_pos (by omega), w32_id (x := k + 1) (by omega) (by omega)]
      by_cases g2 : w k ≤ w h
      · rw [if_pos (by omega)]
        refine qW_some ⟨⟨h, k + 1, rfl, a1, a2, a3, by omega, by omega, all_s a6 g2 |> fun z s s0 s1 => z s s0 s1, a7⟩, ?_⟩
        (try dsimp only)
        omega
      · rw [if_neg (by omega)]
        refine qW_some ⟨⟨k, k + 1, rfl, by omega, by omega, Or.inr (by omega), by omega, by omega, fun s s0 s1 => ?_, fun s s0 s1 => ?_⟩, ?_⟩
        · by_cases gs : s = k
          · rw [gs]
            exact Int.le_refl _
          · have := a6 s s0 (by omega)
            omega
        · have := a6 s s0 (by omega)
          omega
        · (try dsimp only)
          omega
  obtain ⟨o, e, h, rfl, hh⟩ := q
  exact ⟨h, e, hh⟩
theorem giveName_r (hX : OWX C ow ob) (hb : ∀ x y, 0 ≤ x → x < 24 → 0 ≤ y → y < 24 → -1 ≤ ow x y ∧ ow x y < S) (hs : (C 51 3 0) = S) (S0 : 0 ≤ S) (S1 : S ≤ 100) (t0 : 0 ≤ t) (t1 : t < 100) : qW (qf_X2_giveNameOn 20000 t C) (fun r => ∃ h, 0 ≤ h ∧ h < 100 ∧ (h = 0 ∨ h < S) ∧ (∀ s, 0 ≤ s → s < S → cnt2 (fun x y => ow x y = s ∧ ob x y = t) ≤ cnt2 (fun x y => ow x y = h ∧ ob x y = t)) ∧ (∀ s, 0 ≤ s → s < h → cnt2 (fun x y => ow x y = s ∧ ob x y = t) < cnt2 (fun x y => ow x y = h ∧ ob x y = t)) ∧ CNA C r.2 ∧ (if cnt2 (fun x y => ow x y = h ∧ ob x y = t) ≤ (C 726 h 0) then (∀ s, r.2 58 s 0 = (C 58 s 0)) ∧ (∀ s, r.2 726 s 0 = (C 726 s 0)) else (∀ s, r.2 58 s 0 = if s = h then (C 59 t 0) else (C 58 s 0)) ∧ (∀ s, r.2 726 s 0 = if s = h then cnt2 (fun x y => ow x y = h ∧ ob x y = t) else (C 726 s 0)))) := by
  unfold qf_X2_giveNameOn
  refine qW_bnd ?_
  refine qW_call (Q := fun o => ∃ D, o = .inr ((), D) ∧ ofr 725 C D ∧ ∀ s, 0 ≤ s → s < 100 → (D 725 s 0) = sI (fun v => b01 ((C 57 v 0) = t ∧ (C 56 v 0) = s)) 576) ?_ ?_
  · unfold qf_X2_giveNameOn_L13
    refine qW_for 576 (fun i u => ∃ D, u = (t, i, D) ∧ ofr 725 C D ∧ ∀ s, 0 ≤ s → s < 100 → (D 725 s 0) = sI (fun v => b01 ((C 57 v 0) = t ∧ (C 56 v 0) = s)) i) ?_ ?_ ⟨_, rfl, fun b i j hb => by rw [qfl1_ap, if_neg (fun z => hb z.1)], fun s s0 s1 => by rw [qfl1_ap, if_pos ⟨rfl, s0, s1, rfl⟩]; rfl⟩ (by omega) (by omega)
    · rintro i _ i0 i1 ⟨D, rfl, d1, d2⟩
      have e1 := d1 57 i 0 (by decide)
      have e2 := d1 56 i 0 (by decide)
      have xy := hX (i / 24) (i % 24) (by omega) (by omega) (by omega) (by omega)
      have vb := hb (i / 24) (i % 24) (by omega) (by omega) (by omega) (by omega)
      rw [show 24 * (i / 24) + i % 24 = i by omega] at xy
      have ci : 0 ≤ i ∧ i < 576 := ⟨i0, i1⟩
      unfold qf_X2_giveNameOn_L13_b
      (try dsimp only)
      rw [if_neg (by omega), if_pos ci, w32_id (x := i + 1) (by omega) (by omega)]
      have no : (¬ ((C 57 i 0) = t ∧ 0 ≤ (C 56 i 0))) → ∃ D', (t, i + 1, D) = (t, i + 1, D') ∧ ofr 725 C D' ∧ ∀ s, 0 ≤ s → s < 100 → (D' 725 s 0) = sI (fun v => b01 ((C 57 v 0) = t ∧ (C 56 v 0) = s)) (i + 1) := fun z => ⟨D, rfl, d1, fun s s0 s1 => by
        rw [d2 s s0 s1, sI_s i0, b01_f (fun y => z ⟨y.1, by omega⟩)]
        omega⟩
      by_cases g1 : (C 57 i 0) = t
      · rw [if_pos (by omega), if_pos ci]
        by_cases g2 : (C 56 i 0) < 0
        · rw [if_pos (by omega)]
          exact qW_some (no (fun z => by omega))
        · rw [if_neg (by omega), if_pos ci, if_pos (by omega), if_pos (by omega)]
          obtain ⟨v, hv⟩ : ∃ v, (C 56 i 0) = v := ⟨_, rfl⟩
          have q := d2 v (by omega) (by omega)
          have sb := sI_b (g := fun v' => b01 ((C 57 v' 0) = t ∧ (C 56 v' 0) = v)) i0 (fun _ _ _ => b01_b)
          rw [e2, hv, w32_id (x := (D 725 v 0) + 1) (by omega) (by omega)]
          refine qW_bnd (qW_some ⟨_, rfl, ofr_w d1, fun s s0 s1 => ?_⟩)
          have e3 : ∀ z, qw D 725 v 0 z 725 s 0 = if s = v then z else (D 725 s 0) := fun z => by
            simp only [qw_ap, false_and, true_and, and_true, and_false, and_self, if_false, if_true, reduceIte, Nat.reduceEqDiff, Int.reduceEq]
          rw [e3, sI_s i0]
          by_cases gs : s = v
          · rw [if_pos gs, gs, q, b01_t ⟨g1, hv⟩]
          · rw [if_neg gs, d2 s s0 s1, b01_f (fun z => gs (z.2.symm.trans hv))]
            omega
      · rw [if_neg (by omega)]
        exact qW_some (no (fun z => g1 z.1))
    · rintro _ ⟨D, rfl, d1, d2⟩
      unfold qf_X2_giveNameOn_L13_b
      (try dsimp only)
      rw [if_pos (by decide)]
      exact qW_some ⟨D, rfl, d1, d2⟩
  rintro _ ⟨D, rfl, d1, d2⟩
  (try dsimp only)
  have d3 : ∀ s, 0 ≤ s → s < 100 → (D 725 s 0) = cnt2 (fun x y => ow x y = s ∧ ob x y = t) := fun s s0 s1 => by
    rw [d2 s s0 s1, cells_cnt2]
    refine cnt2_c (fun x y x0 x1 y0 y1 => ?_)
    have q := hX x y x0 x1 y0 y1
    rw [q.1, q.2]
    exact ⟨fun z => ⟨z.2, z.1⟩, fun z => ⟨z.2, z.1⟩⟩
  obtain ⟨h, eh, h0, h1, h2, h3, h4⟩ := heir_e (C := D) (t := t) ((d1 _ _ _ (by decide)).trans hs) S0 S1 d3
  refine qW_eq eh ?_
  (try dsimp only)
  have ch : 0 ≤ h ∧ h < 576 := by omega
  have ch2 : 0 ≤ h ∧ h < 100 := by omega
  have es := d1 726 h 0 (by decide)
  have ew := d3 h h0 h1
  rw [if_pos ch, if_pos ch2]
  by_cases g : cnt2 (fun x y => ow x y = h ∧ ob x y = t) ≤ (C 726 h 0)
  · rw [if_pos (by omega)]
    refine qW_some ⟨h, h0, h1, h2, h3, h4, fun b i j b1 b2 b3 => d1 b i j b3, ?_⟩
    rw [if_pos g]
    exact ⟨fun s => d1 _ _ _ (by decide), fun s => d1 _ _ _ (by decide)⟩
  · rw [if_neg (by omega), if_pos ch, if_pos ch2]
    refine qW_bnd ?_
    rw [if_pos ⟨t0, t1⟩, if_pos ch2]
    refine qW_bnd (qW_some ⟨h, h0, h1, h2, h3, h4, fun b i j b1 b2 b3 => ?_, ?_⟩)
    · (try dsimp only)
      rw [qw_a b1, qw_a b2]
      exact d1 b i j b3
    · rw [if_neg g]
      (try dsimp only)
      refine ⟨fun s => ?_, fun s => ?_⟩
      · have e3 : ∀ z z2, qw (qw D 726 h 0 z) 58 h 0 z2 58 s 0 = if s = h then z2 else (D 58 s 0) := fun z z2 => by
          simp only [qw_ap, false_and, true_and, and_true, and_false, and_self, if_false, if_true, reduceIte, Nat.reduceEqDiff, Int.reduceEq]
        rw [e3, qw_a (by decide), d1 _ _ _ (by decide), d1 _ _ _ (by decide)]
      · have e3 : ∀ z z2, qw (qw D 726 h 0 z) 58 h 0 z2 726 s 0 = if s = h then z else (D 726 s 0) := fun z z2 => by
          simp only [qw_ap, false_and, true_and, and_true, and_false, and_self, if_false, if_true, reduceIte, Nat.reduceEqDiff, Int.reduceEq]
        rw [e3, ew, d1 _ _ _ (by decide)]
end NM
