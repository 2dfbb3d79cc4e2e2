section FD
variable {M K A B D D0 : qm} {c d s f k n first : Int} {F : Int → Int}
theorem DON_k {D' : qm} {e : Int} (h : DON A D k e) (hk : (D' 725 k 0) = (D 725 k 0)) (ho : ∀ c, 0 ≤ c → c < 576 → (D 56 c 0) ≠ -3 → (D' 56 c 0) ≠ -3) (hr : 0 ≤ (D 725 k 0) ∧ (D 725 k 0) < 576) : DON A D' k e := by
  intro d d0 d1 hw hc
  rw [hk] at hw hc ⊢
  have r := cb_r hr.1 hr.2 hc
  exact ho _ r.1 r.2 (h d d0 d1 hw hc)
theorem fill_dirs (hs : s ≠ -3) (hA : ∀ i j, D0 52 i j = A 52 i j) (h : FLI A D0 D first s n) (k0 : 0 ≤ k) (k1 : k < n) (hd : ∀ j, 0 ≤ j → j < k → DON A D j 4) : qW (qf_X2_fill_L28 20000 20000 s n k 0 D) (fun o => ∃ m E, o = .inr (m, E) ∧ FLI A D0 E first s m ∧ n ≤ m ∧ ∀ j, 0 ≤ j → j < k + 1 → DON A E j 4) := by
  have n5 := (FLI_n h).2
  unfold qf_X2_fill_L28
  refine qW_for 4 (fun d t => ∃ m E, t = (s, m, k, d, E) ∧ FLI A D0 E first s m ∧ n ≤ m ∧ (∀ j, 0 ≤ j → j < k → DON A E j 4) ∧ DON A E k d) ?_ ?_ ?_ (by omega) (by omega)
  · rintro d _ d0 d1 ⟨m, E, rfl, hE, nm, hj, hk⟩
    have m5 := (FLI_n hE).2
    have q := hE.2.2.2.1 k k0 (by omega)
    have hw : ∀ i j, E 52 i j = A 52 i j := fun i j => (hE.1 _ i j (by decide) (by decide)).trans (hA i j)
    have ec := cb_e (A := E) q.1 q.2.1 d0 (show d ≤ 3 by omega)
    have ew := wb_e (A := E) q.1 q.2.1 d0 (show d ≤ 3 by omega)
    rw [wb_o hw] at ew
    have same : ∀ t : Int, t = d + 1 → (wb A (E 725 k 0) d = -1 → cb (E 725 k 0) d ≠ -1 → (E 56 (cb (E 725 k 0) d) 0) ≠ -3) → ∃ m' E', (s, m, k, t, E) = (s, m', k, d + 1, E') ∧ FLI A D0 E' first s m' ∧ n ≤ m' ∧ (∀ j, 0 ≤ j → j < k → DON A E' j 4) ∧ DON A E' k (d + 1) := by
      intro t et hh
      refine ⟨m, E, by rw [et], hE, nm, hj, fun e e0 e1 w1 w2 => ?_⟩
      by_cases g : e = d
      · rw [g] at w1 w2 ⊢
        exact hh w1 w2
      · exact hk e e0 (by omega) w1 w2
    unfold qf_X2_fill_L28_b qf_X2_fill_J76 qf_X2_fill_J77
    (try dsimp only)
    rw [if_neg (by omega), if_pos ⟨k0, by omega⟩]
    refine qW_eq ec ?_
    (try dsimp only)
    rw [w32_id (x := d + 1) (by omega) (by omega)]
    by_cases gc : cb (E 725 k 0) d = -1
    · rw [if_pos gc, if_pos rfl]
      exact qW_some (same _ rfl (fun _ z => absurd gc z))
    · rw [if_neg gc, if_pos ⟨k0, by omega⟩]
      refine qW_eq ew ?_
      have r := cb_r q.1 q.2.1 gc
      by_cases gw : wb A (E 725 k 0) d = -1
      · (try dsimp only)
        rw [if_pos gw, if_neg (by decide), if_pos r]
        by_cases go : (E 56 (cb (E 725 k 0) d) 0) = -3
        · have room := FLI_room hE r.1 r.2 go hs
          rw [if_pos go, if_neg (by omega), if_pos r]
          refine qW_bnd ?_
          rw [if_pos ⟨by omega, by omega⟩]
          refine qW_bnd (qW_some ?_)
          rw [w32_id (x := m + 1) (by omega) (by omega)]
          have hF : ∀ F f, CMP A F f → F (cb (E 725 k 0) d) = F first := fun F f hf => ((hf _ _ q.1 q.2.1 d0 (by omega) gw).2 gc).trans (hE.2.2.2.2.2.1 F f hf k k0 (by omega))
          have hN := FLI_s hs hE r.1 r.2 go hF
          have eo : ∀ v, qw (qw E 56 (cb (E 725 k 0) d) 0 s) 725 m 0 (cb (E 725 k 0) d) 56 v 0 = if v = cb (E 725 k 0) d then s else (E 56 v 0) := by
            intro v
            simp only [qw_ap, false_and, true_and, and_true, and_false, and_self, if_false, if_true, reduceIte, Nat.reduceEqDiff, Int.reduceEq]
          have ewk : ∀ v, v < m → qw (qw E 56 (cb (E 725 k 0) d) 0 s) 725 m 0 (cb (E 725 k 0) d) 725 v 0 = (E 725 v 0) := by
            intro v hv
            rw [qw_i (by omega), qw_a (by decide)]
          have keep : ∀ c, 0 ≤ c → c < 576 → (E 56 c 0) ≠ -3 → qw (qw E 56 (cb (E 725 k 0) d) 0 s) 725 m 0 (cb (E 725 k 0) d) 56 c 0 ≠ -3 := by
            intro c _ _ z
            rw [eo]
            split
            · exact hs
            · exact z
          refine ⟨m + 1, _, rfl, hN, by omega, fun j j0 j1 => DON_k (hj j j0 j1) (ewk j (by omega)) keep ⟨(hE.2.2.2.1 j j0 (by omega)).1, (hE.2.2.2.1 j j0 (by omega)).2.1⟩, ?_⟩
          intro e e0 e1 w1 w2
          rw [ewk k (by omega)] at w1 w2 ⊢
          by_cases g : e = d
          · rw [g, eo, if_pos rfl]
            exact hs
          · exact keep _ (cb_r q.1 q.2.1 w2).1 (cb_r q.1 q.2.1 w2).2 (hk e e0 (by omega) w1 w2)
        · rw [if_neg go]
          exact qW_some (same _ rfl (fun _ _ => go))
      · (try dsimp only)
        rw [if_neg gw, if_pos rfl]
        exact qW_some (same _ rfl (fun z _ => absurd z gw))
  · rintro _ ⟨m, E, rfl, hE, nm, hj, hk⟩
    unfold qf_X2_fill_L28_b
    (try dsimp only)
    rw [if_pos (by decide)]
    exact qW_some ⟨m, E, rfl, hE, nm, all_s hj hk⟩
  · exact ⟨n, D, rfl, h, Int.le_refl n, hd, fun e e0 e1 => by omega⟩
def FLR (A D0 D : qm) (first s n : Int) : Prop := (∀ b i j, b ≠ 56 → b ≠ 725 → D b i j = D0 b i j) ∧ (∀ c, 0 ≤ c → c < 576 → (D0 56 c 0) ≠ -3 → (D 56 c 0) = (D0 56 c 0)) ∧ (∀ c, 0 ≤ c → c < 576 → (D0 56 c 0) = -3 → (D 56 c 0) = -3 ∨ ((D 56 c 0) = s ∧ ∀ F f, CMP A F f → F c = F first)) ∧ (D 56 first 0) = s ∧ CLO A (fun c => (D 56 c 0)) ∧ n = sI (fun c => b01 ((D0 56 c 0) = -3 ∧ (D 56 c 0) = s)) 576
theorem fill_r (hs : s ≠ -3) (hA : ∀ i j, D0 52 i j = A 52 i j) (hC : CLO A (fun c => (D0 56 c 0))) (c0 : 0 ≤ first) (c1 : first < 576) (hf : (D0 56 first 0) = -3) : qW (qf_X2_fill 20000 first s D0) (fun r => FLR A D0 r.2 first s r.1) := by
  unfold qf_X2_fill
  rw [if_pos ⟨c0, c1⟩]
  refine qW_bnd (qW_bnd ?_)
  refine qW_call (Q := fun o => ∃ m E, o = .inr (m, E) ∧ FLI A D0 E first s m ∧ ∀ j, 0 ≤ j → j < m → DON A E j 4) ?_ ?_
  · unfold qf_X2_fill_L19
    refine qW_loop (fun t => ∃ m k E, t = (s, m, k, E) ∧ 0 ≤ k ∧ k ≤ m ∧ FLI A D0 E first s m ∧ ∀ j, 0 ≤ j → j < k → DON A E j 4) (fun t => (577 - t.2.2.1).toNat) ?_ 20000 _ ?_ (by (try dsimp only); omega)
    · rintro _ ⟨m, k, E, rfl, k0, k1, hE, hd⟩
      have m5 := (FLI_n hE).2
      unfold qf_X2_fill_L19_b
      (try dsimp only)
      by_cases g : m ≤ k
      · rw [if_pos g]
        exact qW_some ⟨m, E, rfl, hE, fun j j0 j1 => hd j j0 (by omega)⟩
      · rw [if_neg g]
        refine qW_call (fill_dirs hs hA hE k0 (by omega) hd) ?_
        rintro _ ⟨m2, E2, rfl, hE2, nm, hd2⟩
        (try dsimp only)
        rw [w32_id (x := k + 1) (by omega) (by omega)]
        refine qW_some ⟨⟨m2, k + 1, E2, rfl, by omega, by omega, hE2, hd2⟩, ?_⟩
        (try dsimp only)
        omega
    · have eo : ∀ v, qw (qw D0 56 first 0 s) 725 0 0 first 56 v 0 = if v = first then s else (D0 56 v 0) := by
        intro v
        simp only [qw_ap, false_and, true_and, and_true, and_false, and_self, if_false, if_true, reduceIte, Nat.reduceEqDiff, Int.reduceEq]
      have ew : ∀ v, qw (qw D0 56 first 0 s) 725 0 0 first 725 v 0 = if v = 0 then first else (D0 725 v 0) := by
        intro v
        simp only [qw_ap, false_and, true_and, and_true, and_false, and_self, if_false, if_true, reduceIte, Nat.reduceEqDiff, Int.reduceEq]
      refine ⟨1, 0, _, rfl, by decide, by decide, ⟨fun b i j b1 b2 => (qw_a b2).trans (qw_a b1), fun v v0 v1 z => ?_, fun v v0 v1 z => ?_, fun j a b => ?_, fun i j a b e => by omega, fun F f hf j a b => ?_, by decide, ?_⟩, fun j a b => by omega⟩
      · rw [eo, if_neg (fun g => z (by rw [g]; exact hf))]
      · rw [eo]
        by_cases g : v = first
        · rw [if_pos g]
          exact Or.inr ⟨rfl, 0, by decide, by decide, by rw [ew, if_pos rfl, g]⟩
        · rw [if_neg g]
          exact Or.inl z
      · rw [ew, if_pos (by omega)]
        exact ⟨c0, c1, hf, by rw [eo, if_pos rfl]⟩
      · rw [ew, if_pos (by omega)]
      · rw [ew, if_pos rfl]
  · rintro _ ⟨m, E, rfl, hE, hd⟩
    have hE' := hE
    obtain ⟨h1, h2, h3, h4, h5, h6, h7, h8⟩ := hE
    refine qW_some ⟨h1, h2, fun c a b z => ?_, ?_, ?_, ?_⟩
    · rcases h3 c a b z with q | ⟨q, j, j0, j1, j2⟩
      · exact Or.inl q
      · exact Or.inr ⟨q, fun F f hf => by rw [← j2]; exact h6 F f hf j j0 j1⟩
    · have q := (h4 0 (by decide) (by omega)).2.2.2
      rw [h8] at q
      exact q
    · intro c d a b d0 d1 hw hc hn
      have r := cb_r a b hc
      by_cases g : (D0 56 c 0) = -3
      · rcases h3 c a b g with q | ⟨q, j, j0, j1, j2⟩
        · exact absurd q hn
        · have z := hd j j0 j1 d d0 (by omega) (by rw [j2]; exact hw) (by rw [j2]; exact hc)
          rw [j2] at z
          by_cases g2 : (D0 56 (cb c d) 0) = -3
          · rcases h3 _ r.1 r.2 g2 with p | ⟨p, _⟩
            · exact absurd p z
            · exact p.trans q.symm
          · exfalso
            have bk := cb_back (A := A) a b d0 d1 hc
            have y := hC (cb c d) (bck d) r.1 r.2 bk.2.2.1 bk.2.2.2 (by rw [bk.2.1]; exact hw) (by rw [bk.1]; omega) g2
            (try dsimp only at y)
            rw [bk.1, g] at y
            exact g2 y.symm
      · have y := hC c d a b d0 d1 hw hc g
        (try dsimp only at y ⊢)
        rw [h2 _ r.1 r.2 (by rw [y]; exact g), h2 c a b g]
        exact y
    · have q := inj_eq (N := 576) m.toNat (fun c => (D0 56 c 0) = -3 ∧ (E 56 c 0) = s) (fun j => (E 725 j 0)) (fun i a b => by
        have p := h4 i a (by omega)
        exact ⟨p.1, p.2.1, p.2.2.1, p.2.2.2⟩) (fun i j a b e => h5 i j a b (by omega)) (fun v a b z => by
        rcases h3 v a b z.1 with p | ⟨_, j, j0, j1, j2⟩
        · rw [p] at z
          exact absurd z.2.symm hs
        · exact ⟨j, j0, by omega, j2⟩)
      (try dsimp only at q ⊢)
      omega
end FD
