section PD
variable {M K A E F : qm} {n m p k v z l x y c r i j a b t : Int}
theorem PCI_pls (hF : PLS K F) (h : PCI M F E m n p l k) : PLS K E := by
  have w := h.1
  exact ⟨fun i => (w _ i 0 (by decide) (by decide) (by decide) (by omega)).trans (hF.1 i), fun i => (w _ i 0 (by decide) (by decide) (by decide) (by omega)).trans (hF.2.1 i), fun i => (w _ i 0 (by decide) (by decide) (by decide) (by omega)).trans (hF.2.2.1 i), fun i => (w _ i 0 (by decide) (by decide) (by decide) (by omega)).trans (hF.2.2.2.1 i), (w _ 0 0 (by decide) (by decide) (by decide) (by omega)).trans hF.2.2.2.2⟩
/-- the latest point on a line -/
def LST (M F : qm) (l k t : Int) : Prop := (t = -1 ∧ ∀ i, 0 ≤ i → i < k → ¬ onp M F l i) ∨ (0 ≤ t ∧ t < k ∧ onp M F l t ∧ ∀ i, t < i → i < k → ¬ onp M F l i)
theorem piece_s (h_lines : R_lines M K) (h_ends : R_ends M K) (h_alone : R_alone M K) (hK : PLS K F) (hF : PTS F m) (m5 : m ≤ 440) (em : (F 2157 27 0) = m) (hP : ∀ x y, pin F m x y ↔ PL M (M 7 0 0) (M 7 0 0) x y) (h : PCI M F E m (M 7 0 0) p l k) (hL : LST M F l k t) (l0 : 0 ≤ l) (l1 : l < (M 7 0 0)) (k0 : 0 ≤ k) (k1 : k < m) : qW (qf_X16_findPoints_L160_b 20000 l t k E) (fun o => ∃ G p' t', o = .inr (l, t', k + 1, G) ∧ PCI M F G m (M 7 0 0) p' l (k + 1) ∧ LST M F l (k + 1) t') := by
  have h' := h
  have p5 := piece_220 h_lines h_ends h_alone hF hP h
  have ePx : (E 2174 k 0) = (F 2174 k 0) := h.1 _ k 0 (by decide) (by decide) (by decide) (by omega)
  have ePy : (E 2175 k 0) = (F 2175 k 0) := h.1 _ k 0 (by decide) (by decide) (by decide) (by omega)
  have eP : (E 2157 27 0) = m := (h.1 _ 27 0 (by decide) (by decide) (by decide) (by omega)).trans em
  have on : qf_X16_isOn 20000 l (E 2174 k 0) (E 2175 k 0) E = some (b01 (onp M F l k)) := by
    rw [ePx, ePy]
    exact onl_e h_lines h_ends (PCI_pls hK h) l0 l1
  obtain ⟨h1, h2, h3, h4, h5, h6⟩ := h
  have ck : 0 ≤ k ∧ k < 460 := by omega
  unfold qf_X16_findPoints_L160_b qf_X16_findPoints_J232
  rw [if_neg (by omega), if_pos ck, if_pos ck, w32_id (x := k + 1) (by omega) (by omega)]
  refine qW_eq on ?_
  (try dsimp only)
  rcases b01_o (p := onp M F l k) with ⟨e, ho⟩ | ⟨e, ho⟩
  · rw [e, if_neg (by decide)]
    have nl : LST M F l (k + 1) k := Or.inr ⟨k0, by omega, ho, fun i a b => by omega⟩
    rcases hL with ⟨rfl, hL⟩ | ⟨t0, tk, ot, hL⟩
    · rw [if_pos (by decide)]
      refine qW_some ⟨E, p, k, rfl, ⟨h1, h2, h3, fun q q0 q1 => ?_, fun d a b d0 hd w => ?_, h6⟩, nl⟩
      · have w := h4 q q0 q1
        exact ⟨w.1, w.2.1, w.2.2.1, by omega⟩
      · by_cases g : d < l ∨ (d = l ∧ b < k)
        · exact h5 d a b d0 hd g
        · exfalso
          have ed : d = l := by omega
          rw [ed] at hd
          obtain ⟨a0, ab, bm, oa, _⟩ := hd
          exact hL a a0 (by omega) oa
    · rw [if_neg (by omega)]
      have cp : 0 ≤ p ∧ p < 460 := by omega
      rw [if_pos (by omega)]
      refine qW_bnd ?_
      have e30 : qw E 2176 (E 2157 30 0) 0 l 2157 30 0 = p := (qw_a (by decide)).trans h2
      rw [h2] at e30 ⊢
      rw [if_pos (by omega)]
      refine qW_bnd ?_
      rw [e30]
      have e31 : qw (qw E 2176 p 0 l) 2177 p 0 t 2157 30 0 = p := (qw_a (by decide)).trans e30
      rw [if_pos (by omega)]
      refine qW_bnd ?_
      rw [e31]
      have e32 : qw (qw (qw E 2176 p 0 l) 2177 p 0 t) 2178 p 0 k 2157 30 0 = p := (qw_a (by decide)).trans e31
      refine qW_bnd ?_
      rw [e32, w32_id (x := p + 1) (by omega) (by omega)]
      have f1 : ∀ q, qw (qw (qw (qw E 2176 p 0 l) 2177 p 0 t) 2178 p 0 k) 2157 30 0 (p + 1) 2176 q 0 = if q = p then l else (E 2176 q 0) := by
        intro q
        simp only [qw_ap, false_and, true_and, and_true, and_false, and_self, if_false, if_true, reduceIte, Nat.reduceEqDiff, Int.reduceEq]
      have f2 : ∀ q, qw (qw (qw (qw E 2176 p 0 l) 2177 p 0 t) 2178 p 0 k) 2157 30 0 (p + 1) 2177 q 0 = if q = p then t else (E 2177 q 0) := by
        intro q
        simp only [qw_ap, false_and, true_and, and_true, and_false, and_self, if_false, if_true, reduceIte, Nat.reduceEqDiff, Int.reduceEq]
      have f3 : ∀ q, qw (qw (qw (qw E 2176 p 0 l) 2177 p 0 t) 2178 p 0 k) 2157 30 0 (p + 1) 2178 q 0 = if q = p then k else (E 2178 q 0) := by
        intro q
        simp only [qw_ap, false_and, true_and, and_true, and_false, and_self, if_false, if_true, reduceIte, Nat.reduceEqDiff, Int.reduceEq]
      have new : IPC M F m l t k := ⟨t0, tk, k1, ot, ho, hL⟩
      refine qW_some ⟨_, p + 1, k, rfl, ⟨fun b i j b1 b2 b3 b4 => ?_, qw_s, by omega, fun q q0 q1 => ?_, fun d a b d0 hd w => ?_, fun q s q0 qs s1 => ?_⟩, nl⟩
      · rw [qw_ap, if_neg (by omega), qw_a b3, qw_a b2, qw_a b1]
        exact h1 b i j b1 b2 b3 b4
      · rw [f1, f2, f3]
        by_cases g : q = p
        · rw [if_pos g, if_pos g, if_pos g]
          exact ⟨l0, l1, new, by omega⟩
        · rw [if_neg g, if_neg g, if_neg g]
          have w := h4 q q0 (by omega)
          exact ⟨w.1, w.2.1, w.2.2.1, by omega⟩
      · by_cases g : d < l ∨ (d = l ∧ b < k)
        · obtain ⟨q, q0, q1, q2, q3, q4⟩ := h5 d a b d0 hd g
          refine ⟨q, q0, by omega, ?_, ?_, ?_⟩
          · rw [f1, if_neg (by omega)]
            exact q2
          · rw [f2, if_neg (by omega)]
            exact q3
          · rw [f3, if_neg (by omega)]
            exact q4
        · have ed : d = l := by omega
          have eb : b = k := by omega
          rw [ed, eb] at hd
          have ea : a = t := by
            obtain ⟨a0, ab, bm, oa, _, no⟩ := hd
            rcases Int.lt_trichotomy a t with g | g | g
            · exact absurd ot (no t g tk)
            · exact g
            · exact absurd oa (hL a g ab)
          refine ⟨p, h3, by omega, ?_, ?_, ?_⟩
          · rw [f1, if_pos rfl, ed]
          · rw [f2, if_pos rfl, ea]
          · rw [f3, if_pos rfl, eb]
      · rw [f1, f1, f2, f2, if_neg (show q ≠ p by omega), if_neg (show q ≠ p by omega)]
        by_cases g : s = p
        · rw [if_pos g, if_pos g]
          have w := h4 q q0 (by omega)
          rcases w.2.2.2 with z | ⟨z, z2⟩
          · exact Or.inl z
          · refine Or.inr ⟨z, ?_⟩
            have ip := w.2.2.1
            rw [z] at ip
            obtain ⟨a0, ab, bm, oa, ob, _⟩ := ip
            have : (E 2178 q 0) ≤ t := by
              apply Classical.byContradiction
              intro gg
              exact hL _ (by omega) z2 ob
            omega
        · rw [if_neg g, if_neg g]
          exact h6 q s q0 qs (by omega)
  · rw [e, if_pos rfl]
    refine qW_some ⟨E, p, t, rfl, ⟨h1, h2, h3, fun q q0 q1 => ?_, fun d a b d0 hd w => ?_, h6⟩, ?_⟩
    · have w := h4 q q0 q1
      exact ⟨w.1, w.2.1, w.2.2.1, by omega⟩
    · by_cases g : d < l ∨ (d = l ∧ b < k)
      · exact h5 d a b d0 hd g
      · exfalso
        have ed : d = l := by omega
        have eb : b = k := by omega
        rw [ed, eb] at hd
        exact ho hd.2.2.2.2.1
    · rcases hL with ⟨z, hL⟩ | ⟨t0, tk, ot, hL⟩
      · exact Or.inl ⟨z, all_s hL ho⟩
      · refine Or.inr ⟨t0, by omega, ot, fun i a b => ?_⟩
        by_cases g : i = k
        · rw [g]
          exact ho
        · exact hL i a (by omega)
theorem pieces_r (h_lines : R_lines M K) (h_ends : R_ends M K) (h_alone : R_alone M K) (hK : PLS K F) (hF : PTS F m) (m5 : m ≤ 440) (em : (F 2157 27 0) = m) (hP : ∀ x y, pin F m x y ↔ PL M (M 7 0 0) (M 7 0 0) x y) (hE : E = qw F 2157 30 0 0) : qW (qf_X16_findPoints_L148 20000 20000 0 E) (fun o => ∃ G p, o = .inr ((), G) ∧ PCI M F G m (M 7 0 0) p (M 7 0 0) 0) := by
  have s_lines := h_lines
  unfold R_lines at s_lines
  have m0 := hF.1
  unfold qf_X16_findPoints_L148
  refine qW_for (M 7 0 0) (fun l s => ∃ G p, s = (l, G) ∧ PCI M F G m (M 7 0 0) p l 0) ?_ ?_ ?_ (by omega) (by omega)
  · rintro l _ l0 l1 ⟨G, p, rfl, hG⟩
    have el := (PCI_pls hK hG).2.2.2.2.trans s_lines.2.2
    unfold qf_X16_findPoints_L148_b
    (try dsimp only)
    rw [if_neg (by omega)]
    refine qW_call (Q := fun o => ∃ H p', o = .inr ((), H) ∧ PCI M F H m (M 7 0 0) p' l m) ?_ ?_
    · unfold qf_X16_findPoints_L160
      refine qW_for m (fun k s => ∃ H p' t, s = (l, t, k, H) ∧ PCI M F H m (M 7 0 0) p' l k ∧ LST M F l k t) ?_ ?_ ⟨G, p, -1, rfl, hG, Or.inl ⟨rfl, fun i a b => by omega⟩⟩ (by omega) (by omega)
      · rintro k _ k0 k1 ⟨H, p', t, rfl, hH, hL⟩
        refine qW_mono (piece_s h_lines h_ends h_alone hK hF m5 em hP hH hL l0 l1 k0 k1) ?_
        rintro _ ⟨H2, p2, t2, rfl, hH2, hL2⟩
        exact ⟨H2, p2, t2, rfl, hH2, hL2⟩
      · rintro _ ⟨H, p', t, rfl, hH, hL⟩
        have eP : (H 2157 27 0) = m := (hH.1 _ 27 0 (by decide) (by decide) (by decide) (by omega)).trans em
        unfold qf_X16_findPoints_L160_b
        (try dsimp only)
        rw [if_pos (by omega)]
        exact qW_some ⟨H, p', rfl, hH⟩
    · rintro _ ⟨H, p', rfl, hH⟩
      (try dsimp only)
      rw [w32_id (x := l + 1) (by omega) (by omega)]
      obtain ⟨h1, h2, h3, h4, h5, h6⟩ := hH
      refine qW_some ⟨H, p', rfl, h1, h2, h3, fun q q0 q1 => ?_, fun d a b d0 hd w => ?_, h6⟩
      · have w := h4 q q0 q1
        exact ⟨w.1, w.2.1, w.2.2.1, by omega⟩
      · refine h5 d a b d0 hd ?_
        have ab := hd.2.1
        have bm := hd.2.2.1
        have a0 := hd.1
        omega
  · rintro _ ⟨G, p, rfl, hG⟩
    have el := (PCI_pls hK hG).2.2.2.2.trans s_lines.2.2
    unfold qf_X16_findPoints_L148_b
    (try dsimp only)
    rw [if_pos (by omega)]
    exact qW_some ⟨G, p, rfl, hG⟩
  · refine ⟨E, 0, rfl, fun b i j b1 b2 b3 b4 => ?_, ?_, Int.le_refl 0, fun q q0 q1 => by omega, fun d a b d0 hd w => ?_, fun q s q0 qs s1 => by omega⟩
    · rw [hE, qw_ap, if_neg (by omega)]
    · rw [hE]
      exact qw_s
    · have ab := hd.2.1
      have a0 := hd.1
      omega
/-- the points and pieces -/
def FPI (M E G : qm) (m p : Int) : Prop := (∀ b i j, (b < 2174 ∨ 2178 < b) → ¬ (b = 2157 ∧ (i = 27 ∨ i = 30)) → G b i j = E b i j) ∧ PTS G m ∧ (G 2157 27 0) = m ∧ m ≤ 440 ∧ (∀ x y, pin G m x y ↔ PL M (M 7 0 0) (M 7 0 0) x y) ∧ (G 2157 30 0) = p ∧ 0 ≤ p ∧ p ≤ 220 ∧ (∀ q, 0 ≤ q → q < p → 0 ≤ (G 2176 q 0) ∧ (G 2176 q 0) < (M 7 0 0) ∧ IPC M G m (G 2176 q 0) (G 2177 q 0) (G 2178 q 0)) ∧ (∀ d a b, 0 ≤ d → d < (M 7 0 0) → IPC M G m d a b → ∃ q, 0 ≤ q ∧ q < p ∧ (G 2176 q 0) = d ∧ (G 2177 q 0) = a ∧ (G 2178 q 0) = b) ∧ (∀ q s, 0 ≤ q → q < s → s < p → (G 2176 q 0) < (G 2176 s 0) ∨ ((G 2176 q 0) = (G 2176 s 0) ∧ (G 2177 q 0) < (G 2177 s 0)))
theorem findPoints_r (h_lines : R_lines M K) (h_ends : R_ends M K) (h_alone : R_alone M K) (hK : PLS K E) : qW (qf_X16_findPoints 20000 E) (fun r => ∃ m p, FPI M E r.2 m p) := by
  unfold qf_X16_findPoints
  refine qW_bnd ?_
  refine qW_call (pts_r h_lines h_ends (PLS_w hK (by decide)) qw_s) ?_
  rintro _ ⟨F, m, rfl, m5, hF⟩
  (try dsimp only)
  refine qW_bnd ?_
  have hKF : PLS K F := by
    have w := PLS_p hF.2.2.1
    have u : PLS K (qw E 2157 27 0 0) := PLS_w hK (by decide)
    exact ⟨fun i => (w.1 i).trans (u.1 i), fun i => (w.2.1 i).trans (u.2.1 i), fun i => (w.2.2.1 i).trans (u.2.2.1 i), fun i => (w.2.2.2.1 i).trans (u.2.2.2.1 i), w.2.2.2.2.trans u.2.2.2.2⟩
  refine qW_call (pieces_r h_lines h_ends h_alone hKF hF.1 m5 hF.2.1 hF.2.2.2 rfl) ?_
  rintro _ ⟨G, p, rfl, hG⟩
  (try dsimp only)
  have p5 := piece_220 h_lines h_ends h_alone hF.1 hF.2.2.2 hG
  obtain ⟨h1, h2, h3, h4, h5, h6⟩ := hG
  have ePx : ∀ k, (G 2174 k 0) = (F 2174 k 0) := fun k => h1 _ k 0 (by decide) (by decide) (by decide) (by omega)
  have ePy : ∀ k, (G 2175 k 0) = (F 2175 k 0) := fun k => h1 _ k 0 (by decide) (by decide) (by decide) (by omega)
  have eon : ∀ l i, onp M G l i ↔ onp M F l i := fun l i => by
    unfold onp
    rw [ePx, ePy]
  have ip : ∀ l a b, IPC M G m l a b ↔ IPC M F m l a b := fun l a b => by
    unfold IPC
    rw [eon, eon]
    exact ⟨fun z => ⟨z.1, z.2.1, z.2.2.1, z.2.2.2.1, z.2.2.2.2.1, fun c c1 c2 w => z.2.2.2.2.2 c c1 c2 ((eon l c).mpr w)⟩, fun z => ⟨z.1, z.2.1, z.2.2.1, z.2.2.2.1, z.2.2.2.2.1, fun c c1 c2 w => z.2.2.2.2.2 c c1 c2 ((eon l c).mp w)⟩⟩
  refine qW_some ⟨m, p, fun b i j b1 b2 => ?_, ?_, ?_, m5, fun x y => ?_, h2, h3, p5, fun q q0 q1 => ?_, fun d a b d0 d1 hd => ?_, h6⟩
  · (try dsimp only)
    rw [h1 b i j (by omega) (by omega) (by omega) (by omega), hF.2.2.1 b i j (by omega) (by omega) (by omega), qw_ap, if_neg (by omega)]
  · refine ⟨hF.1.1, fun i a b => ?_, fun i j a b c => ?_⟩
    · (try dsimp only)
      rw [ePx, ePy]
      exact hF.1.2.1 i a b
    · have := hF.1.2.2 i j a b c
      unfold kp at this ⊢
      (try dsimp only)
      rw [ePx, ePy, ePx, ePy]
      exact this
  · exact (h1 _ 27 0 (by decide) (by decide) (by decide) (by omega)).trans hF.2.1
  · rw [← hF.2.2.2 x y]
    unfold pin
    (try dsimp only)
    refine ⟨fun ⟨i, i0, i1, i2, i3⟩ => ⟨i, i0, i1, by rw [← ePx]; exact i2, by rw [← ePy]; exact i3⟩, fun ⟨i, i0, i1, i2, i3⟩ => ⟨i, i0, i1, by rw [ePx]; exact i2, by rw [ePy]; exact i3⟩⟩
  · have w := h4 q q0 q1
    exact ⟨w.1, w.2.1, (ip _ _ _).mpr w.2.2.1⟩
  · exact h5 d a b d0 ((ip _ _ _).mp hd) (Or.inl d1)
end PD
