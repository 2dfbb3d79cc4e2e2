section NE
variable {M K A B C D T V K0 : qm} {a b c d k n r q s t x y h i S : Int} {ow ob : Int → Int → Int} {w : Int → Int}
def TNA (T V : qm) : Prop := ∀ b i j, b ≠ 2172 → b ≠ 2183 → V b i j = T b i j
theorem best_e (hN : RCX T ow) (hO : RCX K0 ob) (hD : OLD T K0) (hs : (T 2157 17 0) = S) (S0 : 0 ≤ S) (S1 : S ≤ 100) (t0 : 0 ≤ t) (t1 : t < 100) : ∃ b m, qf_X16_carry_L40 20000 20000 t (-1) 0 0 T = some (.inr (b, m)) ∧ ((b = -1 ∧ m = 0 ∧ ((T 2173 t 0) ≤ 0 ∨ ∀ s, 0 ≤ s → s < S → cnt2 (fun x y => ow x y = s ∧ ob x y = t) ≤ 0)) ∨ (0 < (T 2173 t 0) ∧ 0 ≤ b ∧ b < S ∧ m = cnt2 (fun x y => ow x y = b ∧ ob x y = t) ∧ 0 < m ∧ (∀ s, 0 ≤ s → s < S → cnt2 (fun x y => ow x y = s ∧ ob x y = t) ≤ m) ∧ ∀ s, 0 ≤ s → s < b → cnt2 (fun x y => ow x y = s ∧ ob x y = t) < m)) := by
  have q : qW (qf_X16_carry_L40 20000 20000 t (-1) 0 0 T) (fun o => ∃ b m, o = .inr (b, m) ∧ ((b = -1 ∧ m = 0 ∧ ((T 2173 t 0) ≤ 0 ∨ ∀ s, 0 ≤ s → s < S → cnt2 (fun x y => ow x y = s ∧ ob x y = t) ≤ 0)) ∨ (0 < (T 2173 t 0) ∧ 0 ≤ b ∧ b < S ∧ m = cnt2 (fun x y => ow x y = b ∧ ob x y = t) ∧ 0 < m ∧ (∀ s, 0 ≤ s → s < S → cnt2 (fun x y => ow x y = s ∧ ob x y = t) ≤ m) ∧ ∀ s, 0 ≤ s → s < b → cnt2 (fun x y => ow x y = s ∧ ob x y = t) < m))) := by
    unfold qf_X16_carry_L40
    refine qW_loop (fun u => ∃ b m k, u = (t, b, m, k) ∧ 0 ≤ k ∧ ((b = -1 ∧ m = 0 ∧ (k = 0 ∨ 0 < (T 2173 t 0)) ∧ ∀ s, 0 ≤ s → s < k → cnt2 (fun x y => ow x y = s ∧ ob x y = t) ≤ 0) ∨ (0 < (T 2173 t 0) ∧ 0 ≤ b ∧ b < k ∧ b < S ∧ m = cnt2 (fun x y => ow x y = b ∧ ob x y = t) ∧ 0 < m ∧ (∀ s, 0 ≤ s → s < k → cnt2 (fun x y => ow x y = s ∧ ob x y = t) ≤ m) ∧ ∀ s, 0 ≤ s → s < b → cnt2 (fun x y => ow x y = s ∧ ob x y = t) < m))) (fun u => (101 - u.2.2.2).toNat) ?_ 20000 _ ⟨-1, 0, 0, rfl, by decide, Or.inl ⟨rfl, rfl, Or.inl rfl, fun s a b => by omega⟩⟩ (by (try dsimp only); omega)
    rintro _ ⟨b, m, k, rfl, k0, hk⟩
    unfold qf_X16_carry_L40_b
    (try dsimp only)
    by_cases g : S ≤ k
    · rw [if_pos (by omega)]
      refine qW_some ⟨b, m, rfl, ?_⟩
      rcases hk with ⟨a1, a2, a3, a4⟩ | ⟨a1, a2, a3, a4, a5, a6, a7, a8⟩
      · exact Or.inl ⟨a1, a2, Or.inr (fun s s0 s1 => a4 s s0 (by omega))⟩
      · exact Or.inr ⟨a1, a2, a4, a5, a6, fun s s0 s1 => a7 s s0 (by omega), a8⟩
    · rw [if_neg (by omega), if_pos (by omega)]
      by_cases gn : (T 2173 t 0) ≤ 0
      · rw [if_pos gn]
        refine qW_some ⟨b, m, rfl, ?_⟩
        rcases hk with ⟨a1, a2, a3, a4⟩ | ⟨a1, _⟩
        · exact Or.inl ⟨a1, a2, Or.inl gn⟩
        · omega
      · rw [if_neg gn]
        refine qW_eq (common_e hN hO hD k0 t0) ?_
        unfold qf_X16_carry_J79
        obtain ⟨v, hv⟩ : ∃ v, cnt2 (fun x y => ow x y = k ∧ ob x y = t) = v := ⟨_, rfl⟩
        have vb := cnt2_b (P := fun x y => ow x y = k ∧ ob x y = t)
        rw [hv] at vb ⊢
        (try dsimp only)
        rw [w32_id (x := k + 1) (by omega) (by omega)]
        by_cases g2 : v ≤ m
        · rw [if_pos g2, if_pos g2]
          refine qW_some ⟨⟨b, m, k + 1, rfl, by omega, ?_⟩, by (try dsimp only); omega⟩
          rcases hk with ⟨a1, a2, a3, a4⟩ | ⟨a1, a2, a3, a4, a5, a6, a7, a8⟩
          · exact Or.inl ⟨a1, a2, Or.inr (by omega), fun s s0 s1 => by
              by_cases gs : s = k
              · rw [gs, hv]
                omega
              · exact a4 s s0 (by omega)⟩
          · exact Or.inr ⟨a1, a2, by omega, a4, a5, a6, fun s s0 s1 => by
              by_cases gs : s = k
              · rw [gs, hv]
                omega
              · exact a7 s s0 (by omega), a8⟩
        · rw [if_neg g2, if_neg g2]
          refine qW_some ⟨⟨k, v, k + 1, rfl, by omega, Or.inr ⟨by omega, k0, by omega, by omega, hv.symm, ?_, fun s s0 s1 => ?_, fun s s0 s1 => ?_⟩⟩, by (try dsimp only); omega⟩
          · rcases hk with ⟨a1, a2, a3, a4⟩ | ⟨a1, a2, a3, a4, a5, a6, a7, a8⟩ <;> omega
          · by_cases gs : s = k
            · rw [gs, hv]
              exact Int.le_refl _
            · rcases hk with ⟨a1, a2, a3, a4⟩ | ⟨a1, a2, a3, a4, a5, a6, a7, a8⟩
              · have := a4 s s0 (by omega)
                omega
              · have := a7 s s0 (by omega)
                omega
          · rcases hk with ⟨a1, a2, a3, a4⟩ | ⟨a1, a2, a3, a4, a5, a6, a7, a8⟩
            · have := a4 s s0 (by omega)
              omega
            · have := a7 s s0 (by omega)
              omega
  obtain ⟨o, e, b, m, rfl, hh⟩ := q
  exact ⟨b, m, e, hh⟩
/-- both give the names on alike -/
def NMR (C D T V : qm) : Prop := CNA C D ∧ TNA T V ∧ (∀ s, 0 ≤ s → s < 100 → (V 2172 s 0) = (D 58 s 0) ∧ 0 ≤ (D 58 s 0) ∧ (D 58 s 0) ≤ 1000 ∧ 0 ≤ (D 726 s 0)) ∧ ∀ s, 0 ≤ s → s < (C 51 3 0) → (V 2183 s 0) = (D 726 s 0)
theorem RCX_o (h : RCX T ow) (ho : AXE T V) (hc : ∀ i, (V 2168 i 0) = (T 2168 i 0)) : RCX V ow := by
  obtain ⟨h1, h2, h3, h4⟩ := h
  refine ⟨?_, ?_, fun x y a b c d => ?_, h4⟩
  · rw [ho.2.2.1]
    exact SRx_o h1 ho.1
  · rw [ho.2.2.2]
    exact SRy_o h2 ho.2.1
  · rw [kuf_o ho, hc]
    exact h3 x y a b c d
theorem names_both (hX : OWX C ow ob) (hb : ∀ x y, 0 ≤ x → x < 24 → 0 ≤ y → y < 24 → -1 ≤ ow x y ∧ ow x y < S) (hs : (C 51 3 0) = S) (S0 : 0 ≤ S) (S1 : S ≤ 100) (hN : RCX T ow) (hO : RCX K0 ob) (hD : OLD T K0) (hsT : (T 2157 17 0) = S) (n0 : 0 ≤ n) (n1 : n ≤ 100) (hn : (T 2157 24 0) = n) (hnm : ∀ t, 0 ≤ t → t < n → (T 2173 t 0) = (C 59 t 0) ∧ 0 ≤ (C 59 t 0) ∧ (C 59 t 0) ≤ 1000) (h0 : ∀ s, 0 ≤ s → s < 100 → (C 58 s 0) = 0 ∧ (C 726 s 0) = 0 ∧ (T 2172 s 0) = 0) (h0' : ∀ s, 0 ≤ s → s < S → (T 2183 s 0) = 0) : qW (qf_X2_giveNamesOn_L18 20000 20000 n 0 C) (fun o => qW (qf_X16_carry_L25 20000 20000 0 T) (fun o2 => ∃ D V, o = .inr ((), D) ∧ o2 = .inr ((), V) ∧ NMR C D T V)) := by
  unfold qf_X2_giveNamesOn_L18 qf_X16_carry_L25
  refine qW_for2 n (fun i u v => ∃ D V, u = (n, i, D) ∧ v = (i, V) ∧ NMR C D T V) ?_ ?_ ⟨C, T, rfl, rfl, fun _ _ _ _ _ _ => rfl, fun _ _ _ _ _ => rfl, fun s s0 s1 => by
    have q := h0 s s0 s1
    rw [q.1, q.2.1, q.2.2]
    decide, fun s s0 s1 => by
    have q := h0 s s0 (by omega)
    rw [h0' s s0 (by omega), q.2.1]⟩ n0 (by omega)
  · rintro i _ _ i0 i1 ⟨D, V, rfl, rfl, c1, c2, c3, c4⟩
    have hNV : RCX V ow := RCX_o hN ⟨fun i => c2 _ i 0 (by decide) (by decide), fun i => c2 _ i 0 (by decide) (by decide), c2 _ _ _ (by decide) (by decide), c2 _ _ _ (by decide) (by decide)⟩ (fun i => c2 _ i 0 (by decide) (by decide))
    have hDV : OLD V K0 := by
      obtain ⟨o1, o2, o3, o4, o5⟩ := hD
      exact ⟨fun i => (c2 _ i 0 (by decide) (by decide)).trans (o1 i), fun i => (c2 _ i 0 (by decide) (by decide)).trans (o2 i), fun i => (c2 _ i 0 (by decide) (by decide)).trans (o3 i), (c2 _ _ _ (by decide) (by decide)).trans o4, (c2 _ _ _ (by decide) (by decide)).trans o5⟩
    have sV : (V 2157 17 0) = S := (c2 _ _ _ (by decide) (by decide)).trans hsT
    have oV : (V 2157 24 0) = n := (c2 _ _ _ (by decide) (by decide)).trans hn
    have nV : (V 2173 i 0) = (T 2173 i 0) := c2 _ _ _ (by decide) (by decide)
    have nD : (D 59 i 0) = (C 59 i 0) := c1 _ _ _ (by decide) (by decide) (by decide)
    have sD : (D 51 3 0) = S := (c1 _ _ _ (by decide) (by decide) (by decide)).trans hs
    have xD : OWX D ow ob := fun x y x0 x1 y0 y1 => by
      rw [c1 _ _ _ (by decide) (by decide) (by decide), c1 _ _ _ (by decide) (by decide) (by decide)]
      exact hX x y x0 x1 y0 y1
    have nm := hnm i i0 i1
    obtain ⟨b, m, eb, hbm⟩ := best_e hNV hO hDV sV S0 S1 i0 (show i < 100 by omega)
    unfold qf_X2_giveNamesOn_L18_b qf_X16_carry_L25_b
    (try dsimp only)
    rw [if_neg (by omega), if_pos (by omega), w32_id (x := i + 1) (by omega) (by omega)]
    by_cases g0 : (C 59 i 0) = 0
    · rw [if_pos (by omega)]
      refine qW_some ?_
      rw [if_neg (by omega)]
      refine qW_eq eb ?_
      (try dsimp only)
      have b1 : b = -1 := by
        rcases hbm with z | z
        · exact z.1
        · have := z.1
          omega
      unfold qf_X16_carry_J99
      rw [if_pos (by omega), w32_id (x := i + 1) (by omega) (by omega)]
      exact qW_some ⟨D, V, rfl, rfl, c1, c2, c3, c4⟩
    · rw [if_neg (by omega)]
      refine qW_call (giveName_r xD hb sD S0 S1 i0 (show i < 100 by omega)) ?_
      rintro ⟨_, E⟩ ⟨h, h0, h1, h2, h3, h4, h5, h6⟩
      (try dsimp only at h5 h6 ⊢)
      refine qW_some ?_
      rw [if_neg (by omega)]
      refine qW_eq eb ?_
      (try dsimp only)
      have c1E : CNA C E := fun b i j b1 b2 b3 => (h5 b i j b1 b2 b3).trans (c1 b i j b1 b2 b3)
      unfold qf_X16_carry_J99
      rw [w32_id (x := i + 1) (by omega) (by omega)]
      have sh := (c3 h h0 h1).2.2.2
      rcases hbm with ⟨b1, m1, hz⟩ | ⟨b0, b1, b2, b3, b4, b5, b6⟩
      · have z0 : cnt2 (fun x y => ow x y = h ∧ ob x y = i) ≤ 0 := by
          rcases h2 with z | z
          · by_cases gS : 0 < S
            · rcases hz with y | y
              · omega
              · rw [z]
                exact y 0 (by decide) gS
            · rw [cnt2_0 (fun x y x0 x1 y0 y1 => ?_)]
              · exact Int.le_refl 0
              · rintro ⟨p, _⟩
                have := hb x y x0 x1 y0 y1
                omega
          · rcases hz with y | y
            · omega
            · exact y h h0 z
        rw [if_pos (by omega)] at h6
        rw [if_pos (by omega)]
        refine qW_some ⟨E, V, rfl, rfl, c1E, c2, fun s s0 s1 => ?_, fun s s0 s1 => ?_⟩
        · rw [h6.1, h6.2]
          exact c3 s s0 s1
        · rw [h6.2]
          exact c4 s s0 s1
      · have hS : h < S := by
          rcases h2 with z | z
          · omega
          · exact z
        have eh : h = b := by
          rcases Int.lt_trichotomy h b with z | z | z
          · have := b6 h h0 z
            have := h3 b b1 b2
            omega
          · exact z
          · have := h4 b b1 z
            have := b5 h h0 hS
            omega
        rw [eh, ← b3] at h6
        have e5 := c4 b b1 (by omega)
        rw [if_neg (by omega), if_pos (by omega)]
        by_cases g : m ≤ (D 726 b 0)
        · rw [if_pos g] at h6
          rw [if_pos (by omega)]
          refine qW_some ⟨E, V, rfl, rfl, c1E, c2, fun s s0 s1 => ?_, fun s s0 s1 => ?_⟩
          · rw [h6.1, h6.2]
            exact c3 s s0 s1
          · rw [h6.2]
            exact c4 s s0 s1
        · rw [if_neg g] at h6
          rw [if_neg (by omega), if_pos (by omega)]
          refine qW_bnd ?_
          rw [if_pos (by omega), if_pos (by omega)]
          refine qW_bnd (qW_some ⟨E, _, rfl, rfl, c1E, fun b i j b1 b2 => ?_, fun s s0 s1 => ?_, fun s s0 s1 => ?_⟩)
          · rw [qw_a b1, qw_a b2]
            exact c2 b i j b1 b2
          · have e3 : ∀ z z2, qw (qw V 2183 b 0 z) 2172 b 0 z2 2172 s 0 = if s = b then z2 else (V 2172 s 0) := fun z z2 => by
              simp only [qw_ap, false_and, true_and, and_true, and_false, and_self, if_false, if_true, reduceIte, Nat.reduceEqDiff, Int.reduceEq]
            have q := c3 s s0 s1
            rw [e3, qw_a (by decide), h6.1, h6.2]
            by_cases gs : s = b
            · rw [if_pos gs, if_pos gs, if_pos gs]
              omega
            · rw [if_neg gs, if_neg gs, if_neg gs]
              exact q
          · have e3 : ∀ z z2, qw (qw V 2183 b 0 z) 2172 b 0 z2 2183 s 0 = if s = b then z else (V 2183 s 0) := fun z z2 => by
              simp only [qw_ap, false_and, true_and, and_true, and_false, and_self, if_false, if_true, reduceIte, Nat.reduceEqDiff, Int.reduceEq]
            rw [e3, h6.2]
            by_cases gs : s = b
            · rw [if_pos gs, if_pos gs]
            · rw [if_neg gs, if_neg gs]
              exact c4 s s0 s1
  · rintro _ _ ⟨D, V, rfl, rfl, h⟩
    have oV : (V 2157 24 0) = n := (h.2.1 _ _ _ (by decide) (by decide)).trans hn
    unfold qf_X2_giveNamesOn_L18_b qf_X16_carry_L25_b
    (try dsimp only)
    rw [if_pos (Int.le_refl _)]
    refine qW_some ?_
    rw [if_pos (by omega)]
    exact qW_some ⟨D, V, rfl, rfl, h⟩
end NE
