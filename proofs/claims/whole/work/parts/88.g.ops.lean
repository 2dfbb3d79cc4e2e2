/-! ===== the call at ===== -/
section UG
variable {M K T : qm} {x y c r v x1 x2 : Int} {ow : Int → Int → Int}
theorem at_e (h : RCX T ow) (x0 : -1 ≤ x) (x1 : x ≤ 24) (y0 : -1 ≤ y) (y1 : y ≤ 24) : qf_X16_at 20000 x y T = some (ow x y) := by
  have C5 := SRx_n h.1
  have R5 := SRy_n h.2.1
  have C0 := h.1.1
  have R0 := h.2.1.1
  refine qW_e ?_
  unfold qf_X16_at
  refine qW_call (Q := fun o => o = .inr (colf T x)) ?_ ?_
  · unfold qf_X16_at_L2
    refine qW_loop (fun u => ∃ c, u = (x, y, c) ∧ 0 ≤ c ∧ c ≤ (T 2157 12 0) ∧ ∀ j, 0 ≤ j → j < c → (T 2166 j 0) ≤ x) (fun u => (26 - u.2.2).toNat) ?_ 20000 _ ⟨0, rfl, by decide, C0, fun j a b => by omega⟩ (by (try dsimp only); omega)
    rintro _ ⟨c, rfl, c0, c1, hc⟩
    unfold qf_X16_at_L2_b
    (try dsimp only)
    by_cases g : (T 2157 12 0) ≤ c
    · rw [if_pos g]
      exact qW_some (by rw [colf_e h.1 ⟨c0, c1, hc, fun j a b => by omega⟩])
    · rw [if_neg g, if_pos (by omega)]
      by_cases g2 : x < (T 2166 c 0)
      · rw [if_pos g2]
        refine qW_some ?_
        rw [colf_e h.1 ⟨c0, c1, hc, fun j a b => ?_⟩]
        by_cases e : j = c
        · rw [e]
          exact g2
        · have := h.1.2.1 c j c0 (by omega) b
          omega
      · rw [if_neg g2, w32_id (x := c + 1) (by omega) (by omega)]
        exact qW_some ⟨⟨c + 1, rfl, by omega, by omega, all_s hc (by omega)⟩, by (try dsimp only); omega⟩
  rintro _ rfl
  (try dsimp only)
  have cs := colf_s (x := x) h.1
  unfold qf_X16_at_J26
  refine qW_call (Q := fun o => o = .inr (rowf T y)) ?_ ?_
  · unfold qf_X16_at_L29
    refine qW_loop (fun u => ∃ c, u = (y, colf T x, c) ∧ 0 ≤ c ∧ c ≤ (T 2157 13 0) ∧ ∀ j, 0 ≤ j → j < c → (T 2167 j 0) ≤ y) (fun u => (26 - u.2.2).toNat) ?_ 20000 _ ⟨0, rfl, by decide, R0, fun j a b => by omega⟩ (by (try dsimp only); omega)
    rintro _ ⟨c, rfl, c0, c1, hc⟩
    unfold qf_X16_at_L29_b
    (try dsimp only)
    by_cases g : (T 2157 13 0) ≤ c
    · rw [if_pos g]
      exact qW_some (by rw [rowf_e h.2.1 ⟨c0, c1, hc, fun j a b => by omega⟩])
    · rw [if_neg g, if_pos (by omega)]
      by_cases g2 : y < (T 2167 c 0)
      · rw [if_pos g2]
        refine qW_some ?_
        rw [rowf_e h.2.1 ⟨c0, c1, hc, fun j a b => ?_⟩]
        by_cases e : j = c
        · rw [e]
          exact g2
        · have := h.2.1.2.1 c j c0 (by omega) b
          omega
      · rw [if_neg g2, w32_id (x := c + 1) (by omega) (by omega)]
        exact qW_some ⟨⟨c + 1, rfl, by omega, by omega, all_s hc (by omega)⟩, by (try dsimp only); omega⟩
  rintro _ rfl
  (try dsimp only)
  have rs := rowf_s (x := y) h.2.1
  have a1 := cs.1
  have a2 := cs.2.1
  have a3 := rs.1
  have a4 := rs.2.1
  unfold qf_X16_at_J55
  rw [w32_id (x := 42 * rowf T y) (by omega) (by omega), w32_id (x := 42 * rowf T y + colf T x) (by omega) (by omega), if_pos (by omega)]
  exact qW_some (h.2.2.1 x y x0 x1 y0 y1)
theorem op_at (h_find0 : R_find0 M K) (h_spaces : R_spaces M K) (h : FND M K) : oK2 cI (qf_L_at 20000 x1 x2 M) (qf_X18_at 20000 x1 x2 K) (fun _ _ => True) := by
  have s_find := h_find0
  unfold R_find0 at s_find
  have main : (qf_X11_at 20000 x1 x2 M = some (.inr "java/lang/IllegalArgumentException") ∧ qf_X18_at 20000 x1 x2 K = some (0, qw K 2156 0 0 1)) ∨ (qf_X11_at 20000 x1 x2 M = some (.inr "java/lang/IllegalStateException") ∧ qf_X18_at 20000 x1 x2 K = some (0, qw K 2156 0 0 2)) ∨ ∃ v, qf_X11_at 20000 x1 x2 M = some (.inl v) ∧ qf_X18_at 20000 x1 x2 K = some (v, qw K 2156 0 0 0) := by
    have cC : qf_X11_isCell 20000 x1 x2 M = some (b01 ((0 ≤ x1 ∧ x1 < 24) ∧ (0 ≤ x2 ∧ x2 < 24))) := by
      unfold qf_X11_isCell
      rw [within_e, within_e]
      refine qW_e (qW_bind (qW_some ?_))
      rcases b01_o (p := 0 ≤ x1 ∧ x1 ≤ 23) with ⟨e, z⟩ | ⟨e, z⟩
      · rw [e, if_neg (by decide)]
        refine qW_bind (qW_some ?_)
        rcases b01_o (p := 0 ≤ x2 ∧ x2 ≤ 23) with ⟨e2, z2⟩ | ⟨e2, z2⟩
        · rw [e2, b01_t (by omega)]
          exact qW_some rfl
        · rw [e2, b01_f (by omega)]
          exact qW_some rfl
      · rw [e, if_pos rfl, b01_f (by omega)]
        exact qW_some rfl
    have cK : qf_X18_isCell 20000 x1 x2 K = some (b01 ((0 ≤ x1 ∧ x1 < 24) ∧ (0 ≤ x2 ∧ x2 < 24))) := by
      unfold qf_X18_isCell
      rw [isIn_e, isIn_e]
      refine qW_e (qW_bind (qW_some ?_))
      rcases b01_o (p := 0 ≤ x1 ∧ x1 < 24) with ⟨e, z⟩ | ⟨e, z⟩
      · rw [e, if_neg (by decide)]
        refine qW_bind (qW_some ?_)
        rcases b01_o (p := 0 ≤ x2 ∧ x2 < 24) with ⟨e2, z2⟩ | ⟨e2, z2⟩
        · rw [e2, b01_t (by omega)]
          exact qW_some rfl
        · rw [e2, b01_f (by omega)]
          exact qW_some rfl
      · rw [e, if_pos rfl, b01_f (by omega)]
        exact qW_some rfl
    have bb : ∀ {α : Type} (a : Int) (f : Int → Option α), (some a).bind f = f a := fun a f => rfl
    unfold qf_X11_at qf_X18_at
    rw [cC, cK, bb, bb]
    rcases b01_o (p := (0 ≤ x1 ∧ x1 < 24) ∧ (0 ≤ x2 ∧ x2 < 24)) with ⟨e, z⟩ | ⟨e, z⟩
    · rw [e]
      rcases s_find.2.2.2.1 with g | g
      · have gk : (K 2157 10 0) = 0 := by omega
        rw [g, gk]
        exact Or.inr (Or.inl ⟨rfl, rfl⟩)
      · have gk : (K 2157 10 0) = 1 := by omega
        rw [g, gk]
        have h' := FND_g (v := 0) h
        have nf : (M 51 1 0) ≠ 0 := by
          rcases h with ⟨_, y⟩ | ⟨y, _⟩
          · omega
          · exact y
        have rc := fnd_rcx h' nf
        have ea := at_e rc (x := x1) (y := x2) (by omega) (by omega) (by omega) (by omega)
        have eC := spaceAt_e (C := M) (x := x1) (y := x2) (by omega) (by omega) (by omega) (by omega)
        refine Or.inr (Or.inr ⟨own M x1 x2, ?_, ?_⟩)
        · show (qf_X2_spaceAt 20000 x1 x2 M).bind _ = _
          rw [eC]
          rfl
        · show (qf_X16_at 20000 x1 x2 (qw K 2156 0 0 0)).bind _ = _
          rw [ea]
          rfl
    · rw [e]
      exact Or.inl ⟨rfl, rfl⟩
  unfold oK2 qf_L_at
  rcases main with ⟨e1, e2⟩ | ⟨e1, e2⟩ | ⟨v, e1, e2⟩
  · refine qW_eq e1 ?_
    (try dsimp only)
    rw [if_pos rfl]
    refine qW_some ⟨_, e2, ?_⟩
    (try dsimp only)
    exact ⟨qw_s, fun z => absurd z (by decide), trivial⟩
  · refine qW_eq e1 ?_
    (try dsimp only)
    rw [if_neg (by decide), if_pos rfl]
    refine qW_some ⟨_, e2, ?_⟩
    (try dsimp only)
    exact ⟨qw_s, fun z => absurd z (by decide), trivial⟩
  · refine qW_eq e1 ?_
    (try dsimp only)
    refine qW_bnd (qW_some ⟨_, e2, ?_⟩)
    (try dsimp only)
    exact ⟨qw_s, fun _ => qw_s, trivial⟩
end UG
