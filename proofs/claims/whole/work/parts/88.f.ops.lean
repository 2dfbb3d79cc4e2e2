/-! ===== the calls count, sides, side, size, at ===== -/
section UF
variable {M K A B C D D0 E F G H T V K0 M0 : qm} {a b c d k n m p r q' s t u v x y h i R S w x1 x2 x3 x4 : Int}
theorem na0 : qf_X11_needArgument 20000 0 M = some (.inr "java/lang/IllegalArgumentException") := rfl
theorem na1 : qf_X11_needArgument 20000 1 M = some (.inl ()) := rfl
theorem ns0 : qf_X11_needState 20000 0 M = some (.inr "java/lang/IllegalStateException") := rfl
theorem ns1 : qf_X11_needState 20000 1 M = some (.inl ()) := rfl
theorem go1 : qf_X18_goes 20000 0 b K = some (0, qw K 2156 0 0 1) := rfl
theorem go2 : qf_X18_goes 20000 1 0 K = some (0, qw K 2156 0 0 2) := rfl
theorem go3 : qf_X18_goes 20000 1 1 K = some (1, qw K 2156 0 0 0) := rfl
theorem within_e : qf_X11_isWithin 20000 x a b M = some (b01 (a ≤ x ∧ x ≤ b)) := by
  unfold qf_X11_isWithin
  by_cases g : x < a
  · rw [if_pos g, b01_f (by omega)]
  · rw [if_neg g]
    by_cases g2 : b < x
    · rw [if_pos g2, b01_f (by omega)]
    · rw [if_neg g2, b01_t (by omega)]
theorem isIn_e : qf_X18_isIn 20000 x n K = some (b01 (0 ≤ x ∧ x < n)) := by
  unfold qf_X18_isIn
  by_cases g : x < 0
  · rw [if_pos g, b01_f (by omega)]
  · rw [if_neg g]
    by_cases g2 : n ≤ x
    · rw [if_pos g2, b01_f (by omega)]
    · rw [if_neg g2, b01_t (by omega)]
theorem spaceC_e (h_spaces : R_spaces M K) : qf_X11_isSpace 20000 x M = some (b01 (0 ≤ x ∧ x < (M 51 3 0))) := by
  unfold R_spaces at h_spaces
  unfold qf_X11_isSpace
  refine qW_e (qW_eq within_e ?_)
  have e := b01_01 (p := 0 ≤ x ∧ x ≤ w32 ((M 51 3 0) - 1))
  rw [if_pos e, w32_id (by omega) (by omega)]
  refine qW_some (b01_c ?_)
  omega
theorem spaceK_e (h_find0 : R_find0 M K) (h_spaces : R_spaces M K) : qf_X16_isSpace 20000 x K = some (b01 (0 ≤ x ∧ x < (M 51 3 0))) := by
  unfold R_spaces at h_spaces
  unfold R_find0 at h_find0
  unfold qf_X16_isSpace
  by_cases g : (M 51 1 0) = 0
  · rw [if_pos g] at h_find0
    have := h_spaces.2.2.2 g
    rw [if_pos h_find0.2.2.2.2.2, b01_f (by omega)]
  · rw [if_neg g] at h_find0
    rw [if_neg (by omega)]
    by_cases g1 : x < 0
    · rw [if_pos g1, b01_f (by omega)]
    · rw [if_neg g1]
      by_cases g2 : (K 2157 17 0) ≤ x
      · rw [if_pos g2, b01_f (by omega)]
      · rw [if_neg g2, b01_t (by omega)]
theorem anyC_e (h_spaces : R_spaces M K) (hf : 0 ≤ (M 51 1 0)) : qf_X11_isSpaceOrOutside 20000 x M = some (b01 ((M 51 1 0) ≠ 0 ∧ -1 ≤ x ∧ x < (M 51 3 0))) := by
  have s_spaces := h_spaces
  unfold R_spaces at s_spaces
  unfold qf_X11_isSpaceOrOutside
  refine qW_e (qW_eq (spaceC_e h_spaces) ?_)
  rcases b01_o (p := 0 ≤ x ∧ x < (M 51 3 0)) with ⟨e, z⟩ | ⟨e, z⟩
  · rw [e, if_neg (by decide), b01_t (by omega)]
    exact qW_some rfl
  · rw [e, if_pos rfl]
    by_cases g : x = -1
    · rw [if_pos g]
      by_cases g2 : (M 51 1 0) ≤ 0
      · rw [if_pos g2, b01_f (by omega)]
        exact qW_some rfl
      · rw [if_neg g2, b01_t (by omega)]
        exact qW_some rfl
    · rw [if_neg g, b01_f (by omega)]
      exact qW_some rfl
theorem anyK_e (h_find0 : R_find0 M K) (h_spaces : R_spaces M K) : qf_X16_isAny 20000 x K = some (b01 ((M 51 1 0) ≠ 0 ∧ -1 ≤ x ∧ x < (M 51 3 0))) := by
  unfold R_spaces at h_spaces
  unfold R_find0 at h_find0
  unfold qf_X16_isAny
  by_cases g : (M 51 1 0) = 0
  · rw [if_pos g] at h_find0
    rw [if_pos h_find0.2.2.2.2.2, b01_f (by omega)]
  · rw [if_neg g] at h_find0
    rw [if_neg (by omega)]
    by_cases g1 : x < -1
    · rw [if_pos g1, b01_f (by omega)]
    · rw [if_neg g1]
      by_cases g2 : (K 2157 17 0) ≤ x
      · rw [if_pos g2, b01_f (by omega)]
      · rw [if_neg g2, b01_t (by omega)]
/-- the state behind a call that goes -/
theorem FND_g (h : FND M K) : FND M (qw K 2156 0 0 v) := FND_o h (fun _ _ _ _ => rfl) (fun b i hb => qw_a (by omega))
theorem find0_g (h_find0 : R_find0 M K) : R_find0 M (qw K 2156 0 0 v) := by
  unfold R_find0
  rw [qw_a (by decide), qw_a (by decide), qw_a (by decide)]
  exact h_find0
theorem spaces_g (h_spaces : R_spaces M K) : R_spaces M (qw K 2156 0 0 v) := by
  unfold R_spaces
  rw [qw_a (by decide)]
  exact h_spaces
theorem op_count (h_find0 : R_find0 M K) (h_spaces : R_spaces M K) (h : FND M K) : oK2 cI (qf_L_count 20000 x1 M) (qf_X18_count 20000 x1 K) (fun _ _ => True) := by
  have s_find := h_find0
  unfold R_find0 at s_find
  have s_spaces := h_spaces
  unfold R_spaces at s_spaces
  have main : (qf_X11_count 20000 x1 M = some (.inr "java/lang/IllegalArgumentException") ∧ qf_X18_count 20000 x1 K = some (0, qw K 2156 0 0 1)) ∨ (qf_X11_count 20000 x1 M = some (.inr "java/lang/IllegalStateException") ∧ qf_X18_count 20000 x1 K = some (0, qw K 2156 0 0 2)) ∨ ∃ v, qf_X11_count 20000 x1 M = some (.inl v) ∧ qf_X18_count 20000 x1 K = some (v, qw K 2156 0 0 0) := by
    unfold qf_X11_count qf_X18_count
    rw [within_e, isIn_e, b01_c (p := 0 ≤ x1 ∧ x1 ≤ 3) (q := 0 ≤ x1 ∧ x1 < 4) (by omega)]
    rcases b01_o (p := 0 ≤ x1 ∧ x1 < 4) with ⟨e, z⟩ | ⟨e, z⟩
    · rw [e]
      rcases s_find.2.2.2.1 with g | g
      · have gk : (K 2157 10 0) = 0 := by omega
        rw [g, gk]
        exact Or.inr (Or.inl ⟨rfl, rfl⟩)
      · have gk : (K 2157 10 0) = 1 := by omega
        rw [g, gk]
        have h' := FND_g (v := 0) h
        rcases h' with ⟨_, y⟩ | ⟨_, M0, K0, A, D0, D, E, F, G, H, C, q, m, p, R, stt, cnt, w⟩
        · omega
        have pb := points_both w
        obtain ⟨ob, o1, o2⟩ := outer_both w
        have tb := fnw_tab w
        have fp := fnw_fpi w
        have pp : qw K 2156 0 0 0 2157 30 0 = p := ((fnw_kag w).1 2157 30 (by omega)).trans fp.2.1.2.2.2.2.2.1
        have cx : x1 = 0 ∨ x1 = 1 ∨ x1 = 2 ∨ x1 = 3 := by omega
        refine Or.inr (Or.inr ?_)
        rcases cx with rfl | rfl | rfl | rfl
        · refine ⟨(M 51 3 0), rfl, ?_⟩
          show some ((qw K 2156 0 0 0 2157 17 0), qw K 2156 0 0 0) = _
          rw [qw_a (by decide), s_spaces.2.2.1]
        · refine ⟨m, ?_, ?_⟩
          · show (qf_X2_countPoints 20000 M).bind _ = _
            rw [pb.1]
            rfl
          · show some ((qw K 2156 0 0 0 2157 27 0), qw K 2156 0 0 0) = _
            rw [pb.2]
        · refine ⟨p, ?_, ?_⟩
          · show some (Sum.inl (Int.tdiv (M 51 14 0) 2) : Int ⊕ String) = _
            rw [tb.2.1, tb.2.2.2.2.2.2.2.2.2, Int.tdiv_eq_ediv_of_nonneg (by have := fp.2.1.2.2.2.2.2.2.1; omega), show 2 * p / 2 = p by omega]
          · show some ((qw K 2156 0 0 0 2157 30 0), qw K 2156 0 0 0) = _
            rw [pp]
        · refine ⟨ob, ?_, ?_⟩
          · show (qf_X2_countOutsideSides 20000 M).bind _ = _
            rw [o1]
            rfl
          · show (qf_X16_outerSides 20000 (qw K 2156 0 0 0)).bind _ = _
            rw [o2]
            rfl
    · rw [e]
      exact Or.inl ⟨rfl, rfl⟩
  unfold oK2 qf_L_count
  rcases main with ⟨e1, e2⟩ | ⟨e1, e2⟩ | ⟨v, e1, e2⟩
  · refine qW_eq e1 ?_
    (try dsimp only)
    rw [if_pos rfl]
    refine qW_some ⟨_, e2, ?_⟩
    (try dsimp only)
    exact ⟨qw_s, fun z => absurd z (by decide), trivial⟩
  · refine qW_eq e1 ?_
    (try dsimp only)
    rw [if_neg (by decide), if_pos rfl]
    refine qW_some ⟨_, e2, ?_⟩
    (try dsimp only)
    exact ⟨qw_s, fun z => absurd z (by decide), trivial⟩
  · refine qW_eq e1 ?_
    (try dsimp only)
    refine qW_bnd (qW_some ⟨_, e2, ?_⟩)
    (try dsimp only)
    exact ⟨qw_s, fun _ => qw_s, trivial⟩
theorem op_sides (h_find0 : R_find0 M K) (h_spaces : R_spaces M K) (h : FND M K) (c2 : x2 ≤ 2147483647) : oK2 cI (qf_L_sides 20000 x1 x2 M) (qf_X18_sides 20000 x1 x2 K) (fun _ _ => True) := by
  have s_find := h_find0
  unfold R_find0 at s_find
  have s_spaces := h_spaces
  unfold R_spaces at s_spaces
  have main : (qf_X11_sides 20000 x1 x2 M = some (.inr "java/lang/IllegalArgumentException") ∧ qf_X18_sides 20000 x1 x2 K = some (0, qw K 2156 0 0 1)) ∨ (qf_X11_sides 20000 x1 x2 M = some (.inr "java/lang/IllegalStateException") ∧ qf_X18_sides 20000 x1 x2 K = some (0, qw K 2156 0 0 2)) ∨ ∃ v, qf_X11_sides 20000 x1 x2 M = some (.inl v) ∧ qf_X18_sides 20000 x1 x2 K = some (v, qw K 2156 0 0 0) := by
    unfold qf_X11_sides qf_X18_sides
    rw [spaceC_e h_spaces, spaceK_e h_find0 h_spaces]
    rcases b01_o (p := 0 ≤ x1 ∧ x1 < (M 51 3 0)) with ⟨e, z⟩ | ⟨e, z⟩
    · have o1 : ∀ {α : Type} (f g : α), (if (1 : Int) = 0 then f else g) = g := fun f g => if_neg (by decide)
      have bb : ∀ {α : Type} (a : Int) (f : Int → Option α), (some a).bind f = f a := fun a f => rfl
      rw [e, bb, bb, o1, o1]
      by_cases gx : x2 < 0
      · rw [if_pos gx, if_pos gx]
        exact Or.inl ⟨rfl, rfl⟩
      · rw [if_neg gx, if_neg gx]
        unfold qf_X11_sides_J17 qf_X18_sides_J21
        rcases s_find.2.2.2.1 with g | g
        · have gk : (K 2157 10 0) = 0 := by omega
          rw [g, gk]
          exact Or.inr (Or.inl ⟨rfl, rfl⟩)
        · have gk : (K 2157 10 0) = 1 := by omega
          rw [g, gk]
          have h' := FND_g (v := 0) h
          rcases h' with ⟨_, y⟩ | ⟨_, M0, K0, A, D0, D, E, F, G, H, C, q, m, p, R, stt, cnt, w⟩
          · omega
          have hs := spaceK_e (x := x1) (find0_g (v := 0) h_find0) (spaces_g (v := 0) h_spaces)
          rw [e] at hs
          obtain ⟨v, e1, e2, _⟩ := sides_both w (show 0 ≤ x2 by omega) (by omega) hs
          refine Or.inr (Or.inr ⟨v, ?_, ?_⟩)
          · show (qf_X2_sidesOf 20000 x1 x2 M).bind _ = _
            rw [e1]
            rfl
          · show (qf_X16_sides 20000 x1 x2 (qw K 2156 0 0 0)).bind _ = _
            rw [e2]
            rfl
    · rw [e]
      exact Or.inl ⟨rfl, rfl⟩
  unfold oK2 qf_L_sides
  rcases main with ⟨e1, e2⟩ | ⟨e1, e2⟩ | ⟨v, e1, e2⟩
  · refine qW_eq e1 ?_
    (try dsimp only)
    rw [if_pos rfl]
    refine qW_some ⟨_, e2, ?_⟩
    (try dsimp only)
    exact ⟨qw_s, fun z => absurd z (by decide), trivial⟩
  · refine qW_eq e1 ?_
    (try dsimp only)
    rw [if_neg (by decide), if_pos rfl]
    refine qW_some ⟨_, e2, ?_⟩
    (try dsimp only)
    exact ⟨qw_s, fun z => absurd z (by decide), trivial⟩
  · refine qW_eq e1 ?_
    (try dsimp only)
    refine qW_bnd (qW_some ⟨_, e2, ?_⟩)
    (try dsimp only)
    exact ⟨qw_s, fun _ => qw_s, trivial⟩
theorem op_side (h_find0 : R_find0 M K) (h_spaces : R_spaces M K) (h : FND M K) (c2 : x2 ≤ 2147483647) : oK2 cI (qf_L_side 20000 x1 x2 x3 x4 M) (qf_X18_side 20000 x1 x2 x3 x4 K) (fun _ _ => True) := by
  have s_find := h_find0
  unfold R_find0 at s_find
  have s_spaces := h_spaces
  unfold R_spaces at s_spaces
  have main : (qf_X11_side 20000 x1 x2 x3 x4 M = some (.inr "java/lang/IllegalArgumentException") ∧ qf_X18_side 20000 x1 x2 x3 x4 K = some (0, qw K 2156 0 0 1)) ∨ (qf_X11_side 20000 x1 x2 x3 x4 M = some (.inr "java/lang/IllegalStateException") ∧ qf_X18_side 20000 x1 x2 x3 x4 K = some (0, qw K 2156 0 0 2)) ∨ ∃ v, qf_X11_side 20000 x1 x2 x3 x4 M = some (.inl v) ∧ qf_X18_side 20000 x1 x2 x3 x4 K = some (v, qw K 2156 0 0 0) := by
    unfold qf_X11_side qf_X18_side
    rw [spaceC_e h_spaces, spaceK_e h_find0 h_spaces]
    rcases b01_o (p := 0 ≤ x1 ∧ x1 < (M 51 3 0)) with ⟨e, z⟩ | ⟨e, z⟩
    · rw [e]
      have bad : qf_X11_side_J43 20000 x1 x2 x3 x4 M = some (.inr "java/lang/IllegalArgumentException") ∧ qf_X18_side_J46 20000 x1 x2 x3 x4 K = some (0, qw K 2156 0 0 1) := ⟨rfl, rfl⟩
      have o1 : ∀ {α : Type} (f g : α), (if (1 : Int) = 0 then f else g) = g := fun f g => if_neg (by decide)
      have bb : ∀ {α : Type} (a : Int) (f : Int → Option α), (some a).bind f = f a := fun a f => rfl
      rw [bb, bb, o1, o1]
      by_cases gx : x2 < 0
      · rw [if_pos gx, if_pos gx]
        exact Or.inl bad
      rw [if_neg gx, if_neg gx]
      by_cases gy : x3 < 0
      · rw [if_pos gy, if_pos gy]
        exact Or.inl bad
      rw [if_neg gy, if_neg gy]
      have hf : (M 51 1 0) ≠ 0 := fun w => by
        have := s_spaces.2.2.2 w
        omega
      rcases h with ⟨y, _⟩ | ⟨hn, M0, K0, A, D0, D, E, F, G, H, C, q, m, p, R, stt, cnt, w⟩
      · exact absurd y hf
      have hs := spaceK_e (x := x1) h_find0 h_spaces
      rw [e] at hs
      obtain ⟨v, e1, e2, _⟩ := sides_both w (show 0 ≤ x2 by omega) (by omega) hs
      rw [e1, e2, bb, bb]
      by_cases gv : v ≤ x3
      · rw [if_pos gv, if_pos gv]
        exact Or.inl bad
      rw [if_neg gv, if_neg gv, within_e, isIn_e, bb, bb, b01_c (p := 0 ≤ x4 ∧ x4 ≤ 5) (q := 0 ≤ x4 ∧ x4 < 6) (by omega)]
      rcases b01_o (p := 0 ≤ x4 ∧ x4 < 6) with ⟨e4, z4⟩ | ⟨e4, z4⟩
      · rw [e4, o1, o1]
        unfold qf_X11_side_J44 qf_X18_side_J47
        rcases s_find.2.2.2.1 with g | g
        · have gk : (K 2157 10 0) = 0 := by omega
          rw [g, gk]
          exact Or.inr (Or.inl ⟨rfl, rfl⟩)
        · have gk : (K 2157 10 0) = 1 := by omega
          rw [g, gk]
          have h2 : FND M (qw K 2156 0 0 0) := FND_g (Or.inr ⟨hn, M0, K0, A, D0, D, E, F, G, H, C, q, m, p, R, stt, cnt, w⟩)
          rcases h2 with ⟨y, _⟩ | ⟨_, M0, K0, A, D0, D, E, F, G, H, C, q, m, p, R, stt, cnt, w⟩
          · exact absurd y hf
          have hs2 := spaceK_e (x := x1) (find0_g (v := 0) h_find0) (spaces_g (v := 0) h_spaces)
          rw [e] at hs2
          obtain ⟨v2, f1, f2, _⟩ := sides_both w (show 0 ≤ x2 by omega) (by omega) hs2
          rw [e1] at f1
          cases f1
          obtain ⟨y, y1, y2⟩ := side_both w (show 0 ≤ x2 by omega) (by omega) hs2 f2 (show 0 ≤ x3 by omega) (by omega) z4.1 (show x4 ≤ 5 by omega)
          refine Or.inr (Or.inr ⟨y, ?_, ?_⟩)
          · show (qf_X2_sideOf 20000 x1 x2 x3 x4 M).bind _ = _
            rw [y1]
            rfl
          · show (qf_X16_side 20000 x1 x2 x3 x4 (qw K 2156 0 0 0)).bind _ = _
            rw [y2]
            rfl
      · rw [e4]
        exact Or.inl bad
    · rw [e]
      exact Or.inl ⟨rfl, rfl⟩
  unfold oK2 qf_L_side
  rcases main with ⟨e1, e2⟩ | ⟨e1, e2⟩ | ⟨v, e1, e2⟩
  · refine qW_eq e1 ?_
    (try dsimp only)
    rw [if_pos rfl]
    refine qW_some ⟨_, e2, ?_⟩
    (try dsimp only)
    exact ⟨qw_s, fun z => absurd z (by decide), trivial⟩
  · refine qW_eq e1 ?_
    (try dsimp only)
    rw [if_neg (by decide), if_pos rfl]
    refine qW_some ⟨_, e2, ?_⟩
    (try dsimp only)
    exact ⟨qw_s, fun z => absurd z (by decide), trivial⟩
  · refine qW_eq e1 ?_
    (try dsimp only)
    refine qW_bnd (qW_some ⟨_, e2, ?_⟩)
    (try dsimp only)
    exact ⟨qw_s, fun _ => qw_s, trivial⟩
theorem op_size (h_find0 : R_find0 M K) (h_spaces : R_spaces M K) (h : FND M K) : oK2 cI (qf_L_size 20000 x1 x2 M) (qf_X18_size 20000 x1 x2 K) (fun _ _ => True) := by
  have s_find := h_find0
  unfold R_find0 at s_find
  have s_spaces := h_spaces
  unfold R_spaces at s_spaces
  have main : (qf_X11_size 20000 x1 x2 M = some (.inr "java/lang/IllegalArgumentException") ∧ qf_X18_size 20000 x1 x2 K = some (0, qw K 2156 0 0 1)) ∨ (qf_X11_size 20000 x1 x2 M = some (.inr "java/lang/IllegalStateException") ∧ qf_X18_size 20000 x1 x2 K = some (0, qw K 2156 0 0 2)) ∨ ∃ v, qf_X11_size 20000 x1 x2 M = some (.inl v) ∧ qf_X18_size 20000 x1 x2 K = some (v, qw K 2156 0 0 0) := by
    unfold qf_X11_size qf_X18_size
    have o1 : ∀ {α : Type} (f g : α), (if (1 : Int) = 0 then f else g) = g := fun f g => if_neg (by decide)
    have bb : ∀ {α : Type} (a : Int) (f : Int → Option α), (some a).bind f = f a := fun a f => rfl
    rw [spaceC_e h_spaces, spaceK_e h_find0 h_spaces]
    rcases b01_o (p := 0 ≤ x1 ∧ x1 < (M 51 3 0)) with ⟨e, z⟩ | ⟨e, z⟩
    · rw [e, bb, bb, o1, o1, within_e, isIn_e, bb, bb, b01_c (p := 0 ≤ x2 ∧ x2 ≤ 2) (q := 0 ≤ x2 ∧ x2 < 3) (by omega)]
      rcases b01_o (p := 0 ≤ x2 ∧ x2 < 3) with ⟨e4, z4⟩ | ⟨e4, z4⟩
      · rw [e4, o1, o1]
        unfold qf_X11_size_J22 qf_X18_size_J25
        rcases s_find.2.2.2.1 with g | g
        · have gk : (K 2157 10 0) = 0 := by omega
          rw [g, gk]
          exact Or.inr (Or.inl ⟨rfl, rfl⟩)
        · have gk : (K 2157 10 0) = 1 := by omega
          rw [g, gk]
          have h' := FND_g (v := 0) h
          rcases h' with ⟨_, y⟩ | ⟨_, M0, K0, A, D0, D, E, F, G, H, C, q, m, p, R, stt, cnt, w⟩
          · omega
          obtain ⟨y, y1, y2, _⟩ := size_both w z.1 z.2 z4.1 (show x2 ≤ 2 by omega)
          refine Or.inr (Or.inr ⟨y, ?_, ?_⟩)
          · show (qf_X2_measureOf 20000 x1 x2 M).bind _ = _
            rw [y1]
            rfl
          · show (qf_X16_size 20000 x1 x2 (qw K 2156 0 0 0)).bind _ = _
            rw [y2]
            rfl
      · rw [e4]
        exact Or.inl ⟨rfl, rfl⟩
    · rw [e]
      exact Or.inl ⟨rfl, rfl⟩
  unfold oK2 qf_L_size
  rcases main with ⟨e1, e2⟩ | ⟨e1, e2⟩ | ⟨v, e1, e2⟩
  · refine qW_eq e1 ?_
    (try dsimp only)
    rw [if_pos rfl]
    refine qW_some ⟨_, e2, ?_⟩
    (try dsimp only)
    exact ⟨qw_s, fun z => absurd z (by decide), trivial⟩
  · refine qW_eq e1 ?_
    (try dsimp only)
    rw [if_neg (by decide), if_pos rfl]
    refine qW_some ⟨_, e2, ?_⟩
    (try dsimp only)
    exact ⟨qw_s, fun z => absurd z (by decide), trivial⟩
  · refine qW_eq e1 ?_
    (try dsimp only)
    refine qW_bnd (qW_some ⟨_, e2, ?_⟩)
    (try dsimp only)
    exact ⟨qw_s, fun _ => qw_s, trivial⟩
end UF
