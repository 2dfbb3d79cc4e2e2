/-! ===== rules: what was read is taken ===== -/
section WDt
variable {M K A Z D W W' Z2 A' Z' B : qm} {T kd vl pl : Int → Int} {L p q e k v i j x y z c d f n w t s a u ns g o b cl o' b' c1 cl0 rr ro ro' day r : Int} {N m mo : Nat}
/-- the rules of both -/
def RLS (M K : qm) : Prop := ∃ (kd vl : Int → Int) (n : Int), LSW kd n ∧ (0 < M 735 0 0 → ∀ j, 0 ≤ j → j ≤ 120 → M 736 j 0 = kd j ∧ M 737 j 0 = vl j) ∧ (∀ j, 0 ≤ j → j ≤ n → kd j = 48 → 0 ≤ vl j ∧ vl j < 1000000000) ∧ ∀ r, 0 ≤ r → r < M 735 0 0 → ∃ mo, RUL1 kd vl n (M 738 r 0) (M 739 r 0) K 0 0 0 r mo ∧ K 2189 (0 + r) 0 + mo < 60
def RLM (M M' : qm) : Prop := ∀ b x y, (736 ≤ b ∧ b ≤ 739) ∨ (b = 735 ∧ x = 0) → M' b x y = M b x y
def RLK (K K' : qm) : Prop := ∀ b x y, (2189 ≤ b ∧ b ≤ 2191 ∧ x < 12) ∨ (2192 ≤ b ∧ b ≤ 2195 ∧ x < 60) ∨ ((b = 2196 ∨ b = 2197) ∧ x < 400) → K' b x y = K b x y
theorem RLS_o (h : RLS M K) (hr : M 735 0 0 ≤ 12) (hM : RLM M A) (hK : RLK K Z) : RLS A Z := by
  obtain ⟨kd, vl, n, h1, h2, h3, h4⟩ := h
  refine ⟨kd, vl, n, h1, fun z j j0 j1 => ?_, h3, fun r r0 r1 => ?_⟩
  · rw [hM 735 0 0 (by omega)] at z
    rw [hM 736 _ _ (by omega), hM 737 _ _ (by omega)]
    exact h2 z j j0 j1
  · rw [hM 735 0 0 (by omega)] at r1
    obtain ⟨mo, g1, g2⟩ := h4 r r0 r1
    rw [hM 738 _ _ (by omega), hM 739 _ _ (by omega), hK 2189 _ _ (by omega)]
    refine ⟨mo, rul1_tr g1 (fun bb _ _ => hK _ _ _ (by omega)) (fun bb q _ _ _ _ => hK _ _ _ (by omega)) (fun q i q0 q1 i0 i1 => ?_), g2⟩
    have b4 : K 2194 (0 + q) 0 ≤ 400 := by
      obtain ⟨_, _, _, _, _, k6, c', k7, _⟩ := g1
      by_cases e : q = K 2189 (0 + r) 0
      · rw [e]
        exact k6.2.1
      · have : ∀ (m : Nat) (c cl x q : Int), EXP kd vl K 0 0 m c cl x → cl ≤ q → q < cl + m → K 2194 (0 + q) 0 ≤ 400 := by
          intro m
          induction m with
          | zero => intro c cl x q _ z1 z2; omega
          | succ m ih =>
            intro c cl x q h z1 z2
            obtain ⟨_, y2, y3⟩ := h
            by_cases e2 : q = cl
            · rw [e2]
              exact y2.2.1
            · exact ih _ _ _ _ y3 (by omega) (by omega)
        exact this _ _ _ _ _ k7 (by omega) (by omega)
    exact ⟨hK _ _ _ (by omega), hK _ _ _ (by omega)⟩
theorem adopt_K (h32 : Z 2184 32 0 = rr) (h33 : Z 2184 33 0 = g) (h34 : Z 2184 34 0 = ns) (r0 : 0 ≤ rr) (r1 : rr ≤ 12) (g0 : 0 ≤ g) (g1 : g ≤ 60) (n0 : 0 ≤ ns) (n1 : ns ≤ 400) : ∃ B, qf_X15_adopt 20000 Z = some ((), B) ∧ B 2184 5 0 = rr ∧ (∀ b x y, ¬ (b = 2184 ∧ (x = 5 ∨ x = 10 ∨ x = 15)) → ¬ (2188 ≤ b ∧ b ≤ 2197) → B b x y = Z b x y) ∧ (∀ (bb : Nat) (j : Int), 2188 ≤ bb → bb ≤ 2191 → 0 ≤ j → j < rr → B bb j 0 = Z bb (12 + j) 0) ∧ (∀ (bb : Nat) (j : Int), 2192 ≤ bb → bb ≤ 2195 → 0 ≤ j → j < g → B bb j 0 = Z bb (60 + j) 0) ∧ (∀ (bb : Nat) (j : Int), 2196 ≤ bb → bb ≤ 2197 → 0 ≤ j → j < ns → B bb j 0 = Z bb (400 + j) 0) := by
  obtain ⟨X, hX⟩ : ∃ X, qw (qw (qw Z 2184 5 0 rr) 2184 10 0 g) 2184 15 0 ns = X := ⟨_, rfl⟩
  have fX : ∀ b x y, ¬ (b = 2184 ∧ (x = 5 ∨ x = 10 ∨ x = 15)) → X b x y = Z b x y := fun b x y z => by
    rw [← hX, qw_ap, if_neg (by omega), qw_ap, if_neg (by omega), qw_ap, if_neg (by omega)]
  have X5 : X 2184 5 0 = rr := by rw [← hX, qw_i (by decide), qw_i (by decide)]; exact qw_s
  have X10 : X 2184 10 0 = g := by rw [← hX, qw_i (by decide)]; exact qw_s
  have X15 : X 2184 15 0 = ns := by rw [← hX]; exact qw_s
  obtain ⟨o1, e1, X1, rfl, f1, c1⟩ : qW (qf_X15_adopt_L26 20000 20000 0 X) (fun o => ∃ Y, o = .inr ((), Y) ∧ (∀ b x y, ¬ (2188 ≤ b ∧ b ≤ 2191 ∧ x < 12) → Y b x y = X b x y) ∧ (∀ (bb : Nat) (j : Int), 2188 ≤ bb → bb ≤ 2191 → 0 ≤ j → j < rr → Y bb j 0 = X bb (12 + j) 0)) := by
    unfold qf_X15_adopt_L26
    refine qW_for rr (fun i s => ∃ Y, s = (i, Y) ∧ (∀ b x y, ¬ (2188 ≤ b ∧ b ≤ 2191 ∧ x < 12) → Y b x y = X b x y) ∧ (∀ (bb : Nat) (j : Int), 2188 ≤ bb → bb ≤ 2191 → 0 ≤ j → j < i → Y bb j 0 = X bb (12 + j) 0)) ?_ ?_ ⟨X, rfl, fun _ _ _ _ => rfl, fun bb j _ _ _ _ => by omega⟩ r0 (by omega)
    · rintro i _ i0 i1 ⟨Y, rfl, fY, cY⟩
      unfold qf_X15_adopt_L26_b qbnd
      (try dsimp only)
      have c12 : 0 ≤ 12 + i ∧ 12 + i < 24 := by omega
      have ci : 0 ≤ i ∧ i < 24 := by omega
      have yv : Y 2184 5 0 = rr := by rw [fY 2184 5 0 (by omega), X5]
      rw [if_neg (show ¬ Y 2184 5 0 ≤ i by omega), w32_id (x := 12 + i) (by omega) (by omega), if_pos c12, if_pos ci, if_pos c12, if_pos ci, if_pos c12, if_pos ci, if_pos c12, if_pos ci, w32_id (x := i + 1) (by omega) (by omega)]
      refine qW_some ⟨_, rfl, fun b x y z => ?_, fun bb j b0 b1 j0 j1 => ?_⟩
      · rw [qw_ap, if_neg (by omega), qw_ap, if_neg (by omega), qw_ap, if_neg (by omega), qw_ap, if_neg (by omega)]
        exact fY b x y z
      · have cb : bb = 2188 ∨ bb = 2189 ∨ bb = 2190 ∨ bb = 2191 := by omega
        by_cases e : j = i
        · rw [e]
          rcases cb with rfl | rfl | rfl | rfl
          · rw [qw_a (by decide), qw_a (by decide), qw_a (by decide), qw_s]
            exact fY _ _ _ (by omega)
          · rw [qw_a (by decide), qw_a (by decide), qw_s, qw_a (by decide)]
            exact fY _ _ _ (by omega)
          · rw [qw_a (by decide), qw_s, qw_a (by decide), qw_a (by decide)]
            exact fY _ _ _ (by omega)
          · rw [qw_s, qw_a (by decide), qw_a (by decide), qw_a (by decide)]
            exact fY _ _ _ (by omega)
        · rw [qw_ap, if_neg (by omega), qw_ap, if_neg (by omega), qw_ap, if_neg (by omega), qw_ap, if_neg (by omega)]
          exact cY bb j b0 b1 j0 (by omega)
    · rintro _ ⟨Y, rfl, fY, cY⟩
      unfold qf_X15_adopt_L26_b
      (try dsimp only)
      have yv : Y 2184 5 0 = rr := by rw [fY 2184 5 0 (by omega), X5]
      rw [if_pos (show Y 2184 5 0 ≤ rr by omega)]
      exact qW_some ⟨Y, rfl, fY, cY⟩
  obtain ⟨o2, e2, X2, rfl, f2, c2⟩ : qW (qf_X15_adopt_L102 20000 20000 0 X1) (fun o => ∃ Y, o = .inr ((), Y) ∧ (∀ b x y, ¬ (2192 ≤ b ∧ b ≤ 2195 ∧ x < 60) → Y b x y = X1 b x y) ∧ (∀ (bb : Nat) (j : Int), 2192 ≤ bb → bb ≤ 2195 → 0 ≤ j → j < g → Y bb j 0 = X1 bb (60 + j) 0)) := by
    unfold qf_X15_adopt_L102
    refine qW_for g (fun i s => ∃ Y, s = (i, Y) ∧ (∀ b x y, ¬ (2192 ≤ b ∧ b ≤ 2195 ∧ x < 60) → Y b x y = X1 b x y) ∧ (∀ (bb : Nat) (j : Int), 2192 ≤ bb → bb ≤ 2195 → 0 ≤ j → j < i → Y bb j 0 = X1 bb (60 + j) 0)) ?_ ?_ ⟨X1, rfl, fun _ _ _ _ => rfl, fun bb j _ _ _ _ => by omega⟩ g0 (by omega)
    · rintro i _ i0 i1 ⟨Y, rfl, fY, cY⟩
      unfold qf_X15_adopt_L102_b qbnd
      (try dsimp only)
      have c12 : 0 ≤ 60 + i ∧ 60 + i < 120 := by omega
      have ci : 0 ≤ i ∧ i < 120 := by omega
      have yv : Y 2184 10 0 = g := by rw [fY 2184 10 0 (by omega), f1 2184 10 0 (by omega), X10]
      rw [if_neg (show ¬ Y 2184 10 0 ≤ i by omega), w32_id (x := 60 + i) (by omega) (by omega), if_pos c12, if_pos ci, if_pos c12, if_pos ci, if_pos c12, if_pos ci, if_pos c12, if_pos ci, w32_id (x := i + 1) (by omega) (by omega)]
      refine qW_some ⟨_, rfl, fun b x y z => ?_, fun bb j b0 b1 j0 j1 => ?_⟩
      · rw [qw_ap, if_neg (by omega), qw_ap, if_neg (by omega), qw_ap, if_neg (by omega), qw_ap, if_neg (by omega)]
        exact fY b x y z
      · have cb : bb = 2192 ∨ bb = 2193 ∨ bb = 2194 ∨ bb = 2195 := by omega
        by_cases e : j = i
        · rw [e]
          rcases cb with rfl | rfl | rfl | rfl
          · rw [qw_a (by decide), qw_a (by decide), qw_a (by decide), qw_s]
            exact fY _ _ _ (by omega)
          · rw [qw_a (by decide), qw_a (by decide), qw_s, qw_a (by decide)]
            exact fY _ _ _ (by omega)
          · rw [qw_a (by decide), qw_s, qw_a (by decide), qw_a (by decide)]
            exact fY _ _ _ (by omega)
          · rw [qw_s, qw_a (by decide), qw_a (by decide), qw_a (by decide)]
            exact fY _ _ _ (by omega)
        · rw [qw_ap, if_neg (by omega), qw_ap, if_neg (by omega), qw_ap, if_neg (by omega), qw_ap, if_neg (by omega)]
          exact cY bb j b0 b1 j0 (by omega)
    · rintro _ ⟨Y, rfl, fY, cY⟩
      unfold qf_X15_adopt_L102_b
      (try dsimp only)
      have yv : Y 2184 10 0 = g := by rw [fY 2184 10 0 (by omega), f1 2184 10 0 (by omega), X10]
      rw [if_pos (show Y 2184 10 0 ≤ g by omega)]
      exact qW_some ⟨Y, rfl, fY, cY⟩
  obtain ⟨o3, e3, X3, rfl, f3, c3⟩ : qW (qf_X15_adopt_L178 20000 20000 0 X2) (fun o => ∃ Y, o = .inr ((), Y) ∧ (∀ b x y, ¬ (2196 ≤ b ∧ b ≤ 2197 ∧ x < 400) → Y b x y = X2 b x y) ∧ (∀ (bb : Nat) (j : Int), 2196 ≤ bb → bb ≤ 2197 → 0 ≤ j → j < ns → Y bb j 0 = X2 bb (400 + j) 0)) := by
    unfold qf_X15_adopt_L178
    refine qW_for ns (fun i s => ∃ Y, s = (i, Y) ∧ (∀ b x y, ¬ (2196 ≤ b ∧ b ≤ 2197 ∧ x < 400) → Y b x y = X2 b x y) ∧ (∀ (bb : Nat) (j : Int), 2196 ≤ bb → bb ≤ 2197 → 0 ≤ j → j < i → Y bb j 0 = X2 bb (400 + j) 0)) ?_ ?_ ⟨X2, rfl, fun _ _ _ _ => rfl, fun bb j _ _ _ _ => by omega⟩ n0 (by omega)
    · rintro i _ i0 i1 ⟨Y, rfl, fY, cY⟩
      unfold qf_X15_adopt_L178_b qbnd
      (try dsimp only)
      have c12 : 0 ≤ 400 + i ∧ 400 + i < 800 := by omega
      have ci : 0 ≤ i ∧ i < 800 := by omega
      have yv : Y 2184 15 0 = ns := by rw [fY 2184 15 0 (by omega), f2 2184 15 0 (by omega), f1 2184 15 0 (by omega), X15]
      rw [if_neg (show ¬ Y 2184 15 0 ≤ i by omega), w32_id (x := 400 + i) (by omega) (by omega), if_pos c12, if_pos ci, if_pos c12, if_pos ci, w32_id (x := i + 1) (by omega) (by omega)]
      refine qW_some ⟨_, rfl, fun b x y z => ?_, fun bb j b0 b1 j0 j1 => ?_⟩
      · rw [qw_ap, if_neg (by omega), qw_ap, if_neg (by omega)]
        exact fY b x y z
      · have cb : bb = 2196 ∨ bb = 2197 := by omega
        by_cases e : j = i
        · rw [e]
          rcases cb with rfl | rfl
          · rw [qw_a (by decide), qw_s]
            exact fY _ _ _ (by omega)
          · rw [qw_s, qw_a (by decide)]
            exact fY _ _ _ (by omega)
        · rw [qw_ap, if_neg (by omega), qw_ap, if_neg (by omega)]
          exact cY bb j b0 b1 j0 (by omega)
    · rintro _ ⟨Y, rfl, fY, cY⟩
      unfold qf_X15_adopt_L178_b
      (try dsimp only)
      have yv : Y 2184 15 0 = ns := by rw [fY 2184 15 0 (by omega), f2 2184 15 0 (by omega), f1 2184 15 0 (by omega), X15]
      rw [if_pos (show Y 2184 15 0 ≤ ns by omega)]
      exact qW_some ⟨Y, rfl, fY, cY⟩
  refine ⟨X3, ?_, ?_, fun b x y z1 z2 => ?_, fun bb j b0 b1 j0 j1 => ?_, fun bb j b0 b1 j0 j1 => ?_, fun bb j b0 b1 j0 j1 => ?_⟩
  · unfold qf_X15_adopt qbnd
    (try dsimp only)
    rw [h32, show qw Z 2184 5 0 rr 2184 33 0 = g from (qw_i (by decide)).trans h33, show qw (qw Z 2184 5 0 rr) 2184 10 0 g 2184 34 0 = ns from (qw_i (by decide)).trans ((qw_i (by decide)).trans h34), hX, e1]
    simp only [Option.bind_some]
    rw [e2]
    simp only [Option.bind_some]
    rw [e3]
    rfl
  · rw [f3 _ _ _ (by omega), f2 _ _ _ (by omega), f1 _ _ _ (by omega)]
    exact X5
  · rw [f3 _ _ _ (by omega), f2 _ _ _ (by omega), f1 _ _ _ (by omega)]
    exact fX b x y z1
  · rw [f3 _ _ _ (by omega), f2 _ _ _ (by omega), c1 bb j b0 b1 j0 j1]
    exact fX _ _ _ (by omega)
  · rw [f3 _ _ _ (by omega), c2 bb j b0 b1 j0 j1, f1 _ _ _ (by omega)]
    exact fX _ _ _ (by omega)
  · rw [c3 bb j b0 b1 j0 j1, f2 _ _ _ (by omega), f1 _ _ _ (by omega)]
    exact fX _ _ _ (by omega)
end WDt
