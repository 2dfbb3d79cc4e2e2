/-! ===== rules: what is excepted ===== -/
section WDp
variable {M K A Z D W W' Z2 : qm} {T kd vl pl : Int → Int} {L p q e k v i j x y z c d f n w t s a u ns g o b cl o' b' c1 cl0 : Int} {N m : Nat}
theorem rat_tr : ∀ {r : List (Int × Int)} {a a' : Int}, (∀ i : Int, 0 ≤ i → i < r.length → Z 2196 (a' + i) 0 = K 2196 (a + i) 0 ∧ Z 2197 (a' + i) 0 = K 2197 (a + i) 0) → RAT K a r → RAT Z a' r := by
  intro r
  induction r with
  | nil => exact fun _ _ => trivial
  | cons x r ih =>
    intro a a' f h
    rw [len1] at f
    obtain ⟨h1, h2, h3⟩ := h
    have g := f 0 (by omega) (by omega)
    rw [Int.add_zero, Int.add_zero] at g
    refine ⟨g.1.trans h1, g.2.trans h2, ih (fun i i0 i1 => ?_) h3⟩
    rw [show a' + 1 + i = a' + (1 + i) by omega, show a + 1 + i = a + (1 + i) by omega]
    exact f (1 + i) (by omega) (by omega)
/-- a clause elsewhere, or behind a change of other cells -/
theorem clk_tr (h : CLK kd vl K o b cl c) (f1 : ∀ bb : Nat, 2192 ≤ bb → bb ≤ 2195 → Z bb (o' + cl) 0 = K bb (o + cl) 0) (f2 : ∀ i, 0 ≤ i → i < K 2194 (o + cl) 0 → Z 2196 (b' + i) 0 = K 2196 (b + i) 0 ∧ Z 2197 (b' + i) 0 = K 2197 (b + i) 0) : CLK kd vl Z o' b' cl c := by
  obtain ⟨h1, h2, h3, h4, h5, h6, h7, h8, h9, h10⟩ := h
  unfold CLK
  rw [f1 2192 (by decide) (by decide), f1 2193 (by decide) (by decide), f1 2194 (by decide) (by decide), f1 2195 (by decide) (by decide)]
  refine ⟨h1, h2, h3, h4, h5, h6, ?_, ?_, h9, h10⟩
  · refine rat_tr (fun i i0 i1 => ?_) h7
    rw [show b' + K 2192 (o + cl) 0 + i = b' + (K 2192 (o + cl) 0 + i) by omega, show b + K 2192 (o + cl) 0 + i = b + (K 2192 (o + cl) 0 + i) by omega]
    exact f2 _ (by omega) (by omega)
  · refine rat_tr (fun i i0 i1 => ?_) h8
    rw [show b' + K 2193 (o + cl) 0 + i = b' + (K 2193 (o + cl) 0 + i) by omega, show b + K 2193 (o + cl) 0 + i = b + (K 2193 (o + cl) 0 + i) by omega]
    exact f2 _ (by omega) (by omega)
/-- m exceptions from word c on to word c' -/
def EXP (kd vl : Int → Int) (K : qm) (o b : Int) : Nat → Int → Int → Int → Prop
  | 0, c, _, c' => c = c'
  | m + 1, c, cl, c' => kd c = 33 ∧ CLK kd vl K o b cl (c + 1) ∧ EXP kd vl K o b m (pC kd vl (c + 1)).2 (cl + 1) c'
theorem exp_tr : ∀ {m : Nat} {c cl x : Int}, EXP kd vl K o b m c cl x → (∀ (bb : Nat) (q : Int), 2192 ≤ bb → bb ≤ 2195 → cl ≤ q → q < cl + m → Z bb (o' + q) 0 = K bb (o + q) 0) → (∀ q i, cl ≤ q → q < cl + m → 0 ≤ i → i < K 2194 (o + q) 0 → Z 2196 (b' + i) 0 = K 2196 (b + i) 0 ∧ Z 2197 (b' + i) 0 = K 2197 (b + i) 0) → EXP kd vl Z o' b' m c cl x := by
  intro m
  induction m with
  | zero => exact fun h _ _ => h
  | succ m ih =>
    intro c cl x h f1 f2
    obtain ⟨h1, h2, h3⟩ := h
    refine ⟨h1, clk_tr h2 (fun bb b0 b1 => f1 bb cl b0 b1 (Int.le_refl _) (by omega)) (fun i i0 i1 => f2 cl i (Int.le_refl _) (by omega) i0 i1), ih h3 (fun bb q b0 b1 q0 q1 => f1 bb q b0 b1 (by omega) (by omega)) (fun q i q0 q1 i0 i1 => f2 q i (by omega) (by omega) i0 i1)⟩
theorem exp_s : ∀ {m : Nat} {c cl x : Int}, EXP kd vl K o b m c cl x → kd x = 33 → CLK kd vl K o b (cl + m) (x + 1) → EXP kd vl K o b (m + 1) c cl (pC kd vl (x + 1)).2 := by
  intro m
  induction m with
  | zero =>
    intro c cl x h h1 h2
    have h : c = x := h
    rw [h]
    refine ⟨h1, ?_, rfl⟩
    rw [show cl + ((0 : Nat) : Int) = cl by omega] at h2
    exact h2
  | succ m ih =>
    intro c cl x h h1 h2
    obtain ⟨g1, g2, g3⟩ := h
    refine ⟨g1, g2, ih g3 h1 ?_⟩
    rw [show cl + 1 + (m : Int) = cl + ((m + 1 : Nat) : Int) by omega]
    exact h2
noncomputable def pX (kd vl : Int → Int) : Nat → Int → Int × Int
  | 0, c => (1, c)
  | m + 1, c => if kd c = 33 then (if (pC kd vl (c + 1)).1 = 0 then (0, (pC kd vl (c + 1)).2) else pX kd vl m (pC kd vl (c + 1)).2) else (1, c)
theorem pX_ok (hl : LSW kd n) : ∀ (m : Nat) (c : Int), 0 ≤ c → c ≤ n → ((pX kd vl m c).1 = 0 ∨ (pX kd vl m c).1 = 1) ∧ c ≤ (pX kd vl m c).2 ∧ (pX kd vl m c).2 ≤ n := by
  intro m
  induction m with
  | zero => exact fun c c0 c1 => ⟨Or.inr rfl, Int.le_refl _, c1⟩
  | succ m ih =>
    intro c c0 c1
    unfold pX
    by_cases g : kd c = 33
    · have cn := lst_lt hl c1 (by omega) (by omega)
      obtain ⟨o1, o2, o3, o4⟩ := pC_ok (vl := vl) hl (show 0 ≤ c + 1 by omega) (by omega)
      rw [if_pos g]
      by_cases g2 : (pC kd vl (c + 1)).1 = 0
      · rw [if_pos g2]
        exact ⟨Or.inl rfl, by show c ≤ (pC kd vl (c + 1)).2; omega, o3⟩
      · rw [if_neg g2]
        obtain ⟨p1, p2, p3⟩ := ih (pC kd vl (c + 1)).2 (by omega) o3
        exact ⟨p1, by omega, p3⟩
    · rw [if_neg g]
      exact ⟨Or.inr rfl, Int.le_refl _, c1⟩
theorem exc_C (h : LSW kd n) (hk : KDS M kd) : ∀ (m N : Nat) (i c : Int), 0 ≤ i → i + m = 120 → m < N → 0 ≤ c → c ≤ n → qf_X6_readRule_L113 20000 N i (cu M c) = some (if (pX kd vl m c).1 = 0 then .inl (0, cu M (pX kd vl m c).2) else .inr ((), cu M (pX kd vl m c).2)) := by
  intro m
  induction m with
  | zero =>
    intro N i c i0 i1 hN c0 c1
    obtain ⟨N, rfl⟩ : ∃ N', N = N' + 1 := ⟨N - 1, by omega⟩
    unfold qf_X6_readRule_L113 qloop qf_X6_readRule_L113_b
    (try dsimp only)
    rw [if_pos (by omega)]
    rfl
  | succ m ih =>
    intro N i c i0 i1 hN c0 c1
    obtain ⟨N, rfl⟩ : ∃ N', N = N' + 1 := ⟨N - 1, by omega⟩
    unfold qf_X6_readRule_L113 qloop qf_X6_readRule_L113_b pX
    (try dsimp only)
    rw [if_neg (by omega)]
    by_cases g : kd c = 33
    · have cn := lst_lt h c1 (by omega) (by omega)
      obtain ⟨o1, o2, o3, o4⟩ := pC_ok (vl := vl) h (show 0 ≤ c + 1 by omega) (by omega)
      rw [skip_y h hk c0 c1 g (by decide) (by decide), if_pos g]
      simp only [Option.bind_some]
      rw [if_neg (by decide), clause_C (vl := vl) h hk (show 0 ≤ c + 1 by omega) (by omega)]
      simp only [Option.bind_some]
      by_cases g2 : (pC kd vl (c + 1)).1 = 0
      · rw [if_pos g2, if_pos g2, if_pos rfl]
        (try rfl)
      · rw [if_neg g2, if_neg g2, w32_id (x := i + 1) (by omega) (by omega)]
        exact ih N (i + 1) (pC kd vl (c + 1)).2 (by omega) (by omega) (by omega) (by omega) o3
    · rw [skip_n h hk c0 c1 g, if_neg g]
      rfl
def EFR (K Z : qm) (q ns g : Int) : Prop := ∀ b x y, ¬ (b = 2184 ∧ ((26 ≤ x ∧ x ≤ 31) ∨ (33 ≤ x ∧ x ≤ 36))) → ¬ b = 2205 → ¬ ((b = 2196 ∨ b = 2197) ∧ 400 + ns ≤ x) → ¬ (2192 ≤ b ∧ b ≤ 2195 ∧ 60 + g ≤ x) → ¬ (b = 2190 ∧ x = q) → Z b x y = K b x y
/-- every clause so far ends in the row so far -/
def STB (K : qm) (g e : Int) : Prop := ∀ x, 0 ≤ x → x < g → K 2194 (60 + x) 0 ≤ e
theorem stb_s (h : STB K g e) (hc : CLF K Z ns g) (h2 : Z 2194 (60 + g) 0 ≤ a) (h3 : e ≤ a) : STB Z (g + 1) a := fun x x0 x1 => by
  by_cases gx : x = g
  · rw [gx]
    exact h2
  · rw [hc 2194 (60 + x) 0 (by omega) (by omega) (by omega) (by omega)]
    have := h x x0 (by omega)
    omega
theorem exc_K (hW : WDS T L kd vl pl n) (hl : LSW kd n) (q0 : 0 ≤ q) (q1 : q < 24) (k0 : 0 ≤ cl0) : ∀ (m N : Nat) (c : Int) (K : qm) (mo : Nat), 120 < c + m → m < N → RWD T L kd vl pl n c K → kd c ≠ 63 → K 2190 q 0 = mo → K 2184 33 0 = cl0 + 1 + mo → EXP kd vl K 60 400 mo c1 (cl0 + 1) c → STB K (cl0 + 1 + mo) (K 2184 34 0) → 0 ≤ K 2184 34 0 → K 2184 34 0 ≤ 2 * c → 3 * (cl0 + 1 + mo) ≤ c → ∃ Z, qf_X15_rule_L138 20000 N q K = some (.inr ((), Z)) ∧ EFR K Z q 0 (K 2184 33 0) ∧ (((pX kd vl m c).1 = 1 ∧ kd (pX kd vl m c).2 ≠ 63 ∧ RWD T L kd vl pl n (pX kd vl m c).2 Z ∧ kd (pX kd vl m c).2 ≠ 33 ∧ ∃ mo' : Nat, Z 2190 q 0 = mo' ∧ Z 2184 33 0 = cl0 + 1 + mo' ∧ EXP kd vl Z 60 400 mo' c1 (cl0 + 1) (pX kd vl m c).2 ∧ STB Z (cl0 + 1 + mo') (Z 2184 34 0) ∧ 0 ≤ Z 2184 34 0 ∧ Z 2184 34 0 ≤ 2 * (pX kd vl m c).2 ∧ 3 * (cl0 + 1 + mo') ≤ (pX kd vl m c).2 ∧ EFR K Z q (K 2184 34 0) (K 2184 33 0) ∧ K 2184 33 0 ≤ Z 2184 33 0 ∧ K 2184 34 0 ≤ Z 2184 34 0) ∨ (((pX kd vl m c).1 = 0 ∨ kd (pX kd vl m c).2 = 63) ∧ Z 2184 31 0 = 1 ∧ Z 2184 26 0 = pl (pX kd vl m c).2)) := by
  have n1 := hW.2.2.2.1
  have stop : ∀ (N : Nat) (X : qm), (X 2184 31 0 = 1 ∨ X 2184 28 0 ≠ 33) → (X 2184 31 0 = 0 ∨ X 2184 31 0 = 1) → qf_X15_rule_L138 20000 (N + 1) q X = some (.inr ((), X)) := fun N X h1 h2 => by
    show qloop _ (N + 1) (q, X) = _
    rw [qloop.eq_2]
    (try dsimp only)
    have : qf_X15_rule_L138_b 20000 q X = some (.inl (.inr ((), X))) := by
      unfold qf_X15_rule_L138_b
      by_cases g : X 2184 31 0 = 0
      · rw [if_pos g, if_neg (by omega)]
      · rw [if_neg g]
    rw [this]
  have go : ∀ (N : Nat) (X Y : qm), qf_X15_rule_L138_b 20000 q X = some (.inr (q, Y)) → qf_X15_rule_L138 20000 (N + 1) q X = qf_X15_rule_L138 20000 N q Y := fun N X Y h => by
    show qloop _ (N + 1) (q, X) = _
    rw [qloop.eq_2]
    (try dsimp only)
    rw [h]
    rfl
  intro m
  induction m with
  | zero =>
    intro N c K mo h1 _ hr
    have := hr.2.2.2.1
    omega
  | succ m ih =>
    intro N c K mo h1 hN hr h63 hmo hg hE hS s0 s1 hc3
    obtain ⟨N, rfl⟩ : ∃ N', N = N' + 1 := ⟨N - 1, by omega⟩
    have c0 := hr.2.2.1
    have cn := hr.2.2.2.1
    obtain ⟨b1, b2, b3, b4⟩ := rwd_k hr h63
    have k33 := kr_iff b3 (s := 33) (by unfold isG; decide)
    unfold pX
    by_cases g : kd c = 33
    · rw [if_pos g]
      obtain ⟨U, e1, fU, rU, cl⟩ := take1_K hW hr h63 (by omega)
      have U31 := rwd_w rU
      have U34 : U 2184 34 0 = K 2184 34 0 := fU _ _ _ (by omega)
      have U33 : U 2184 33 0 = K 2184 33 0 := fU _ _ _ (by omega)
      by_cases w63 : kd (c + 1) = 63
      · have pe : pC kd vl (c + 1) = (0, c + 1) := by
          have h6 := pS_63 (vl := vl) (m := 12) (d := 0) w63
          unfold pC
          rw [if_pos h6.1, h6.2]
        have U1 : U 2184 31 0 = 1 := by
          rcases rU.2.2.2.2.2 with ⟨_, y⟩ | ⟨x, _⟩
          · exact y
          · exact absurd w63 x
        rw [pe, if_pos rfl]
        have bd : qf_X15_rule_L138_b 20000 q K = some (.inr (q, U)) := by
          unfold qf_X15_rule_L138_b
          rw [if_pos b1, b2, if_pos (k33.mpr g), e1]
          simp only [Option.bind_some]
          rw [if_neg (by omega)]
        obtain ⟨N, rfl⟩ : ∃ N', N = N' + 1 := ⟨N - 1, by omega⟩
        refine ⟨U, ?_, fun b x y z1 z2 z3 z4 z5 => fU b x y (by omega), Or.inr ⟨Or.inl rfl, U1, rU.2.2.2.2.1⟩⟩
        rw [go _ _ _ bd, stop _ _ (Or.inl U1) U31]
      · have U1 := (rwd_k rU w63).1
        obtain ⟨V, hV⟩ : ∃ V, qw U 2190 q 0 (K 2190 q 0 + 1) = V := ⟨_, rfl⟩
        have fV : ∀ b x y, ¬ (b = 2190 ∧ x = q) → V b x y = U b x y := fun b x y z => by rw [← hV, qw_ap, if_neg (by omega)]
        have rV : RWD T L kd vl pl n (c + 1) V := rwd_fr rU (fun b x y z => fV b x y (by omega))
        have V34 : V 2184 34 0 = K 2184 34 0 := (fV _ _ _ (by omega)).trans U34
        have V33 : V 2184 33 0 = cl0 + 1 + mo := ((fV _ _ _ (by omega)).trans U33).trans hg
        obtain ⟨X, e2, cX, hX⟩ := clause_K (vl := vl) hW hl rV w63 (by omega) (by omega) V33 (by omega) (by omega)
        have bd : qf_X15_rule_L138_b 20000 q K = some (.inr (q, X)) := by
          unfold qf_X15_rule_L138_b qbnd
          rw [if_pos b1, b2, if_pos (k33.mpr g), e1]
          simp only [Option.bind_some]
          rw [if_pos U1, if_pos (show 0 ≤ q ∧ q < 24 from ⟨q0, q1⟩), if_pos (show 0 ≤ q ∧ q < 24 from ⟨q0, q1⟩), fU 2190 q 0 (by omega), w32_id (x := K 2190 q 0 + 1) (by omega) (by omega), hV, e2]
          rfl
        have sfV : ∀ b x y, ¬ (b = 2184 ∧ 26 ≤ x ∧ x ≤ 31) → ¬ (b = 2190 ∧ x = q) → V b x y = K b x y := fun b x y z1 z2 => by
          rw [fV b x y z2]
          exact fU b x y z1
        have sfX : EFR K X q 0 (K 2184 33 0) := fun b x y z1 z2 z3 z4 z5 => by
          rw [cX b x y z1 z2 z3 (by omega)]
          exact sfV b x y (by omega) z5
        obtain ⟨o1, o2, o3, o4⟩ := pC_ok (vl := vl) hl (show 0 ≤ c + 1 by omega) (by omega)
        rcases hX with ⟨x1, x2, x3, x4, x5, x6, xt, x7, x8⟩ | ⟨x1, x2, x3⟩
        · rw [if_neg (by omega)]
          have o5 := o4 x1
          have X90 : X 2190 q 0 = ((mo + 1 : Nat) : Int) := by
            rw [cX 2190 q 0 (by omega) (by omega) (by omega) (by omega), ← hV, qw_s, hmo]
            omega
          have X33 : X 2184 33 0 = cl0 + 1 + ((mo + 1 : Nat) : Int) := by omega
          have hE2 : EXP kd vl X 60 400 mo c1 (cl0 + 1) c := exp_tr hE (fun bb x b0 b1 x0 x1 => by
            rw [x8 bb _ 0 (by omega) (by omega) (by omega) (by omega)]
            exact sfV bb _ 0 (by omega) (by omega)) (fun x i x0 x1 i0 i1 => by
            have := hS x (by omega) (by omega)
            exact ⟨by rw [x8 2196 _ 0 (by omega) (by omega) (by omega) (by omega)]; exact sfV _ _ 0 (by omega) (by omega), by rw [x8 2197 _ 0 (by omega) (by omega) (by omega) (by omega)]; exact sfV _ _ 0 (by omega) (by omega)⟩)
          have hE3 := exp_s hE2 g x7
          have hS3 : STB X (cl0 + 1 + ((mo + 1 : Nat) : Int)) (X 2184 34 0) := by
            have hSV : STB V (cl0 + 1 + mo) (K 2184 34 0) := fun x x0 x1 => by
              rw [sfV 2194 _ 0 (by omega) (by omega)]
              exact hS x x0 x1
            have := stb_s hSV x8 (show X 2194 (60 + (cl0 + 1 + mo)) 0 ≤ X 2184 34 0 by omega) (by omega)
            rw [show cl0 + 1 + (mo : Int) + 1 = cl0 + 1 + ((mo + 1 : Nat) : Int) by omega] at this
            exact this
          have sfX2 : EFR K X q (K 2184 34 0) (K 2184 33 0) := fun b x y z1 z2 z3 z4 z5 => by
            rw [x8 b x y z1 z2 (by omega) (by omega)]
            exact sfV b x y (by omega) z5
          obtain ⟨Z, e3, fZ, hZ⟩ := ih N (pC kd vl (c + 1)).2 X (mo + 1) (by omega) (by omega) x3 x2 X90 X33 hE3 hS3 (by omega) x6 (by omega)
          refine ⟨Z, by rw [go _ _ _ bd]; exact e3, fun b x y z1 z2 z3 z4 z5 => ?_, ?_⟩
          · rw [fZ b x y z1 z2 z3 (by omega) z5]
            exact sfX b x y z1 z2 z3 z4 z5
          · rcases hZ with ⟨t1, t2, t3, t4, mo', t5, t6, t7, t8, t9, t10, t11, t12, t13, t14⟩ | h
            · refine Or.inl ⟨t1, t2, t3, t4, mo', t5, t6, t7, t8, t9, t10, t11, fun b x y z1 z2 z3 z4 z5 => ?_, by omega, by omega⟩
              rw [t12 b x y z1 z2 (by omega) (by omega) z5]
              exact sfX2 b x y z1 z2 z3 z4 z5
            · exact Or.inr h
        · obtain ⟨N, rfl⟩ : ∃ N', N = N' + 1 := ⟨N - 1, by omega⟩
          have ex : qf_X15_rule_L138 20000 (N + 1 + 1) q K = some (.inr ((), X)) := by
            rw [go _ _ _ bd, stop _ _ (Or.inl x2) (Or.inr x2)]
          by_cases g5 : (pC kd vl (c + 1)).1 = 0
          · rw [if_pos g5]
            exact ⟨X, ex, sfX, Or.inr ⟨Or.inl rfl, x2, x3⟩⟩
          · have k6 : kd (pC kd vl (c + 1)).2 = 63 := by omega
            have pe : pX kd vl m (pC kd vl (c + 1)).2 = (1, (pC kd vl (c + 1)).2) := by
              cases m with
              | zero => rfl
              | succ m =>
                unfold pX
                rw [if_neg (by omega)]
            rw [if_neg g5, pe]
            exact ⟨X, ex, sfX, Or.inr ⟨Or.inr k6, x2, x3⟩⟩
    · rw [if_neg g]
      refine ⟨K, stop N K (Or.inr (by rw [b2]; exact fun z => g (k33.mp z))) (Or.inl b1), fun _ _ _ _ _ _ _ _ => rfl, Or.inl ⟨rfl, h63, hr, g, mo, hmo, hg, hE, ?_, s0, s1, hc3, fun _ _ _ _ _ _ _ _ => rfl, Int.le_refl _, Int.le_refl _⟩⟩
      exact hS
end WDp
