/-! ===== rules: a rule is asked ===== -/
section ASa
variable {M K A Z W M0 K0 : qm} {kd vl : Int → Int} {a b c d s u v n p q k to e h x y cl r day on : Int} {N m mo : Nat}
def FXC (M A : qm) : Prop := ∀ b x y, ¬ (b = 735 ∧ 11 ≤ x ∧ x ≤ 15) → b ≠ 753 → A b x y = M b x y
def FXK (K W : qm) : Prop := ∀ b i j, ¬ (b = 2206 ∨ b = 2207) → ¬ (b = 2184 ∧ 39 ≤ i ∧ i ≤ 43) → W b i j = K b i j
theorem kdv_x (h : KDV M kd vl n) (hA : ∀ b x y, 736 ≤ b → b ≤ 737 → A b x y = M b x y) : KDV A kd vl n := ⟨fun j j0 j1 => by rw [hA 736 _ _ (by decide) (by decide), hA 737 _ _ (by decide) (by decide)]; exact h.1 j j0 j1, h.2⟩
theorem fc3_x (h : FC3 M K) (hA : ∀ b x y, (b = 735 ∧ x = 8) ∨ b = 754 ∨ b = 755 → A b x y = M b x y) (hW : ∀ b x y, (b = 2184 ∧ x = 2) ∨ b = 2186 ∨ b = 2187 → W b x y = K b x y) : FC3 A W := by
  obtain ⟨h1, h2, h3⟩ := h
  unfold R_factn at h1
  unfold R_facts at h2
  unfold R_factd at h3
  refine ⟨?_, fun k k0 k1 => ?_, fun j k j0 jk k1 => ?_⟩
  · unfold R_factn
    rw [hA 735 8 0 (by omega), hW 2184 2 0 (by omega)]
    exact h1
  · rw [hA 735 8 0 (by omega)] at k1
    rw [hA 754 _ _ (by omega), hA 755 _ _ (by omega), hW 2186 _ _ (by omega), hW 2187 _ _ (by omega)]
    exact h2 k k0 k1
  · rw [hA 735 8 0 (by omega)] at k1
    rw [hA 754 _ _ (by omega), hA 754 _ _ (by omega)]
    exact h3 j k j0 jk k1
theorem exp_x (h : EXP kd vl K 0 0 m c cl x) (hW : ∀ b x y, 2192 ≤ b → b ≤ 2197 → W b x y = K b x y) : EXP kd vl W 0 0 m c cl x := exp_tr h (fun bb q b0 b1 _ _ => hW _ _ _ (by omega) (by omega)) (fun q i _ _ _ _ => ⟨hW _ _ _ (by decide) (by decide), hW _ _ _ (by decide) (by decide)⟩)
/-- exceptions -/
theorem excs_both (hl : LSW kd n) (r0 : 0 ≤ r) (r1 : r < 12) (hc' : kd x ≠ 33) (x0 : 0 ≤ x) : ∀ (m N N2 : Nat) (i c k f al : Int) (M K : qm), 0 ≤ i → i + m ≤ 100 → m + 1 < N → m + 1 < N2 → KDV M kd vl n → FC3 M K → M 735 11 0 = c → 0 ≤ c → c ≤ n → M 735 12 0 = 0 → M 735 13 0 = 0 → K 2184 40 0 = 0 → K 2184 41 0 = 0 → EXP kd vl K 0 0 m c (cl + k) x → 1 ≤ k → 0 ≤ cl → cl + k + m ≤ 60 → K 2190 r 0 = k - 1 + m → (0 < m → al = 1) → (m = 0 → (f = 2 ∧ al = 1) ∨ (f = 1 ∧ al = 0)) → ∃ f' al' A W, qf_X7_askRule_L79 20000 N r 1 f i M = some (.inr (f', A)) ∧ qf_X15_ask_L82 20000 N2 r cl al k K = some (.inr (al', W)) ∧ FXC M A ∧ FXK K W ∧ ((A 735 12 0 = 0 ∧ A 735 13 0 = 0 ∧ W 2184 40 0 = 0 ∧ W 2184 41 0 = 0 ∧ ((f' = 2 ∧ al' = 1) ∨ (f' = 1 ∧ al' = 0))) ∨ VLB A W) := by
  have n1 := hl.2.1
  have c24 : 0 ≤ r ∧ r < 24 := by omega
  -- the class's loop ends
  have endC : ∀ (N : Nat) (h f i : Int) (X : qm), (X 735 12 0 ≠ 0 ∨ h = 0 ∨ (0 ≤ X 735 11 0 ∧ X 735 11 0 < 121 ∧ X 736 (X 735 11 0) 0 ≠ 33)) → qf_X7_askRule_L79 20000 (N + 1) r h f i X = some (.inr (f, X)) := fun N h f i X hx => by
    show qloop _ (N + 1) (r, h, f, i, X) = _
    rw [qloop.eq_2]
    (try dsimp only)
    have : qf_X7_askRule_L79_b 20000 r h f i X = some (.inl (.inr (f, X))) := by
      unfold qf_X7_askRule_L79_b
      by_cases g : 120 ≤ i
      · rw [if_pos g]
      · rw [if_neg g]
        by_cases g1 : X 735 12 0 = 0
        · rw [if_pos g1]
          by_cases g2 : h = 0
          · rw [if_pos g2]
          · rcases hx with z | z | ⟨z1, z2, z3⟩
            · exact absurd g1 z
            · exact absurd z g2
            · rw [if_neg g2, if_pos (show 0 ≤ X 735 11 0 ∧ X 735 11 0 < 121 from ⟨z1, z2⟩), if_neg z3]
        · rw [if_neg g1]
    rw [this]
  have endK : ∀ (N : Nat) (al k : Int) (X : qm), (X 2190 r 0 < k ∨ al = 0) → qf_X15_ask_L82 20000 (N + 1) r cl al k X = some (.inr (al, X)) := fun N al k X hx => by
    show qloop _ (N + 1) (r, cl, al, k, X) = _
    rw [qloop.eq_2]
    (try dsimp only)
    have : qf_X15_ask_L82_b 20000 r cl al k X = some (.inl (.inr (al, X))) := by
      unfold qf_X15_ask_L82_b
      rw [if_pos c24]
      by_cases g : X 2190 r 0 < k
      · rw [if_pos g]
      · rw [if_neg g, if_pos (by omega)]
    rw [this]
  intro m
  induction m with
  | zero =>
    intro N N2 i c k f al M K i0 i1 hN hN2 kv fc hc c0 c1 m12 m13 k40 k41 hE hk q0 q1 hm _ hf
    obtain ⟨N, rfl⟩ : ∃ N', N = N' + 1 := ⟨N - 1, by omega⟩
    obtain ⟨N2, rfl⟩ : ∃ N', N2 = N' + 1 := ⟨N2 - 1, by omega⟩
    have hE : c = x := hE
    have kc := (kv.1 c c0 (by omega)).1
    refine ⟨f, al, M, K, endC N 1 f i M (Or.inr (Or.inr ⟨by omega, by omega, by rw [hc, kc, hE]; exact hc'⟩)), endK N2 al k K (Or.inl (by omega)), fun _ _ _ _ _ => rfl, fun _ _ _ _ _ => rfl, Or.inl ⟨m12, m13, k40, k41, hf rfl⟩⟩
  | succ m ih =>
    intro N N2 i c k f al M K i0 i1 hN hN2 kv fc hc c0 c1 m12 m13 k40 k41 hE hk q0 q1 hm hal _
    obtain ⟨N, rfl⟩ : ∃ N', N = N' + 1 := ⟨N - 1, by omega⟩
    obtain ⟨N2, rfl⟩ : ∃ N', N2 = N' + 1 := ⟨N2 - 1, by omega⟩
    have al1 := hal (by omega)
    obtain ⟨k33, hC, hE2⟩ := hE
    have kc := (kv.1 c c0 (by omega)).1
    have cn := lst_lt hl c1 (by omega) (by omega)
    have cc : 0 ≤ c ∧ c < 121 := by omega
    obtain ⟨M1, hM1⟩ : ∃ X, qw M 735 11 0 (c + 1) = X := ⟨_, rfl⟩
    have fM1 : ∀ b x y, ¬ (b = 735 ∧ x = 11) → M1 b x y = M b x y := fun b x y z => by rw [← hM1, qw_ap, if_neg (by omega)]
    have M111 : M1 735 11 0 = c + 1 := by rw [← hM1]; exact qw_s
    have tw := tw_C (M := M) hc c0 (by omega) kc
    rw [hM1] at tw
    have kv1 : KDV M1 kd vl n := kdv_x kv (fun b x y z1 z2 => fM1 b x y (by omega))
    have fc1 : FC3 M1 K := fc3_x fc (fun b x y z => fM1 b x y (by omega)) (fun _ _ _ _ => rfl)
    obtain ⟨b, A, W, e1, e2, hb, fA, fW, hv⟩ := excl_both hl kv1 fc1 M111 (by omega) (by omega) ((fM1 _ _ _ (by decide)).trans m12) ((fM1 _ _ _ (by decide)).trans m13) k40 k41 hC (by omega) (by omega)
    have stC : qf_X7_askRule_L79_b 20000 r 1 f i M = some (.inr (r, b, (if b = 0 then 1 else 2), i + 1, A)) := by
      unfold qf_X7_askRule_L79_b
      rw [if_neg (by omega), if_pos m12, if_neg (by decide), hc, if_pos cc, kc, if_pos k33, tw]
      simp only [Option.bind_some]
      rw [e1]
      simp only [Option.bind_some]
      rw [w32_id (x := i + 1) (by omega) (by omega)]
      by_cases g : b = 0
      · rw [if_pos g, if_pos g]
      · rw [if_neg g, if_neg g]
    have stK : qf_X15_ask_L82_b 20000 r cl al k K = some (.inr (r, cl, b, k + 1, W)) := by
      unfold qf_X15_ask_L82_b
      rw [if_pos c24, if_neg (by omega), if_neg (by omega), w32_id (x := cl + k) (by omega) (by omega), e2, w32_id (x := k + 1) (by omega) (by omega)]
      rfl
    have goC : qf_X7_askRule_L79 20000 (N + 1) r 1 f i M = qf_X7_askRule_L79 20000 N r b (if b = 0 then 1 else 2) (i + 1) A := by
      show qloop _ (N + 1) (r, 1, f, i, M) = _
      rw [qloop.eq_2]
      (try dsimp only)
      rw [stC]
      rfl
    have goK : qf_X15_ask_L82 20000 (N2 + 1) r cl al k K = qf_X15_ask_L82 20000 N2 r cl b (k + 1) W := by
      show qloop _ (N2 + 1) (r, cl, al, k, K) = _
      rw [qloop.eq_2]
      (try dsimp only)
      rw [stK]
      rfl
    have fcA : FXC M A := fun b x y z1 z2 => by
      rw [fA b x y z1 (by omega)]
      exact fM1 b x y (by omega)
    have fkW : FXK K W := fun b i j z1 z2 => fW b i j z1 z2 trivial
    rw [goC, goK]
    obtain ⟨N, rfl⟩ : ∃ N', N = N' + 1 := ⟨N - 1, by omega⟩
    obtain ⟨N2, rfl⟩ : ∃ N', N2 = N' + 1 := ⟨N2 - 1, by omega⟩
    rcases hb with g | g
    · rw [g, if_pos rfl]
      refine ⟨1, 0, A, W, endC N 0 1 (i + 1) A (Or.inr (Or.inl rfl)), endK N2 0 (k + 1) W (Or.inr rfl), fcA, fkW, ?_⟩
      rcases hv with ⟨v1, v2, v3, v4, _⟩ | ⟨_, v, _⟩
      · exact Or.inl ⟨v1, v2, v3, v4, Or.inr ⟨rfl, rfl⟩⟩
      · exact Or.inr v
    · rw [g, if_neg (by decide)]
      rcases hv with ⟨v1, v2, v3, v4, v5⟩ | ⟨v, _⟩
      · obtain ⟨o1, o2, o3, o4⟩ := pC_ok (vl := vl) hl (show 0 ≤ c + 1 by omega) (by omega)
        obtain ⟨f', al', B, X, p1, p2, p3, p4, p5⟩ := ih (N + 1) (N2 + 1) (i + 1) (pC kd vl (c + 1)).2 (k + 1) 2 1 A W (by omega) (by omega) (by omega) (by omega) (kdv_x kv (fun b x y z1 z2 => fcA b x y (by omega) (by omega))) (fc3_x fc (fun b x y z => fcA b x y (by omega) (by omega)) (fun b x y z => fkW b x y (by omega) (by omega))) v5 (by omega) o3 v1 v2 v3 v4 (exp_x (by rw [show cl + (k + 1) = cl + k + 1 by omega]; exact hE2) (fun b x y z1 z2 => fkW b x y (by omega) (by omega))) (by omega) q0 (by omega) (by rw [fkW 2190 _ _ (by omega) (by omega)]; omega) (fun _ => rfl) (fun _ => Or.inl ⟨rfl, rfl⟩)
        refine ⟨f', al', B, X, p1, p2, fun b x y z1 z2 => by rw [p3 b x y z1 z2]; exact fcA b x y z1 z2, fun b i j z1 z2 => by rw [p4 b i j z1 z2]; exact fkW b i j z1 z2, p5⟩
      · omega
/-- rule r, on both sides -/
theorem askr_both (hl : LSW kd n) (kv : KDV M kd vl n) (fc : FC3 M K) (hr : RUL1 kd vl n (M 738 r 0) (M 739 r 0) K 0 0 0 r mo) (hb : K 2189 (0 + r) 0 + mo < 60) (r0 : 0 ≤ r) (r1 : r < 12) (h1 : K 2199 r 0 = 0) (h2 : K 2200 r 0 = 0) (h3 : K 2201 r 0 = 0) (h4 : K 2202 r 0 = 0) : ∃ st A W, qf_X7_askRule 20000 r day M = some ((), A) ∧ qf_X15_ask 20000 r day 1 K = some (st, W) ∧ (∀ b x y, ¬ (b = 735 ∧ 11 ≤ x ∧ x ≤ 15) → b ≠ 753 → ¬ (b = 740 ∧ x = r) → A b x y = M b x y) ∧ (∀ b i j, ¬ (b = 2206 ∨ b = 2207) → ¬ (b = 2184 ∧ 39 ≤ i ∧ i ≤ 43) → ¬ (2199 ≤ b ∧ b ≤ 2202 ∧ i = r) → W b i j = K b i j) ∧ A 740 r 0 = st ∧ W 2199 r 0 = A 740 r 1 ∧ W 2200 r 0 = A 740 r 2 ∧ W 2201 r 0 = A 740 r 3 ∧ W 2202 r 0 = A 740 r 4 ∧ W 2184 40 0 = A 740 r 5 ∧ W 2184 41 0 = A 740 r 6 := by
  have n1 := hl.2.1
  have cr : 0 ≤ r ∧ r < 12 := ⟨r0, r1⟩
  have cr2 : 0 ≤ r ∧ r < 24 := by omega
  obtain ⟨g1, g2, g3, g4, g5, g6, c', g7, g8⟩ := hr
  rw [Int.zero_add] at g1 g2 g3 g6 g7 hb
  obtain ⟨M4, hM4⟩ : ∃ X, qfl2 M 740 r 0 7 0 = X := ⟨_, rfl⟩
  have f4 : ∀ b x y, ¬ (b = 740 ∧ x = r) → M4 b x y = M b x y := fun b x y z => by
    rw [← hM4]
    exact if_neg (by omega)
  have z4 : ∀ j, 0 ≤ j → j < 7 → M4 740 r j = 0 := fun j j0 j1 => by
    rw [← hM4]
    exact if_pos ⟨rfl, rfl, j0, j1⟩
  obtain ⟨K2, hK2⟩ : ∃ X, qw (qw K 2184 40 0 0) 2184 41 0 0 = X := ⟨_, rfl⟩
  have fK2 : ∀ b x y, ¬ (b = 2184 ∧ (x = 40 ∨ x = 41)) → K2 b x y = K b x y := fun b x y z => by rw [← hK2, qw_ap, if_neg (by omega), qw_ap, if_neg (by omega)]
  have k40 : K2 2184 40 0 = 0 := by rw [← hK2, qw_i (by decide)]; exact qw_s
  have k41 : K2 2184 41 0 = 0 := by rw [← hK2]; exact qw_s
  have d4 : M4 739 r 0 = M 739 r 0 := f4 _ _ _ (by omega)
  have d2 : K2 2191 r 0 = M 739 r 0 := (fK2 _ _ _ (by omega)).trans g3
  by_cases gd : M 739 r 0 ≤ day
  · obtain ⟨M11, hM11⟩ : ∃ X, qw (qw (qw M4 735 12 0 0) 735 13 0 0) 735 11 0 (M 738 r 0) = X := ⟨_, rfl⟩
    have f11 : ∀ b x y, ¬ (b = 735 ∧ 11 ≤ x ∧ x ≤ 13) → M11 b x y = M4 b x y := fun b x y z => by rw [← hM11, qw_ap, if_neg (by omega), qw_ap, if_neg (by omega), qw_ap, if_neg (by omega)]
    have m12 : M11 735 12 0 = 0 := by rw [← hM11, qw_i (by decide), qw_i (by decide)]; exact qw_s
    have m13 : M11 735 13 0 = 0 := by rw [← hM11, qw_i (by decide)]; exact qw_s
    have m11 : M11 735 11 0 = M 738 r 0 := by rw [← hM11]; exact qw_s
    have kv11 : KDV M11 kd vl n := kdv_x kv (fun b x y z1 z2 => by rw [f11 b x y (by omega)]; exact f4 b x y (by omega))
    have fc11 : FC3 M11 K2 := fc3_x fc (fun b x y z => by rw [f11 b x y (by omega)]; exact f4 b x y (by omega)) (fun b x y z => fK2 b x y (by omega))
    obtain ⟨cl, hcl⟩ : ∃ cl, K 2189 r 0 = cl := ⟨_, rfl⟩
    rw [hcl] at g2 g6 g7 hb
    have clk2 : CLK kd vl K2 0 0 cl (M 738 r 0) := clk_tr g6 (fun bb _ _ => fK2 _ _ _ (by omega)) (fun i _ _ => ⟨fK2 _ _ _ (by omega), fK2 _ _ _ (by omega)⟩)
    have w4 : ∀ j, 0 ≤ j → j < 7 → M11 740 r j = 0 := fun j j0 j1 => (f11 _ _ _ (by omega)).trans (z4 j j0 j1)
    obtain ⟨b, A, W, e1, e2, hbb, fA, fW, hv, hs1, hs2, hs3, hs4⟩ := clau_both (a1 := r) hl kv11 fc11 m11 g4 g5 m12 m13 k40 k41 clk2 g2 (by omega) r0 r1 ((fK2 _ _ _ (by omega)).trans (h1.trans (w4 1 (by decide) (by decide)).symm)) ((fK2 _ _ _ (by omega)).trans (h2.trans (w4 2 (by decide) (by decide)).symm)) ((fK2 _ _ _ (by omega)).trans (h3.trans (w4 3 (by decide) (by decide)).symm)) ((fK2 _ _ _ (by omega)).trans (h4.trans (w4 4 (by decide) (by decide)).symm))
    have fMA : ∀ b x y, ¬ (b = 735 ∧ 11 ≤ x ∧ x ≤ 15) → ¬ (b = 740 ∧ x = r) → A b x y = M b x y := fun b x y z1 z2 => by
      rw [fA b x y z1 (by omega), f11 b x y (by omega)]
      exact f4 b x y z2
    have fKW : ∀ b i j, ¬ (b = 2206 ∨ b = 2207) → ¬ (b = 2184 ∧ 39 ≤ i ∧ i ≤ 43) → ¬ (2199 ≤ b ∧ b ≤ 2202 ∧ i = r) → W b i j = K b i j := fun b i j z1 z2 z3 => by
      rw [fW b i j z1 z2 z3]
      exact fK2 b i j (by omega)
    have W90 : W 2190 r 0 = mo := (fKW _ _ _ (by omega) (by omega) (by omega)).trans g1
    have stC : qf_X7_askRule 20000 r day M = if b = 0 then qf_X7_askRule_J66 20000 r b 1 A else qf_X7_askRule_J66 20000 r b 0 A := by
      unfold qf_X7_askRule qbnd
      rw [if_pos cr, hM4]
      (try dsimp only)
      rw [if_pos cr, d4, if_pos gd, if_pos cr, show qw (qw M4 735 12 0 0) 735 13 0 0 738 r 0 = M 738 r 0 from (qw_a (by decide)).trans ((qw_a (by decide)).trans (f4 _ _ _ (by omega))), hM11, e1]
      rfl
    have stK : qf_X15_ask 20000 r day 1 K = if W 2184 40 0 ≤ 0 then if b = 0 then if 0 ≤ r ∧ r < 24 then if W 2190 r 0 ≤ 0 then qf_X15_ask_J77 20000 r cl 0 W else qf_X15_ask_J77 20000 r cl 1 W else none else some (0, W) else some (3, W) := by
      unfold qf_X15_ask qbnd
      (try dsimp only)
      rw [hK2]
      (try dsimp only)
      rw [if_pos cr2, d2, if_pos gd, if_pos cr2, if_neg (show ¬ (1 : Int) = 0 by decide), show K2 2189 r 0 = cl from (fK2 _ _ _ (by omega)).trans hcl]
      unfold qf_X15_ask_J42
      rw [e2]
      rfl
    -- what the class notes at the end
    have fin : ∀ (f : Int) (B : qm), (∀ b x y, ¬ (b = 735 ∧ 11 ≤ x ∧ x ≤ 15) → b ≠ 753 → B b x y = A b x y) → ∃ Y, qf_X7_askRule_J145 20000 r f B = some ((), Y) ∧ (∀ b x y, ¬ (b = 740 ∧ x = r ∧ (y = 0 ∨ y = 5 ∨ y = 6)) → Y b x y = B b x y) ∧ Y 740 r 0 = (if B 735 12 0 = 0 then f else 3) ∧ Y 740 r 5 = B 735 12 0 ∧ Y 740 r 6 = B 735 13 0 := fun f B fB => by
      have j : ∀ t, ∃ Y, qf_X7_askRule_J163 20000 r r 0 t B = some ((), Y) ∧ (∀ b x y, ¬ (b = 740 ∧ x = r ∧ (y = 0 ∨ y = 5 ∨ y = 6)) → Y b x y = B b x y) ∧ Y 740 r 0 = t ∧ Y 740 r 5 = B 735 12 0 ∧ Y 740 r 6 = B 735 13 0 := fun t => by
        unfold qf_X7_askRule_J163 qbnd
        rw [if_pos (show (0 : Int) ≤ 0 ∧ (0 : Int) < 7 by decide)]
        (try dsimp only)
        rw [show qw B 740 r 0 t 735 12 0 = B 735 12 0 from qw_a (by decide), show qw (qw B 740 r 0 t) 740 r 5 (B 735 12 0) 735 13 0 = B 735 13 0 from (qw_a (by decide)).trans (qw_a (by decide))]
        refine ⟨_, rfl, fun b x y z => ?_, ?_, ?_, ?_⟩
        · rw [qw_ap, if_neg (by omega), qw_ap, if_neg (by omega), qw_ap, if_neg (by omega)]
        · rw [qw_j (by decide), qw_j (by decide)]
          exact qw_s
        · rw [qw_j (by decide)]
          exact qw_s
        · exact qw_s
      unfold qf_X7_askRule_J145
      by_cases g : B 735 12 0 = 0
      · rw [if_pos g, if_pos g]
        exact j f
      · rw [if_neg g, if_neg g]
        exact j 3
    have close : ∀ (st f : Int) (B Y X : qm), qf_X7_askRule 20000 r day M = some ((), Y) → qf_X15_ask 20000 r day 1 K = some (st, X) → FXC A B → FXK W X → (∀ b x y, ¬ (b = 740 ∧ x = r ∧ (y = 0 ∨ y = 5 ∨ y = 6)) → Y b x y = B b x y) → Y 740 r 0 = st → X 2184 40 0 = Y 740 r 5 → X 2184 41 0 = Y 740 r 6 → ∃ st A W, qf_X7_askRule 20000 r day M = some ((), A) ∧ qf_X15_ask 20000 r day 1 K = some (st, W) ∧ (∀ b x y, ¬ (b = 735 ∧ 11 ≤ x ∧ x ≤ 15) → b ≠ 753 → ¬ (b = 740 ∧ x = r) → A b x y = M b x y) ∧ (∀ b i j, ¬ (b = 2206 ∨ b = 2207) → ¬ (b = 2184 ∧ 39 ≤ i ∧ i ≤ 43) → ¬ (2199 ≤ b ∧ b ≤ 2202 ∧ i = r) → W b i j = K b i j) ∧ A 740 r 0 = st ∧ W 2199 r 0 = A 740 r 1 ∧ W 2200 r 0 = A 740 r 2 ∧ W 2201 r 0 = A 740 r 3 ∧ W 2202 r 0 = A 740 r 4 ∧ W 2184 40 0 = A 740 r 5 ∧ W 2184 41 0 = A 740 r 6 := fun st f B Y X p1 p2 p3 p4 p5 p6 p7 p8 => by
      refine ⟨st, Y, X, p1, p2, fun b x y z1 z2 z3 => ?_, fun b i j z1 z2 z3 => ?_, p6, ?_, ?_, ?_, ?_, p7, p8⟩
      · rw [p5 b x y (by omega), p3 b x y z1 z2]
        exact fMA b x y z1 z3
      · rw [p4 b i j z1 z2]
        exact fKW b i j z1 z2 z3
      · rw [p4 _ _ _ (by omega) (by omega), p5 _ _ _ (by omega), p3 _ _ _ (by omega) (by decide)]
        exact hs1
      · rw [p4 _ _ _ (by omega) (by omega), p5 _ _ _ (by omega), p3 _ _ _ (by omega) (by decide)]
        exact hs2
      · rw [p4 _ _ _ (by omega) (by omega), p5 _ _ _ (by omega), p3 _ _ _ (by omega) (by decide)]
        exact hs3
      · rw [p4 _ _ _ (by omega) (by omega), p5 _ _ _ (by omega), p3 _ _ _ (by omega) (by decide)]
        exact hs4
    rcases hv with ⟨v1, v2, v3, v4, v5⟩ | ⟨vb0, vb, cb0, cb1⟩
    · rw [if_pos (show W 2184 40 0 ≤ 0 by omega)] at stK
      rcases hbb with g | g
      · rw [if_pos g] at stC stK
        rw [if_pos cr2, W90] at stK
        obtain ⟨o1, o2, o3, o4⟩ := pC_ok (vl := vl) hl g4 g5
        have ex2 : EXP kd vl W 0 0 mo (pC kd vl (M 738 r 0)).2 (cl + 1) c' := exp_x g7 (fun b x y z1 z2 => fKW b x y (by omega) (by omega) (by omega))
        have c'0 : 0 ≤ c' := by
          have : ∀ (m : Nat) (c cl x : Int), 0 ≤ c → c ≤ n → EXP kd vl W 0 0 m c cl x → 0 ≤ x := by
            intro m
            induction m with
            | zero =>
              intro c cl x c0 _ h
              have h : c = x := h
              omega
            | succ m ih =>
              intro c cl x c0 c1 h
              obtain ⟨h1, _, h3⟩ := h
              have cn := lst_lt hl c1 (by omega) (by omega)
              obtain ⟨o1, o2, o3, o4⟩ := pC_ok (vl := vl) hl (show 0 ≤ c + 1 by omega) (by omega)
              exact ih _ _ _ (by omega) o3 h3
          exact this _ _ _ _ (by omega) o3 ex2
        have run : ∀ al : Int, (0 < mo → al = 1) → (mo = 0 → al = 0) → qf_X15_ask 20000 r day 1 K = qf_X15_ask_J77 20000 r cl al W → ∃ st A W, qf_X7_askRule 20000 r day M = some ((), A) ∧ qf_X15_ask 20000 r day 1 K = some (st, W) ∧ (∀ b x y, ¬ (b = 735 ∧ 11 ≤ x ∧ x ≤ 15) → b ≠ 753 → ¬ (b = 740 ∧ x = r) → A b x y = M b x y) ∧ (∀ b i j, ¬ (b = 2206 ∨ b = 2207) → ¬ (b = 2184 ∧ 39 ≤ i ∧ i ≤ 43) → ¬ (2199 ≤ b ∧ b ≤ 2202 ∧ i = r) → W b i j = K b i j) ∧ A 740 r 0 = st ∧ W 2199 r 0 = A 740 r 1 ∧ W 2200 r 0 = A 740 r 2 ∧ W 2201 r 0 = A 740 r 3 ∧ W 2202 r 0 = A 740 r 4 ∧ W 2184 40 0 = A 740 r 5 ∧ W 2184 41 0 = A 740 r 6 := fun al al1 al0 hK => by
          obtain ⟨f', al', B, X, p1, p2, p3, p4, p5⟩ := excs_both (cl := cl) hl r0 r1 g8 c'0 mo 20000 20000 0 (pC kd vl (M 738 r 0)).2 1 1 al A W (by decide) (by omega) (by omega) (by omega) (kdv_x kv (fun b x y z1 z2 => fMA b x y (by omega) (by omega))) (fc3_x fc (fun b x y z => fMA b x y (by omega) (by omega)) (fun b x y z => fKW b x y (by omega) (by omega) (by omega))) v5 (by omega) o3 v1 v2 v3 v4 ex2 (Int.le_refl _) g2 (by omega) (by omega) al1 (fun z => Or.inr ⟨rfl, al0 z⟩)
          obtain ⟨Y, y1, y2, y3, y4, y5⟩ := fin f' B (fun b x y z1 z2 => p3 b x y z1 z2)
          have eC : qf_X7_askRule 20000 r day M = some ((), Y) := by
            rw [stC, g]
            unfold qf_X7_askRule_J66
            rw [if_pos rfl, p1]
            exact y1
          have eK : qf_X15_ask 20000 r day 1 K = some ((if X 2184 40 0 ≤ 0 then (if al' = 0 then 1 else 2) else 3), X) := by
            rw [hK]
            unfold qf_X15_ask_J77
            rw [p2]
            show qf_X15_ask_J116 20000 al' X = _
            unfold qf_X15_ask_J116
            by_cases z : X 2184 40 0 ≤ 0
            · rw [if_pos z, if_pos z]
              by_cases z2 : al' = 0
              · rw [if_pos z2, if_pos z2]
              · rw [if_neg z2, if_neg z2]
            · rw [if_neg z, if_neg z]
          refine close _ f' B Y X eC eK p3 p4 y2 ?_ ?_ ?_
          · rw [y3]
            rcases p5 with ⟨t1, t2, t3, t4, t5⟩ | ⟨t1, t2, t3, t4⟩
            · rw [if_pos t1, if_pos (by omega)]
              rcases t5 with ⟨u1, u2⟩ | ⟨u1, u2⟩
              · rw [u1, u2]
                rfl
              · rw [u1, u2]
                rfl
            · rw [if_neg t1, if_neg (by omega)]
          · rw [y4]
            rcases p5 with ⟨t1, t2, t3, t4, t5⟩ | ⟨t1, t2, t3, t4⟩
            · omega
            · exact t2
          · rw [y5]
            rcases p5 with ⟨t1, t2, t3, t4, t5⟩ | ⟨t1, t2, t3, t4⟩
            · omega
            · exact t3
        by_cases gm : (mo : Int) ≤ 0
        · rw [if_pos gm] at stK
          exact run 0 (fun z => by omega) (fun _ => rfl) stK
        · rw [if_neg gm] at stK
          exact run 1 (fun _ => rfl) (fun z => by omega) stK
      · rw [g, if_neg (by decide)] at stC
        rw [if_neg (by omega)] at stK
        obtain ⟨Y, y1, y2, y3, y4, y5⟩ := fin 0 A (fun _ _ _ _ _ => rfl)
        have eC : qf_X7_askRule 20000 r day M = some ((), Y) := by
          rw [stC]
          unfold qf_X7_askRule_J66
          rw [if_neg (by decide)]
          exact y1
        rw [if_pos v1] at y3
        exact close 0 0 A Y W eC stK (fun _ _ _ _ _ => rfl) (fun _ _ _ _ _ => rfl) y2 y3 (by rw [y4]; omega) (by rw [y5]; omega)
    · obtain ⟨vb1, vb2, vb3, vb4⟩ := vb
      rw [if_neg (show ¬ W 2184 40 0 ≤ 0 by omega)] at stK
      rw [vb0, if_pos rfl] at stC
      obtain ⟨Y, y1, y2, y3, y4, y5⟩ := fin 1 A (fun _ _ _ _ _ => rfl)
      have l79 : qf_X7_askRule_L79 20000 20000 r 1 1 0 A = some (.inr (1, A)) := by
        show qloop _ (19999 + 1) (r, 1, 1, 0, A) = _
        rw [qloop.eq_2]
        (try dsimp only)
        have : qf_X7_askRule_L79_b 20000 r 1 1 0 A = some (.inl (.inr (1, A))) := by
          unfold qf_X7_askRule_L79_b
          rw [if_neg (by decide), if_neg vb1]
        rw [this]
      have eC : qf_X7_askRule 20000 r day M = some ((), Y) := by
        rw [stC]
        unfold qf_X7_askRule_J66
        rw [if_pos rfl, l79]
        exact y1
      rw [if_neg vb1] at y3
      exact close 3 1 A Y W eC stK (fun _ _ _ _ _ => rfl) (fun _ _ _ _ _ => rfl) y2 y3 (by rw [y4]; exact vb2) (by rw [y5]; exact vb3)
  · have eC : qf_X7_askRule 20000 r day M = some ((), qw M4 740 r 0 4) := by
      unfold qf_X7_askRule qbnd
      rw [if_pos cr, hM4]
      (try dsimp only)
      rw [if_pos cr, d4, if_neg gd]
    have eK : qf_X15_ask 20000 r day 1 K = some (4, K2) := by
      unfold qf_X15_ask qbnd
      (try dsimp only)
      rw [hK2]
      (try dsimp only)
      rw [if_pos cr2, d2, if_neg gd]
    have y : ∀ j, j ≠ 0 → 0 ≤ j → j < 7 → qw M4 740 r 0 4 740 r j = 0 := fun j jz j0 j1 => by
      rw [qw_j jz]
      exact z4 j j0 j1
    refine ⟨4, _, K2, eC, eK, fun b x y z1 z2 z3 => ?_, fun b i j z1 z2 z3 => fK2 b i j (by omega), qw_s, ?_, ?_, ?_, ?_, ?_, ?_⟩
    · rw [qw_ap, if_neg (by omega)]
      exact f4 b x y z3
    · rw [y 1 (by decide) (by decide) (by decide), fK2 _ _ _ (by omega)]
      exact h1
    · rw [y 2 (by decide) (by decide) (by decide), fK2 _ _ _ (by omega)]
      exact h2
    · rw [y 3 (by decide) (by decide) (by decide), fK2 _ _ _ (by omega)]
      exact h3
    · rw [y 4 (by decide) (by decide) (by decide), fK2 _ _ _ (by omega)]
      exact h4
    · rw [y 5 (by decide) (by decide) (by decide)]
      exact k40
    · rw [y 6 (by decide) (by decide) (by decide)]
      exact k41
end ASa
