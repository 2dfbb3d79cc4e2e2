/-! ===== rules: all are asked ===== -/
section ASb
variable {M K A Z W M0 K0 : qm} {kd vl : Int → Int} {a b c d s u v n p q k to e h x y cl r day on i : Int} {N m mo : Nat}
def FAC (M A : qm) : Prop := ∀ b x y, ¬ (b = 735 ∧ (x = 1 ∨ (11 ≤ x ∧ x ≤ 15))) → b ≠ 753 → b ≠ 740 → A b x y = M b x y
def FAK (K W : qm) : Prop := ∀ b i j, ¬ (b = 2206 ∨ b = 2207) → ¬ (b = 2184 ∧ (i = 18 ∨ (39 ≤ i ∧ i ≤ 43))) → ¬ (2198 ≤ b ∧ b ≤ 2204) → W b i j = K b i j
def ANS (A W : qm) (r : Int) : Prop := W 2198 r 0 = A 740 r 0 ∧ W 2199 r 0 = A 740 r 1 ∧ W 2200 r 0 = A 740 r 2 ∧ W 2201 r 0 = A 740 r 3 ∧ W 2202 r 0 = A 740 r 4 ∧ W 2203 r 0 = A 740 r 5 ∧ W 2204 r 0 = A 740 r 6
theorem rul1_x (h : RUL1 kd vl n s day K 0 0 0 r mo) (hW : ∀ b x y, 2189 ≤ b → b ≤ 2197 → W b x y = K b x y) : RUL1 kd vl n s day W 0 0 0 r mo := rul1_tr h (fun bb _ _ => hW _ _ _ (by omega) (by omega)) (fun bb q _ _ _ _ => hW _ _ _ (by omega) (by omega)) (fun q i _ _ _ _ => ⟨hW _ _ _ (by decide) (by decide), hW _ _ _ (by decide) (by decide)⟩)
theorem runs_both (h_rulen : R_rulen M K) (fc : FC3 M K) (hR : RLS M K) (d0 : 0 ≤ day) (d1 : day ≤ 1000000) : ∃ A W v, qf_X7_askAll 20000 day M = some ((), A) ∧ qf_X15_run 20000 day K = some (v, W) ∧ FAC M A ∧ FAK K W ∧ A 735 1 0 = 1 ∧ W 2184 18 0 = day ∧ (∀ r, 0 ≤ r → r < M 735 0 0 → ANS A W r) ∧ v = sI (fun r => b01 (W 2198 r 0 = 1)) (M 735 0 0) := by
  have s_rulen := h_rulen
  unfold R_rulen at s_rulen
  obtain ⟨l0, l1, l2, _⟩ := s_rulen
  obtain ⟨ρ, hρ⟩ : ∃ ρ, M 735 0 0 = ρ := ⟨_, rfl⟩
  rw [hρ] at l0 l1 l2 ⊢
  obtain ⟨kd, vl, n, hl, kv1, kv2, hru⟩ := hR
  rw [hρ] at hru
  obtain ⟨K1, hK1⟩ : ∃ X, qw K 2184 18 0 day = X := ⟨_, rfl⟩
  have fK1 : ∀ b x y, ¬ (b = 2184 ∧ x = 18) → K1 b x y = K b x y := fun b x y z => by rw [← hK1, qw_ap, if_neg (by omega)]
  have K118 : K1 2184 18 0 = day := by rw [← hK1]; exact qw_s
  obtain ⟨o, eo, p, ep, A, W, rfl, rfl, fA, fW, hans⟩ : qW (qf_X7_askAll_L2 20000 20000 day 0 M) (fun o => qW (qf_X15_run_L9 20000 20000 day 0 0 K1) (fun p => ∃ A W, o = .inr ((), A) ∧ p = .inr (sI (fun r => b01 (W 2198 r 0 = 1)) ρ, W) ∧ FAC M A ∧ FAK K1 W ∧ (W 2184 18 0 = day ∧ ∀ r, 0 ≤ r → r < ρ → ANS A W r))) := by
    unfold qf_X7_askAll_L2 qf_X15_run_L9
    refine qW_for2 ρ (fun i s t => ∃ A W, s = (day, i, A) ∧ t = (day, sI (fun r => b01 (W 2198 r 0 = 1)) i, i, W) ∧ FAC M A ∧ FAK K1 W ∧ W 2184 18 0 = day ∧ ∀ r, 0 ≤ r → r < i → ANS A W r) ?_ ?_ ⟨M, K1, rfl, rfl, fun _ _ _ _ _ _ => rfl, fun _ _ _ _ _ _ => rfl, K118, fun r r0 r1 => by omega⟩ l0 (by omega)
    · rintro i _ _ i0 i1 ⟨A, W, rfl, rfl, fA, fW, w18, hans⟩
      (try dsimp only)
      have ci : 0 ≤ i ∧ i < 12 := by omega
      obtain ⟨X, hX⟩ : ∃ X, qw (qw (qw (qw W 2199 i 0 0) 2200 i 0 0) 2201 i 0 0) 2202 i 0 0 = X := ⟨_, rfl⟩
      have fX : ∀ b x y, ¬ (2199 ≤ b ∧ b ≤ 2202 ∧ x = i) → X b x y = W b x y := fun b x y z => by rw [← hX, qw_ap, if_neg (by omega), qw_ap, if_neg (by omega), qw_ap, if_neg (by omega), qw_ap, if_neg (by omega)]
      obtain ⟨mo, u1, u2⟩ := hru i i0 i1
      have kvA : KDV A kd vl n := kdv_x ⟨kv1 (by omega), kv2⟩ (fun b x y z1 z2 => fA b x y (by omega) (by omega) (by omega))
      have fcA : FC3 A X := fc3_x fc (fun b x y z => fA b x y (by omega) (by omega) (by omega)) (fun b x y z => by rw [fX b x y (by omega), fW b x y (by omega) (by omega) (by omega)]; exact fK1 b x y (by omega))
      have fXK : ∀ b x y, 2189 ≤ b → b ≤ 2197 → X b x y = K b x y := fun b x y z1 z2 => by
        rw [fX b x y (by omega), fW b x y (by omega) (by omega) (by omega)]
        exact fK1 b x y (by omega)
      have ru : RUL1 kd vl n (A 738 i 0) (A 739 i 0) X 0 0 0 i mo := by
        rw [fA 738 _ _ (by omega) (by omega) (by omega), fA 739 _ _ (by omega) (by omega) (by omega)]
        exact rul1_x u1 fXK
      obtain ⟨st, B, Y, e1, e2, fB, fY, y0, y1, y2, y3, y4, y5, y6⟩ := askr_both (day := day) hl kvA fcA ru (by rw [fXK _ _ _ (by decide) (by decide)]; exact u2) i0 (by omega) (by rw [← hX, qw_a (by decide), qw_a (by decide), qw_a (by decide)]; exact qw_s) (by rw [← hX, qw_a (by decide), qw_a (by decide)]; exact qw_s) (by rw [← hX, qw_a (by decide)]; exact qw_s) (by rw [← hX]; exact qw_s)
      have cA : A 735 0 0 = ρ := (fA _ _ _ (by omega) (by omega) (by omega)).trans hρ
      have cW : W 2184 5 0 = ρ := by rw [fW _ _ _ (by omega) (by omega) (by omega), fK1 _ _ _ (by omega)]; exact l2
      have eC : qf_X7_askAll_L2_b 20000 day i A = some (.inr (day, i + 1, B)) := by
        unfold qf_X7_askAll_L2_b
        rw [if_neg (show ¬ A 735 0 0 ≤ i by omega), e1, w32_id (x := i + 1) (by omega) (by omega)]
        rfl
      obtain ⟨Z, hZ⟩ : ∃ Z, qw (qw (qw Y 2198 i 0 st) 2203 i 0 (Y 2184 40 0)) 2204 i 0 (Y 2184 41 0) = Z := ⟨_, rfl⟩
      have fZ : ∀ b x y, ¬ ((b = 2198 ∨ b = 2203 ∨ b = 2204) ∧ x = i) → Z b x y = Y b x y := fun b x y z => by rw [← hZ, qw_ap, if_neg (by omega), qw_ap, if_neg (by omega), qw_ap, if_neg (by omega)]
      have Z98 : Z 2198 i 0 = st := by rw [← hZ, qw_a (by decide), qw_a (by decide)]; exact qw_s
      have Z03 : Z 2203 i 0 = Y 2184 40 0 := by rw [← hZ, qw_a (by decide)]; exact qw_s
      have Z04 : Z 2204 i 0 = Y 2184 41 0 := by rw [← hZ]; exact qw_s
      have fWZ : ∀ b x y, ¬ (b = 2206 ∨ b = 2207) → ¬ (b = 2184 ∧ 39 ≤ x ∧ x ≤ 43) → ¬ (2198 ≤ b ∧ b ≤ 2204 ∧ x = i) → Z b x y = W b x y := fun b x y z1 z2 z3 => by
        rw [fZ b x y (by omega), fY b x y z1 z2 (by omega)]
        exact fX b x y (by omega)
      have sb := sI_b (g := fun r => b01 (W 2198 r 0 = 1)) i0 (fun _ _ _ => b01_b)
      have sZ : sI (fun r => b01 (Z 2198 r 0 = 1)) (i + 1) = sI (fun r => b01 (W 2198 r 0 = 1)) i + b01 (st = 1) := by
        rw [sI_s i0]
        (try dsimp only)
        rw [Z98]
        congr 1
        exact sI_c (fun k k0 k1 => by (try dsimp only); rw [fWZ 2198 k 0 (by omega) (by omega) (by omega)])
      have eK : qf_X15_run_L9_b 20000 day (sI (fun r => b01 (W 2198 r 0 = 1)) i) i W = some (.inr (day, sI (fun r => b01 (Z 2198 r 0 = 1)) (i + 1), i + 1, Z)) := by
        rw [sZ]
        generalize sI (fun r => b01 (W 2198 r 0 = 1)) i = C at sb ⊢
        unfold qf_X15_run_L9_b qf_X15_run_J94 qbnd
        (try dsimp only)
        rw [if_neg (show ¬ W 2184 5 0 ≤ i by omega), if_pos ci, if_pos ci, if_pos ci, if_pos ci, hX, e2]
        simp only [Option.bind_some]
        rw [if_pos ci, if_pos ci, if_pos ci, if_pos ci, show qw Y 2198 i 0 st 2184 40 0 = Y 2184 40 0 from qw_a (by decide), show qw (qw Y 2198 i 0 st) 2203 i 0 (Y 2184 40 0) 2184 41 0 = Y 2184 41 0 from (qw_a (by decide)).trans (qw_a (by decide)), hZ, Z98, w32_id (x := i + 1) (by omega) (by omega)]
        by_cases g : st = 1
        · rw [if_pos g, b01_t g, w32_id (by omega) (by omega)]
        · rw [if_neg g, b01_f g, w32_id (by omega) (by omega)]
      refine qW_at eC (qW_at eK ⟨B, Z, rfl, rfl, fun b x y z1 z2 z3 => ?_, fun b x y z1 z2 z3 => ?_, ?_, fun r r0 r1 => ?_⟩)
      · rw [fB b x y (by omega) z2 (by omega)]
        exact fA b x y z1 z2 z3
      · rw [fWZ b x y z1 (by omega) (by omega)]
        exact fW b x y z1 z2 z3
      · rw [fWZ _ _ _ (by omega) (by omega) (by omega)]
        exact w18
      · by_cases g : r = i
        · rw [g]
          refine ⟨Z98.trans y0.symm, ?_, ?_, ?_, ?_, Z03.trans y5, Z04.trans y6⟩
          · rw [fZ _ _ _ (by omega)]; exact y1
          · rw [fZ _ _ _ (by omega)]; exact y2
          · rw [fZ _ _ _ (by omega)]; exact y3
          · rw [fZ _ _ _ (by omega)]; exact y4
        · have q := hans r r0 (by omega)
          unfold ANS at q ⊢
          rw [fWZ 2198 _ _ (by omega) (by omega) (by omega), fWZ 2199 _ _ (by omega) (by omega) (by omega), fWZ 2200 _ _ (by omega) (by omega) (by omega), fWZ 2201 _ _ (by omega) (by omega) (by omega), fWZ 2202 _ _ (by omega) (by omega) (by omega), fWZ 2203 _ _ (by omega) (by omega) (by omega), fWZ 2204 _ _ (by omega) (by omega) (by omega), fB 740 r 0 (by omega) (by omega) (by omega), fB 740 r 1 (by omega) (by omega) (by omega), fB 740 r 2 (by omega) (by omega) (by omega), fB 740 r 3 (by omega) (by omega) (by omega), fB 740 r 4 (by omega) (by omega) (by omega), fB 740 r 5 (by omega) (by omega) (by omega), fB 740 r 6 (by omega) (by omega) (by omega)]
          exact q
    · rintro _ _ ⟨A, W, rfl, rfl, fA, fW, w18, hans⟩
      (try dsimp only)
      have cA : A 735 0 0 = ρ := (fA _ _ _ (by omega) (by omega) (by omega)).trans hρ
      have cW : W 2184 5 0 = ρ := by rw [fW _ _ _ (by omega) (by omega) (by omega), fK1 _ _ _ (by omega)]; exact l2
      have eC : qf_X7_askAll_L2_b 20000 day ρ A = some (.inl (.inr ((), A))) := by
        unfold qf_X7_askAll_L2_b
        rw [if_pos (show A 735 0 0 ≤ ρ by omega)]
      have eK : qf_X15_run_L9_b 20000 day (sI (fun r => b01 (W 2198 r 0 = 1)) ρ) ρ W = some (.inl (.inr (sI (fun r => b01 (W 2198 r 0 = 1)) ρ, W))) := by
        unfold qf_X15_run_L9_b
        rw [if_pos (show W 2184 5 0 ≤ ρ by omega)]
      exact qW_at eC (qW_at eK ⟨A, W, rfl, rfl, fA, fW, w18, hans⟩)
  obtain ⟨B, hB⟩ : ∃ B, qw A 735 1 0 1 = B := ⟨_, rfl⟩
  have fB : ∀ b x y, ¬ (b = 735 ∧ x = 1) → B b x y = A b x y := fun b x y z => by rw [← hB, qw_ap, if_neg (by omega)]
  refine ⟨B, W, _, ?_, ?_, fun b x y z1 z2 z3 => ?_, fun b x y z1 z2 z3 => ?_, by rw [← hB]; exact qw_s, hans.1, fun r r0 r1 => ?_, rfl⟩
  · unfold qf_X7_askAll
    rw [eo]
    simp only [Option.bind_some]
    unfold qbnd
    rw [hB]
  · unfold qf_X15_run qbnd
    rw [hK1]
    (try dsimp only)
    rw [ep]
    rfl
  · rw [fB b x y (by omega)]
    exact fA b x y z1 z2 z3
  · rw [fW b x y z1 z2 z3]
    exact fK1 b x y (by omega)
  · have q := hans.2 r r0 r1
    unfold ANS at q ⊢
    rw [fB _ _ _ (by omega), fB _ _ _ (by omega), fB _ _ _ (by omega), fB _ _ _ (by omega), fB _ _ _ (by omega), fB _ _ _ (by omega), fB _ _ _ (by omega)]
    exact q
theorem countB_C (h : M 735 0 0 = n) (n0 : 0 ≤ n) (n1 : n ≤ 12) : qf_X7_countBroken 20000 M = some (sI (fun r => b01 (M 740 r 0 = 1)) n) := by
  refine qW_e ?_
  unfold qf_X7_countBroken qf_X7_countBroken_L4
  refine qW_call (Q := fun o => o = .inr (sI (fun r => b01 (M 740 r 0 = 1)) n)) ?_ (fun o ho => by rw [ho]; exact qW_some rfl)
  refine qW_for n (fun i s => s = (sI (fun r => b01 (M 740 r 0 = 1)) i, i)) ?_ ?_ rfl n0 (by omega)
  · rintro i _ i0 i1 rfl
    have sb := sI_b (g := fun r => b01 (M 740 r 0 = 1)) i0 (fun _ _ _ => b01_b)
    have ss := sI_s (f := fun r => b01 (M 740 r 0 = 1)) i0
    (try dsimp only at ss)
    rw [ss]
    generalize sI (fun r => b01 (M 740 r 0 = 1)) i = C at sb ⊢
    unfold qf_X7_countBroken_L4_b qf_X7_countBroken_J31
    (try dsimp only)
    rw [if_neg (show ¬ M 735 0 0 ≤ i by omega), if_pos (show 0 ≤ i ∧ i < 12 by omega), w32_id (x := i + 1) (by omega) (by omega)]
    by_cases g : M 740 i 0 = 1
    · rw [if_pos g, b01_t g, w32_id (by omega) (by omega)]
      exact qW_some rfl
    · rw [if_neg g, b01_f g, w32_id (by omega) (by omega)]
      exact qW_some rfl
  · rintro _ rfl
    unfold qf_X7_countBroken_L4_b
    (try dsimp only)
    rw [if_pos (show M 735 0 0 ≤ n by omega)]
    exact qW_some rfl
/-- what the rules' relations are behind an asking -/
theorem after_run (h_rulen : R_rulen M K) (hR : RLS M K) (d0 : 0 ≤ day) (fA : FAC M A) (fW : FAK K W) (a1 : A 735 1 0 = 1) (w18 : W 2184 18 0 = day) (ha : ∀ r, 0 ≤ r → r < M 735 0 0 → ANS A W r) : R_rulen A W ∧ R_answers A W ∧ RLS A W := by
  have s_rulen := h_rulen
  unfold R_rulen at s_rulen
  have c0 : A 735 0 0 = M 735 0 0 := fA _ _ _ (by omega) (by omega) (by omega)
  refine ⟨?_, fun _ r r0 r1 => ?_, ?_⟩
  · unfold R_rulen
    rw [c0, a1, w18, fW 2184 5 0 (by omega) (by omega) (by omega)]
    exact ⟨s_rulen.1, s_rulen.2.1, s_rulen.2.2.1, Or.inr ⟨rfl, d0⟩⟩
  · rw [c0] at r1
    exact ha r r0 r1
  · exact RLS_o hR s_rulen.2.1 (fun b x y h => fA b x y (by omega) (by omega) (by omega)) (fun b x y h => fW b x y (by omega) (by omega) (by omega))
theorem op_check (h_rulen : R_rulen M K) (h_answers : R_answers M K) (fc : FC3 M K) (hR : RLS M K) : oK2 cI (qf_L_check 20000 day M) (qf_X18_check 20000 day K) (fun M' K' => R_rulen M' K' ∧ R_answers M' K' ∧ RLS M' K') := by
  have s_rulen := h_rulen
  unfold R_rulen at s_rulen
  unfold oK2 qf_L_check qf_X11_check qf_X18_check
  by_cases g : 0 ≤ day ∧ day ≤ 1000000
  · have eW : qf_X11_isWithin 20000 day 0 1000000 M = some 1 := by
      unfold qf_X11_isWithin
      rw [if_neg (by omega), if_neg (by omega)]
    have eD : qf_X18_isDay 20000 day K = some 1 := by
      unfold qf_X18_isDay
      rw [if_neg (by omega), if_neg (by omega)]
    obtain ⟨K1, hK1⟩ : ∃ X, qw K 2156 0 0 0 = X := ⟨_, rfl⟩
    have fK1 : ∀ b x y, b ≠ 2156 → K1 b x y = K b x y := fun b x y z => by rw [← hK1]; exact qw_a z
    have eG : qf_X18_goes 20000 1 1 K = some (1, K1) := by
      unfold qf_X18_goes
      rw [if_neg (by decide), if_neg (by decide)]
      unfold qf_X18_goes_J18 qbnd
      rw [hK1]
      (try dsimp only)
      rw [if_pos (by rw [← hK1]; exact qw_s)]
    have r1 : R_rulen M K1 := by
      unfold R_rulen
      rw [fK1 2184 5 0 (by decide), fK1 2184 18 0 (by decide)]
      exact s_rulen
    have fc1 : FC3 M K1 := fc3_x fc (fun _ _ _ _ => rfl) (fun b x y z => fK1 b x y (by omega))
    have hR1 : RLS M K1 := RLS_o hR s_rulen.2.1 (fun _ _ _ _ => rfl) (fun b x y z => fK1 b x y (by omega))
    obtain ⟨A, W, v, e1, e2, fA, fW, a1, w18, ha, hv⟩ := runs_both r1 fc1 hR1 g.1 g.2
    have q := after_run r1 hR1 g.1 fA fW a1 w18 ha
    have c0 : A 735 0 0 = M 735 0 0 := fA _ _ _ (by omega) (by omega) (by omega)
    have eN := countB_C c0 s_rulen.1 s_rulen.2.1
    have ev : sI (fun r => b01 (A 740 r 0 = 1)) (M 735 0 0) = v := by
      rw [hv]
      exact sI_c (fun r r0 r1 => by (try dsimp only); rw [(ha r r0 r1).1])
    rw [ev] at eN
    have e3 : qf_X11_check 20000 day M = some (.inl v, A) := by
      unfold qf_X11_check
      rw [eW]
      simp only [Option.bind_some]
      unfold qf_X11_needArgument
      rw [if_neg (show ¬ (1 : Int) = 0 by decide)]
      simp only [Option.bind_some]
      rw [e1]
      simp only [Option.bind_some]
      rw [eN]
      rfl
    have e4 : qf_X18_check 20000 day K = some (v, W) := by
      unfold qf_X18_check
      rw [eD]
      simp only [Option.bind_some]
      rw [eG]
      simp only [Option.bind_some]
      rw [if_neg (by decide), e2]
      rfl
    refine qW_eq e3 ?_
    (try dsimp only)
    refine qW_bnd (qW_some (qW_at e4 ?_))
    (try dsimp only)
    refine ⟨?_, fun _ => qw_s, ?_, ?_, ?_⟩
    · rw [fW 2156 0 0 (by omega) (by omega) (by omega), ← hK1]
      exact qw_s
    · have q1 := q.1
      unfold R_rulen at q1 ⊢
      rw [qw_a (by decide), qw_a (by decide)]
      exact q1
    · intro h r r0 r1
      rw [qw_a (by decide)] at h r1
      have q2 := q.2.1 h r r0 r1
      rw [qw_a (by decide), qw_a (by decide), qw_a (by decide), qw_a (by decide), qw_a (by decide), qw_a (by decide), qw_a (by decide)]
      exact q2
    · have q1 := q.1
      unfold R_rulen at q1
      exact RLS_o q.2.2 q1.2.1 (fun b x y h => qw_a (by omega)) (fun _ _ _ _ => rfl)
  · have eW : qf_X11_isWithin 20000 day 0 1000000 M = some 0 := by
      unfold qf_X11_isWithin
      by_cases g1 : day < 0
      · rw [if_pos g1]
      · rw [if_neg g1, if_pos (by omega)]
    have eD : qf_X18_isDay 20000 day K = some 0 := by
      unfold qf_X18_isDay
      by_cases g1 : day < 0
      · rw [if_pos g1]
      · rw [if_neg g1, if_pos (by omega)]
    have eG : qf_X18_goes 20000 0 1 K = some (0, qw K 2156 0 0 1) := by
      unfold qf_X18_goes
      rw [if_pos rfl]
      unfold qf_X18_goes_J18 qbnd
      rfl
    have e3 : qf_X11_check 20000 day M = some (.inr "java/lang/IllegalArgumentException", M) := by
      unfold qf_X11_check
      rw [eW]
      simp only [Option.bind_some]
      unfold qf_X11_needArgument
      rw [if_pos rfl]
      rfl
    have e4 : qf_X18_check 20000 day K = some (0, qw K 2156 0 0 1) := by
      unfold qf_X18_check
      rw [eD]
      simp only [Option.bind_some]
      rw [eG]
      simp only [Option.bind_some]
      (first | rw [if_pos trivial] | rw [if_pos rfl])
    refine qW_eq e3 ?_
    (try dsimp only)
    rw [if_pos rfl]
    refine qW_some (qW_at e4 ?_)
    (try dsimp only)
    refine ⟨qw_s, fun z => absurd z (by decide), ?_, ?_, ?_⟩
    · unfold R_rulen
      rw [qw_a (by decide), qw_a (by decide)]
      exact s_rulen
    · intro h r r0 r1
      have q2 := h_answers h r r0 r1
      rw [qw_a (by decide), qw_a (by decide), qw_a (by decide), qw_a (by decide), qw_a (by decide), qw_a (by decide), qw_a (by decide)]
      exact q2
    · exact RLS_o hR s_rulen.2.1 (fun _ _ _ _ => rfl) (fun b x y z => qw_a (by omega))
end ASb
