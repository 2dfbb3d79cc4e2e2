/-! ===== the call build ===== -/
section ASc
variable {M K A W B X M0 K0 : qm} {a b c d n p r x y day i : Int}
theorem refus_both (l0 : 0 ≤ n) (l1 : n ≤ 12) (hA : A 735 0 0 = n) (hW : W 2184 5 0 = n) (ha : ∀ r, 0 ≤ r → r < n → ANS A W r) : ∃ r, qf_X7_firstRefusing 20000 A = some r ∧ ((r = -1 ∧ qf_X18_build_L68 20000 20000 0 W = some (.inr ())) ∨ (0 ≤ r ∧ r < n ∧ qf_X18_build_L68 20000 20000 0 W = some (.inl (w32 (-1 - r))))) := by
  obtain ⟨o, e1, p, e2, h⟩ : qW (qf_X7_firstRefusing_L2 20000 20000 0 A) (fun o => qW (qf_X18_build_L68 20000 20000 0 W) (fun p => (o = .inr () ∧ p = .inr ()) ∨ ∃ r, 0 ≤ r ∧ r < n ∧ o = .inl r ∧ p = .inl (w32 (-1 - r)))) := by
    unfold qf_X7_firstRefusing_L2 qf_X18_build_L68
    refine qW_for2 n (fun i s t => s = i ∧ t = i) ?_ ?_ ⟨rfl, rfl⟩ l0 (by omega)
    · rintro i s t i0 i1 ⟨es, et⟩
      rw [es, et]
      have ci : 0 ≤ i ∧ i < 12 := by omega
      have q := (ha i i0 i1).1
      have eC : qf_X7_firstRefusing_L2_b 20000 i A = if A 740 i 0 = 1 then some (.inl (.inl i)) else if A 740 i 0 = 3 then some (.inl (.inl i)) else some (.inr (i + 1)) := by
        unfold qf_X7_firstRefusing_L2_b
        rw [if_neg (show ¬ A 735 0 0 ≤ i by omega), if_pos ci, w32_id (x := i + 1) (by omega) (by omega)]
        by_cases g : A 740 i 0 = 1
        · rw [if_pos g, if_pos g]
        · rw [if_neg g, if_neg g, if_pos ci]
      have eK : qf_X18_build_L68_b 20000 i W = if A 740 i 0 = 1 then some (.inl (.inl (w32 (-1 - i)))) else if A 740 i 0 = 3 then some (.inl (.inl (w32 (-1 - i)))) else some (.inr (i + 1)) := by
        unfold qf_X18_build_L68_b
        rw [if_neg (show ¬ W 2184 5 0 ≤ i by omega), if_pos ci, q, w32_id (x := i + 1) (by omega) (by omega)]
        by_cases g : A 740 i 0 = 1
        · rw [if_pos g, if_pos g]
        · rw [if_neg g, if_neg g, if_pos ci]
      rw [eC, eK]
      by_cases g : A 740 i 0 = 1
      · rw [if_pos g, if_pos g]
        exact qW_some (qW_some (Or.inr ⟨i, i0, i1, rfl, rfl⟩))
      · rw [if_neg g, if_neg g]
        by_cases g2 : A 740 i 0 = 3
        · rw [if_pos g2, if_pos g2]
          exact qW_some (qW_some (Or.inr ⟨i, i0, i1, rfl, rfl⟩))
        · rw [if_neg g2, if_neg g2]
          exact qW_some (qW_some ⟨rfl, rfl⟩)
    · rintro s t ⟨es, et⟩
      rw [es, et]
      unfold qf_X7_firstRefusing_L2_b qf_X18_build_L68_b
      (try dsimp only)
      rw [if_pos (show A 735 0 0 ≤ n by omega), if_pos (show W 2184 5 0 ≤ n by omega)]
      exact qW_some (qW_some (Or.inl ⟨rfl, rfl⟩))
  unfold qf_X7_firstRefusing
  rw [e1]
  rcases h with ⟨rfl, rfl⟩ | ⟨r, r0, r1, rfl, rfl⟩
  · exact ⟨-1, rfl, Or.inl ⟨rfl, e2⟩⟩
  · exact ⟨r, rfl, Or.inr ⟨r0, r1, e2⟩⟩
/-- only rules' answers and the calls' own cells have changed -/
def FBC (M A : qm) : Prop := ∀ b x y, ¬ (b = 735 ∧ (x = 1 ∨ (11 ≤ x ∧ x ≤ 15))) → b ≠ 753 → b ≠ 740 → b ≠ 2332 → A b x y = M b x y
def FBK (K W : qm) : Prop := ∀ b i j, ¬ (b = 2206 ∨ b = 2207) → ¬ (b = 2184 ∧ (i = 18 ∨ (39 ≤ i ∧ i ≤ 43))) → ¬ (2198 ≤ b ∧ b ≤ 2204) → ¬ (b = 2156 ∧ i = 0) → W b i j = K b i j
theorem BLT_n (h : BLT M K A B) (v : Int) : BLT (qw M 2332 0 0 v) K (qw A 2332 0 0 v) B := by
  obtain ⟨⟨r1, r2, r3, r4, r5⟩, ⟨q1, q2, q3, q4, q5, q6, q7⟩, fA, fB, zA, oA, b1, b2⟩ := h
  have o : ∀ (a : Nat) (x i j : Int), a ≠ 2332 → qw A 2332 0 0 v a i j = A a i j := fun a x i j ha => qw_a ha
  have f : ∀ (a : Nat) (i j : Int), a ≠ 2332 → qw A 2332 0 0 v a i j = A a i j := fun a i j ha => qw_a ha
  have g : ∀ (a : Nat) (i j : Int), B a i j = B a i j := fun _ _ _ => rfl
  refine ⟨⟨?_, ?_, ?_, ?_, ?_⟩, ⟨?_, ?_, ?_, ?_, ?_, ?_, ?_⟩, fun b i j h1 h2 h3 h4 h5 h6 h7 h8 => ?_, fB, fun i i0 => ?_, fun i hi => ?_, ?_, fun j j0 j1 => ?_⟩
  · unfold R_built at r1 ⊢
    rw [f 6 _ _ (by decide)]
    exact r1
  · unfold R_rooms at r2 ⊢
    (try rw [f 6 _ _ (by decide)])
    (try rw [f 51 _ _ (by decide)])
    exact r2
  · unfold R_mpoints at r3 ⊢
    (try rw [f 1172 _ _ (by decide)])
    (try rw [f 6 _ _ (by decide)])
    exact r3
  · exact (R_walk_x (qw_a (by decide)) (fun _ _ => qw_a (by decide)) (fun _ _ => rfl) r4)
  · exact (R_spaceof_x (qw_a (by decide)) (qw_a (by decide)) (fun _ _ => qw_a (by decide)) (fun _ _ => rfl) r5)
  · exact (R_portn_x (qw_a (by decide)) (qw_a (by decide)) (qw_a (by decide)) (fun _ _ => qw_a (by decide)) (fun _ _ => qw_a (by decide)) (fun _ _ => qw_a (by decide)) rfl q1)
  · exact (R_portw_x (qw_a (by decide)) (qw_a (by decide)) (fun _ _ => qw_a (by decide)) rfl (fun _ _ => rfl) (fun _ _ => rfl) (fun _ _ => rfl) (fun _ _ => rfl) q2)
  · exact (R_portc_x (qw_a (by decide)) (fun _ _ => qw_a (by decide)) (fun _ _ => rfl) (fun _ _ => rfl) (fun _ _ => rfl) (fun _ _ => rfl) (fun _ _ => rfl) (fun _ _ => rfl) q3)
  · exact (R_porto_x (qw_a (by decide)) (qw_a (by decide)) (fun _ _ => qw_a (by decide)) (fun _ _ => rfl) (fun _ _ => rfl) (fun _ _ => rfl) q4)
  · exact (R_portk_x (qw_a (by decide)) (qw_a (by decide)) (fun _ _ => qw_a (by decide)) (fun _ _ => rfl) (fun _ _ => rfl) q5)
  · exact (R_portr_x (qw_a (by decide)) (qw_a (by decide)) (fun _ _ => qw_a (by decide)) (fun _ _ => rfl) (fun _ _ => rfl) (fun _ _ => rfl) (fun _ _ => rfl) (fun _ _ => rfl) (fun _ _ => rfl) q6)
  · exact (R_portq_x (fun _ _ => qw_a (by decide)) (qw_a (by decide)) (fun _ _ => qw_a (by decide)) rfl q7)
  · by_cases e : b = 2332
    · by_cases e2 : b = 2332 ∧ i = 0 ∧ j = 0
      · rw [qw_ap, if_pos e2, qw_ap, if_pos e2]
      · rw [qw_ap, if_neg e2, qw_ap, if_neg e2]
        exact fA b i j h1 h2 h3 h4 h5 h6 h7 h8
    · rw [qw_a e, qw_a e]
      exact fA b i j h1 h2 h3 h4 h5 h6 h7 h8
  · rw [f 827 _ _ (by decide)]
    exact zA i i0
  · rw [f 824 _ _ (by decide), qw_a (by decide)]
    exact oA i hi
  · rw [f 6 _ _ (by decide)]
    exact b1
  · rw [f 759 _ _ (by decide)]
    exact b2 j j0 j1
theorem op_build (h_built : R_built M K) (h_lines : R_lines M K) (h_ends : R_ends M K) (h_doorn : R_doorn M K) (h_doors : R_doors M K) (h_find0 : R_find0 M K) (h_spaces : R_spaces M K) (h_rulen : R_rulen M K) (h_answers : R_answers M K) (h_portn : R_portn M K) (h_zport : R_zport M K) (h_znum : R_znum M K) (fc : FC3 M K) (hR : RLS M K) (hF : FND M K) (hp : 0 ≤ M 6 12 0) : oK2 cI (qf_L_build 20000 day M) (qf_X18_build 20000 day K) (fun M' K' => R_rulen M' K' ∧ R_answers M' K' ∧ RLS M' K' ∧ ((FBC M M' ∧ FBK K K') ∨ (M 6 11 0 = 0 ∧ ∃ A W, FBC M A ∧ FBK K W ∧ BLT A W M' K'))) := by
  have s_rulen := h_rulen
  unfold R_rulen at s_rulen
  have s_built := h_built
  unfold R_built at s_built
  have s_find := h_find0
  unfold R_find0 at s_find
  have s_spaces := h_spaces
  unfold R_spaces at s_spaces
  have bb : ∀ {α β : Type} (a : α) (f : α → Option β), (some a).bind f = f a := fun _ _ => rfl
  -- the state is not right
  have exc : ∀ (X : String) (e : Int), qf_X11_build 20000 day M = some (.inr X, M) → qf_X18_build 20000 day K = some (0, qw K 2156 0 0 e) → ((X = "java/lang/IllegalArgumentException" ∧ e = 1) ∨ (X = "java/lang/IllegalStateException" ∧ e = 2)) → oK2 cI (qf_L_build 20000 day M) (qf_X18_build 20000 day K) (fun M' K' => R_rulen M' K' ∧ R_answers M' K' ∧ RLS M' K' ∧ ((FBC M M' ∧ FBK K K') ∨ (M 6 11 0 = 0 ∧ ∃ A W, FBC M A ∧ FBK K W ∧ BLT A W M' K'))) := fun X e e1 e2 hX => by
    have z : qf_L_build 20000 day M = some (e, M) := by
      unfold qf_L_build
      rw [e1, bb]
      (try dsimp only)
      rcases hX with ⟨rfl, rfl⟩ | ⟨rfl, rfl⟩
      · rw [if_pos rfl]
      · rw [if_neg (by decide), if_pos rfl]
    have ez : e ≠ 0 := by omega
    refine qW_at z (qW_at e2 ?_)
    (try dsimp only)
    refine ⟨qw_s, fun y => absurd y ez, ?_, ?_, ?_, Or.inl ⟨fun _ _ _ _ _ _ _ => rfl, fun b i j _ _ _ h4 => ?_⟩⟩
    · unfold R_rulen
      rw [qw_a (by decide), qw_a (by decide)]
      exact s_rulen
    · intro h r r0 r1
      have q2 := h_answers h r r0 r1
      rw [qw_a (by decide), qw_a (by decide), qw_a (by decide), qw_a (by decide), qw_a (by decide), qw_a (by decide), qw_a (by decide)]
      exact q2
    · exact RLS_o hR s_rulen.2.1 (fun _ _ _ _ => rfl) (fun b x y z => qw_a (by omega))
    · rw [qw_ap, if_neg (by omega)]
  have stC : qf_X11_build 20000 day M = (if 0 ≤ day ∧ day ≤ 1000000 then (if M 6 11 0 = 0 ∧ M 51 2 0 = 1 ∧ 1 ≤ M 51 3 0 ∧ M 51 3 0 ≤ 40 then qf_X11_build_J48 20000 day 1 M else qf_X11_build_J48 20000 day 0 M) else some (.inr "java/lang/IllegalArgumentException", M)) := by
    unfold qf_X11_build qf_X11_build_J47
    rw [within_e, bb]
    by_cases g : 0 ≤ day ∧ day ≤ 1000000
    · rw [b01_t g, na1, bb, if_pos g]
      (try dsimp only)
      by_cases g1 : M 6 11 0 = 0
      · rw [if_pos g1]
        by_cases g2 : M 51 2 0 = 0
        · rw [if_pos g2, if_neg (by omega)]
        · rw [if_neg g2, within_e, bb]
          by_cases g3 : 1 ≤ M 51 3 0 ∧ M 51 3 0 ≤ 40
          · rw [b01_t g3, if_neg (show ¬ (1 : Int) = 0 by decide), if_pos ⟨g1, by omega, g3.1, g3.2⟩]
          · rw [b01_f g3, if_pos rfl, if_neg (by omega)]
      · rw [if_neg g1, if_neg (by omega)]
    · rw [b01_f g, na0, bb, if_neg g]
  have stK : qf_X18_build 20000 day K = qf_X18_build_J49 20000 day (b01 (0 ≤ day ∧ day ≤ 1000000)) (if M 6 11 0 = 0 ∧ M 51 2 0 = 1 ∧ 1 ≤ M 51 3 0 ∧ M 51 3 0 ≤ 40 then 1 else 0) K := by
    have eD : qf_X18_isDay 20000 day K = some (b01 (0 ≤ day ∧ day ≤ 1000000)) := by
      unfold qf_X18_isDay
      by_cases g1 : day < 0
      · rw [if_pos g1, b01_f (by omega)]
      · rw [if_neg g1]
        by_cases g2 : 1000000 < day
        · rw [if_pos g2, b01_f (by omega)]
        · rw [if_neg g2, b01_t (by omega)]
    unfold qf_X18_build qf_X18_build_J48
    rw [eD, bb]
    by_cases g1 : M 6 11 0 = 0
    · rw [if_pos (show K 2156 1 0 = 0 by omega)]
      by_cases g2 : M 51 2 0 = 0
      · rw [if_pos (show K 2157 10 0 = 0 by omega), if_neg (by omega)]
      · rw [if_neg (show ¬ K 2157 10 0 = 0 by omega)]
        by_cases g3 : M 51 3 0 ≤ 0
        · rw [if_pos (show K 2157 17 0 ≤ 0 by omega), if_neg (by omega)]
        · rw [if_neg (show ¬ K 2157 17 0 ≤ 0 by omega)]
          by_cases g4 : 40 < M 51 3 0
          · rw [if_pos (show 40 < K 2157 17 0 by omega), if_neg (by omega)]
          · rw [if_neg (show ¬ 40 < K 2157 17 0 by omega), if_pos (show M 6 11 0 = 0 ∧ M 51 2 0 = 1 ∧ 1 ≤ M 51 3 0 ∧ M 51 3 0 ≤ 40 from ⟨g1, by omega, by omega, by omega⟩)]
    · rw [if_neg (show ¬ K 2156 1 0 = 0 by omega), if_neg (by omega)]
  by_cases g : 0 ≤ day ∧ day ≤ 1000000
  · rw [if_pos g] at stC
    rw [b01_t g] at stK
    by_cases c : M 6 11 0 = 0 ∧ M 51 2 0 = 1 ∧ 1 ≤ M 51 3 0 ∧ M 51 3 0 ≤ 40
    · rw [if_pos c] at stC stK
      obtain ⟨K1, hK1⟩ : ∃ X, qw K 2156 0 0 0 = X := ⟨_, rfl⟩
      have fK1 : ∀ b x y, ¬ (b = 2156 ∧ x = 0) → K1 b x y = K b x y := fun b x y z => by rw [← hK1, qw_ap, if_neg (by omega)]
      have r1 : R_rulen M K1 := by
        unfold R_rulen
        rw [fK1 2184 5 0 (by omega), fK1 2184 18 0 (by omega)]
        exact s_rulen
      have fc1 : FC3 M K1 := fc3_x fc (fun _ _ _ _ => rfl) (fun b x y z => fK1 b x y (by omega))
      have hR1 : RLS M K1 := RLS_o hR s_rulen.2.1 (fun _ _ _ _ => rfl) (fun b x y z => fK1 b x y (by omega))
      obtain ⟨A, W, v, e1, e2, fA, fW, a1, w18, ha, hv⟩ := runs_both r1 fc1 hR1 g.1 g.2
      have q := after_run r1 hR1 g.1 fA fW a1 w18 ha
      have fKW : FBK K W := fun b i j z1 z2 z3 z4 => by
        rw [fW b i j z1 z2 z3]
        exact fK1 b i j z4
      have c0 : A 735 0 0 = M 735 0 0 := fA _ _ _ (by omega) (by omega) (by omega)
      obtain ⟨r, e3, hr⟩ := refus_both s_rulen.1 s_rulen.2.1 c0 ((fKW _ _ _ (by omega) (by omega) (by omega) (by omega)).trans s_rulen.2.2.1) ha
      have W00 : W 2156 0 0 = 0 := by
        rw [fW _ _ _ (by omega) (by omega) (by omega), ← hK1]
        exact qw_s
      have tC : qf_X11_build 20000 day M = if r = -1 then blC A else some (.inl (w32 (-1 - r)), A) := by
        rw [stC]
        unfold qf_X11_build_J48
        rw [ns1, bb]
        (try dsimp only)
        rw [e1, bb]
        (try dsimp only)
        rw [e3, bb]
        rfl
      have tK : qf_X18_build 20000 day K = (qf_X18_build_L68 20000 20000 0 W).bind (fun r => (match r with | .inl o => some (o, W) | .inr _ => blK W)) := by
        rw [stK]
        unfold qf_X18_build_J49
        rw [go3, hK1, bb]
        (try dsimp only)
        rw [if_neg (by decide), e2, bb]
        rfl
      rcases hr with ⟨rm, el⟩ | ⟨r0, r1', el⟩
      · rw [if_pos rm] at tC
        rw [el, bb] at tK
        (try dsimp only at tK)
        -- what is found stands for both
        have o6 : ∀ b i j, b ≠ 735 → b ≠ 753 → b ≠ 740 → A b i j = M b i j := fun b i j z1 z2 z3 => fA b i j (by omega) z2 z3
        have o7 : ∀ b i j, b ≠ 2206 → b ≠ 2207 → b ≠ 2184 → ¬ (2198 ≤ b ∧ b ≤ 2204) → ¬ (b = 2156 ∧ i = 0) → W b i j = K b i j := fun b i j z1 z2 z3 z4 z5 => fKW b i j (by omega) (by omega) z4 z5
        have g1 : R_lines A W := R_lines_x (o6 _ _ _ (by decide) (by decide) (by decide)) (o7 _ _ _ (by decide) (by decide) (by decide) (by decide) (by decide)) h_lines
        have fnd : FND A W := FND_o hF (fun b i j z => o6 b i j (by omega) (by omega) (by omega)) (fun b i z => o7 b i 0 (by omega) (by omega) (by omega) (by omega) (by omega))
        have cur1 : A 51 2 0 = 1 := (o6 _ _ _ (by decide) (by decide) (by decide)).trans c.2.1
        have sp1 : A 51 3 0 = M 51 3 0 := o6 _ _ _ (by decide) (by decide) (by decide)
        rcases fnd with ⟨_, y⟩ | ⟨_, M0, K0, A0, D0, D, E, F, G, H, C, q', m, p, R, stt, cnt, w⟩
        · omega
        have hc : CUR A M0 := w.2.2.2.2.2 cur1
        have sD : A 51 3 0 = D 51 3 0 := by
          rw [w.2.1 51 3 0 (by omega)]
          exact w.1.2.2.2.2.2.2.2.2.2.1 51 3 0 (by decide) (by decide) (by decide) (by decide) (by omega)
        have hO : OWR A (A 51 3 0) := fun v v0 v1 => by
          rw [sD, fnw_oF w]
          exact w.1.2.2.2.2.2.2.2.1.2.2.1 v v0 v1
        have g2 : R_ends A W := (R_ends_x (o6 _ _ _ (by decide) (by decide) (by decide)) (fun _ _ => o6 _ _ _ (by decide) (by decide) (by decide)) (fun _ _ => o7 _ _ _ (by decide) (by decide) (by decide) (by decide) (by omega)) (fun _ _ => o7 _ _ _ (by decide) (by decide) (by decide) (by decide) (by omega)) (fun _ _ => o7 _ _ _ (by decide) (by decide) (by decide) (by decide) (by omega)) (fun _ _ => o7 _ _ _ (by decide) (by decide) (by decide) (by decide) (by omega)) h_ends)
        have g3 : R_doorn A W := (R_doorn_x (o6 _ _ _ (by decide) (by decide) (by decide)) (fun _ _ => o6 _ _ _ (by decide) (by decide) (by decide)) (fun _ _ => o7 _ _ _ (by decide) (by decide) (by decide) (by decide) (by omega)) h_doorn)
        have g4 : R_doors A W := (R_doors_x (fun _ _ => o6 _ _ _ (by decide) (by decide) (by decide)) (fun _ _ => o6 _ _ _ (by decide) (by decide) (by decide)) (fun _ _ => o7 _ _ _ (by decide) (by decide) (by decide) (by decide) (by omega)) (fun _ _ => o7 _ _ _ (by decide) (by decide) (by decide) (by decide) (by omega)) (fun _ _ => o7 _ _ _ (by decide) (by decide) (by decide) (by decide) (by omega)) (fun _ _ => o7 _ _ _ (by decide) (by decide) (by decide) (by decide) (by omega)) h_doors)
        have g5 : R_spaces A W := (R_spaces_x (o6 _ _ _ (by decide) (by decide) (by decide)) (o6 _ _ _ (by decide) (by decide) (by decide)) (o7 _ _ _ (by decide) (by decide) (by decide) (by decide) (by decide)) h_spaces)
        obtain ⟨v, A2, W2, e4, e5, bl⟩ := built_both g1 g2 g3 g4 g5 w hc (by omega) (by omega) hO (by rw [o6 _ _ _ (by decide) (by decide) (by decide)]; exact hp) (fun j j0 j1 => by
          have z := h_zport c.1 j j0 j1
          rw [o7 2294 _ _ (by decide) (by decide) (by decide) (by decide) (by omega), o7 2295 _ _ (by decide) (by decide) (by decide) (by decide) (by omega), o7 2296 _ _ (by decide) (by decide) (by decide) (by decide) (by omega), o7 2298 _ _ (by decide) (by decide) (by decide) (by decide) (by omega)]
          exact z) (fun i i0 i1 => by
          rw [o7 2328 _ _ (by decide) (by decide) (by decide) (by decide) (by omega)]
          exact h_znum c.1 i i0 i1) (by
          rw [o7 2156 10 0 (by decide) (by decide) (by decide) (by decide) (by omega)]
          have z := h_portn
          unfold R_portn at z
          have := z.2.2.2.2.2.2.2 c.1
          omega)
        rw [e4] at tC
        rw [e5] at tK
        have z : qf_L_build 20000 day M = some (0, qw A2 2332 0 0 v) := by
          unfold qf_L_build
          rw [tC, bb]
          rfl
        have bl2 := BLT_n bl v
        have fA2 := bl2.2.2.1
        have fW2 := bl2.2.2.2.1
        have fc2 : ∀ b i j, ¬ (b = 6 ∧ i = 11) → b ≠ 759 → b ≠ 760 → b ≠ 824 → b ≠ 825 → b ≠ 826 → b ≠ 827 → ¬ (b = 1172 ∧ i = 2) → b ≠ 2332 → qw A2 2332 0 0 v b i j = A b i j := fun b i j h1 h2 h3 h4 h5 h6 h7 h8 h9 => by
          rw [fA2 b i j h1 h2 h3 h4 h5 h6 h7 h8]
          exact qw_a h9
        have q1 := q.1
        unfold R_rulen at q1
        refine qW_at z (qW_at tK ?_)
        (try dsimp only)
        refine ⟨?_, fun _ => qw_s, ?_, ?_, ?_, Or.inr ⟨c.1, qw A 2332 0 0 v, W, fun b x y z1 z2 z3 z4 => by rw [qw_a z4]; exact fA b x y z1 z2 z3, fKW, bl2⟩⟩
        · rw [fW2 _ _ _ (by omega) (by omega) (by omega) (by omega) (by omega) (by omega)]
          exact W00
        · unfold R_rulen
          rw [fc2 735 0 0 (by omega) (by omega) (by omega) (by omega) (by omega) (by omega) (by omega) (by omega) (by omega), fc2 735 1 0 (by omega) (by omega) (by omega) (by omega) (by omega) (by omega) (by omega) (by omega) (by omega), fW2 2184 5 0 (by omega) (by omega) (by omega) (by omega) (by omega) (by omega), fW2 2184 18 0 (by omega) (by omega) (by omega) (by omega) (by omega) (by omega)]
          exact q1
        · intro h r r0 r1
          rw [fc2 735 1 0 (by omega) (by omega) (by omega) (by omega) (by omega) (by omega) (by omega) (by omega) (by omega)] at h
          rw [fc2 735 0 0 (by omega) (by omega) (by omega) (by omega) (by omega) (by omega) (by omega) (by omega) (by omega)] at r1
          have q2 := q.2.1 h r r0 r1
          have f7 : ∀ y, qw A2 2332 0 0 v 740 r y = A 740 r y := fun y => fc2 740 r y (by omega) (by omega) (by omega) (by omega) (by omega) (by omega) (by omega) (by omega) (by omega)
          have f8 : ∀ b : Nat, 2198 ≤ b → b ≤ 2204 → W2 b r 0 = W b r 0 := fun b b0 b1 => fW2 b r 0 (by omega) (by omega) (by omega) (by omega) (by omega) (by omega)
          rw [f7, f7, f7, f7, f7, f7, f7, f8 2198 (by decide) (by decide), f8 2199 (by decide) (by decide), f8 2200 (by decide) (by decide), f8 2201 (by decide) (by decide), f8 2202 (by decide) (by decide), f8 2203 (by decide) (by decide), f8 2204 (by decide) (by decide)]
          exact q2
        · exact RLS_o q.2.2 q1.2.1 (fun b x y h => fc2 b x y (by omega) (by omega) (by omega) (by omega) (by omega) (by omega) (by omega) (by omega) (by omega)) (fun b x y h => fW2 b x y (by omega) (by omega) (by omega) (by omega) (by omega) (by omega))
      · rw [if_neg (by omega)] at tC
        rw [el, bb] at tK
        (try dsimp only at tK)
        have z : qf_L_build 20000 day M = some (0, qw A 2332 0 0 (w32 (-1 - r))) := by
          unfold qf_L_build
          rw [tC, bb]
          rfl
        have q1 := q.1
        unfold R_rulen at q1
        refine qW_at z (qW_at tK ?_)
        (try dsimp only)
        refine ⟨W00, fun _ => qw_s, ?_, ?_, ?_, Or.inl ⟨fun b x y z1 z2 z3 z4 => by rw [qw_a z4]; exact fA b x y z1 z2 z3, fKW⟩⟩
        · unfold R_rulen
          rw [qw_a (by decide), qw_a (by decide)]
          exact q1
        · intro h r r0 r1
          rw [qw_a (by decide)] at h r1
          have q2 := q.2.1 h r r0 r1
          rw [qw_a (by decide), qw_a (by decide), qw_a (by decide), qw_a (by decide), qw_a (by decide), qw_a (by decide), qw_a (by decide)]
          exact q2
        · exact RLS_o q.2.2 q1.2.1 (fun b x y h => qw_a (by omega)) (fun _ _ _ _ => rfl)
    · rw [if_neg c] at stC stK
      refine exc "java/lang/IllegalStateException" 2 ?_ ?_ (Or.inr ⟨rfl, rfl⟩)
      · rw [stC]
        unfold qf_X11_build_J48
        rw [ns0, bb]
      · rw [stK]
        unfold qf_X18_build_J49
        rw [go2, bb]
        (try dsimp only)
        rw [if_pos rfl]
  · rw [if_neg g] at stC
    rw [b01_f g] at stK
    refine exc "java/lang/IllegalArgumentException" 1 stC ?_ (Or.inl ⟨rfl, rfl⟩)
    rw [stK]
    unfold qf_X18_build_J49
    rw [go1, bb]
    (try dsimp only)
    rw [if_pos rfl]
end ASc
