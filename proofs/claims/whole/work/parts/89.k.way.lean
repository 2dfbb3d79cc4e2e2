/-! ===== the call way ===== -/
section WU
variable {M K N A B C D D0 E' F G H T V K0 M0 : qm} {a b c d k n m p r q' s t u v x y h i j R S w l g to x1 x2 : Int} {q stt cnt o f : Int → Int} {P : Int → Prop} {E : Int → Int → Prop}
theorem way_K (h_lines : R_lines M K) (h_ends : R_ends M K) (h_doorn : R_doorn M K) (h_doors : R_doors M K) (h_spaces : R_spaces M K) (h : FNW M K M0 K0 A D0 D E' F G H C q m p R stt cnt) (hc : CUR M M0) (hO : OWR M S) (hS : (M 51 3 0) = S) (S1 : S ≤ 100) (s0 : -1 ≤ s) (s1 : s < S) (t0 : -1 ≤ to) (t1 : to < S) : qW (qf_X16_way 20000 s to K) (fun o => (∀ b i j, b ≠ 2183 → o.2 b i j = K b i j) ∧ ((0 ≤ o.1 ∧ o.1 ≤ 101 ∧ DK (EDG M) s to o.1) ∨ (o.1 = -2 ∧ ∀ k, ¬ DK (EDG M) s to k))) := by
  have s_spaces := h_spaces
  unfold R_spaces at s_spaces
  have S0 : 0 ≤ S := by omega
  have kS : (K 2157 17 0) = S := s_spaces.2.2.1.trans hS
  have es : ∀ u v, EDG M u v ↔ ∃ s, 0 ≤ s ∧ s < 2 * p ∧ HDP M G s ∧ lfs D G s = u ∧ lfs D G (flp s) = v := fun u v => edg_side h_doorn h_doors h h_ends hc
  have eb := EDG_b hO S0
  unfold qf_X16_way
  refine qW_call (Q := fun o => ∃ N, o = .inr ((), N) ∧ (∀ b i j, b ≠ 2183 → N b i j = K b i j) ∧ ∀ v, -1 ≤ v → v < S → (N 2183 (v + 1) 0) = if v = s then 0 else 1000) ?_ ?_
  · unfold qf_X16_way_L2
    refine qW_for (S + 1) (fun i u => ∃ N, u = (s, to, i, N) ∧ (∀ b i j, b ≠ 2183 → N b i j = K b i j) ∧ ∀ v, -1 ≤ v → v + 1 < i → (N 2183 (v + 1) 0) = if v = s then 0 else 1000) ?_ ?_ ⟨K, rfl, fun _ _ _ _ => rfl, fun v a b => by omega⟩ (by omega) (by omega)
    · rintro i _ i0 i1 ⟨N, rfl, hN, hv⟩
      have nS : (N 2157 17 0) = S := (hN _ _ _ (by decide)).trans kS
      unfold qf_X16_way_L2_b
      (try dsimp only)
      rw [if_neg (by omega), w32_id (x := s + 1) (by omega) (by omega), w32_id (x := i + 1) (by omega) (by omega)]
      have st : ∀ z, (z = if i - 1 = s then 0 else 1000) → ∃ N', (s, to, i + 1, qw N 2183 i 0 z) = (s, to, i + 1, N') ∧ (∀ b i j, b ≠ 2183 → N' b i j = K b i j) ∧ ∀ v, -1 ≤ v → v + 1 < i + 1 → (N' 2183 (v + 1) 0) = if v = s then 0 else 1000 := fun z e => by
        refine ⟨_, rfl, fun b i j hb => (qw_a hb).trans (hN b i j hb), fun v v0 v1 => ?_⟩
        rw [qw_ap]
        by_cases g : v + 1 = i
        · rw [if_pos ⟨rfl, g, rfl⟩, e, show i - 1 = v by omega]
        · rw [if_neg (by omega)]
          exact hv v v0 (by omega)
      by_cases g : i = s + 1
      · rw [if_pos g, if_pos (by omega)]
        exact qW_bnd (qW_some (st 0 (by rw [if_pos (by omega)])))
      · rw [if_neg g, if_pos (by omega)]
        exact qW_bnd (qW_some (st 1000 (by rw [if_neg (by omega)])))
    · rintro _ ⟨N, rfl, hN, hv⟩
      have nS : (N 2157 17 0) = S := (hN _ _ _ (by decide)).trans kS
      unfold qf_X16_way_L2_b
      (try dsimp only)
      rw [if_pos (by omega)]
      exact qW_some ⟨N, rfl, hN, fun v v0 v1 => hv v v0 (by omega)⟩
  · rintro _ ⟨N1, rfl, hN, hv⟩
    (try dsimp only)
    have c1 : 1 ≤ CNR N1 S := by
      unfold CNR
      have one := sI_one (f := fun _ => (1 : Int)) (c := s + 1) (n := S + 1) (by omega) (by omega)
      (try dsimp only at one)
      refine Int.le_trans (Int.le_of_eq one.symm) (sI_le (fun i i0 i1 => ?_))
      (try dsimp only)
      by_cases g : i = s + 1
      · have w := hv s s0 s1
        rw [if_pos rfl] at w
        rw [if_pos g, g, b01_t (by omega)]
        exact Int.le_refl _
      · rw [if_neg g]
        exact b01_b.1
    have st0 : STP (EDG M) K N1 s S := by
      refine ⟨hN, fun v v0 v1 => ?_, ?_⟩
      · rw [hv v v0 v1]
        by_cases g : v = s
        · rw [if_pos g, g]
          exact Or.inr ⟨Int.le_refl 0, by omega, RC_0.mpr rfl⟩
        · rw [if_neg g]
          exact Or.inl rfl
      · rw [hv s s0 s1, if_pos rfl]
    have bf0 : BFR (EDG M) N1 s S 0 := fun v k v0 v1 k0 kd => by
      have k1 := kd.1.1
      have ek : k = 0 := by omega
      rw [ek] at kd ⊢
      rw [hv v v0 v1, if_pos (RC_0.mp kd.1)]
    refine qW_call (Q := fun o => ∃ N, o = .inr ((), N) ∧ STP (EDG M) K N s S ∧ WCL M N D G p) ?_ ?_
    · unfold qf_X16_way_L38
      refine qW_for (S + 1) (fun r u => ∃ g N, u = (to, g, N) ∧ STP (EDG M) K N s S ∧ ((g = 0 ∧ WCL M N D G p) ∨ (g = 1 ∧ BFR (EDG M) N s S r ∧ r ≤ S))) ?_ ?_ ⟨1, N1, rfl, st0, Or.inr ⟨rfl, bf0, S0⟩⟩ (by omega) (by omega)
      · rintro r _ r0 r1 ⟨g, N, rfl, hN, hg⟩
        unfold qf_X16_way_L38_b
        (try dsimp only)
        rcases hg with ⟨rfl, hg⟩ | ⟨rfl, hB, rS⟩
        · rw [if_pos rfl]
          exact qW_some ⟨N, rfl, hN, hg⟩
        · rw [if_neg (by decide)]
          refine qW_call (wpass_r h_lines h_ends h_doorn h_doors h hc hO S0 S1 s0 s1 r0 rS hN hB) ?_
          rintro _ ⟨g, N', rfl, hN', hg⟩
          exact qW_some ⟨g, N', rfl, hN', hg⟩
      · rintro _ ⟨g, N, rfl, hN, hg⟩
        unfold qf_X16_way_L38_b
        (try dsimp only)
        rcases hg with ⟨rfl, hg⟩ | ⟨rfl, hB, rS⟩
        · rw [if_pos rfl]
          exact qW_some ⟨N, rfl, hN, hg⟩
        · omega
    · rintro _ ⟨N, rfl, hN, hC⟩
      (try dsimp only)
      have near : ∀ k : Nat, ∀ v, -1 ≤ v → v < S → RCN (EDG M) s k v → (N 2183 (v + 1) 0) ≠ 1000 ∧ (N 2183 (v + 1) 0) ≤ k := by
        intro k
        induction k with
        | zero =>
          intro v v0 v1 z
          have e : v = s := z
          rw [e, hN.2.2]
          exact ⟨by decide, Int.le_refl 0⟩
        | succ k ih =>
          rintro v v0 v1 ⟨u, hu, he⟩
          have ub := eb _ _ he
          have q := ih u ub.1.1 ub.1.2 hu
          have bu := stp_b S0 S1 hN ub.1.1 ub.1.2
          obtain ⟨x, x0, x1, hx, rfl, rfl⟩ := (es _ _).mp he
          have w := hC x x0 x1 hx
          omega
      have fin := stp_b S0 S1 hN t0 t1
      rw [w32_id (x := to + 1) (by omega) (by omega), if_pos (by omega)]
      by_cases g : (N 2183 (to + 1) 0) = 1000
      · rw [if_pos g]
        refine qW_some ⟨hN.1, Or.inr ⟨rfl, fun k kd => ?_⟩⟩
        exact (near k.toNat to t0 t1 kd.1.2).1 g
      · rw [if_neg g, if_pos (by omega)]
        have f2 : 0 ≤ (N 2183 (to + 1) 0) ∧ (N 2183 (to + 1) 0) ≤ S ∧ RC (EDG M) s (N 2183 (to + 1) 0) to := by
          rcases fin with e | e
          · exact absurd e g
          · exact e
        refine qW_some ⟨hN.1, Or.inl ⟨f2.1, by (try dsimp only); omega, f2.2.2, fun j hj z => ?_⟩⟩
        have w := near j.toNat to t0 t1 z.2
        have z0 := z.1
        omega
theorem op_way (h_lines : R_lines M K) (h_ends : R_ends M K) (h_doorn : R_doorn M K) (h_doors : R_doors M K) (h_find0 : R_find0 M K) (h_spaces : R_spaces M K) (h : FND M K) : oK2 cI (qf_L_way 20000 x1 x2 M) (qf_X18_way 20000 x1 x2 K) (fun _ _ => True) := by
  have s_find := h_find0
  unfold R_find0 at s_find
  have s_spaces := h_spaces
  unfold R_spaces at s_spaces
  have main : (qf_X11_way 20000 x1 x2 M = some (.inr "java/lang/IllegalArgumentException", M) ∧ qf_X18_way 20000 x1 x2 K = some (0, qw K 2156 0 0 1)) ∨ (qf_X11_way 20000 x1 x2 M = some (.inr "java/lang/IllegalStateException", M) ∧ qf_X18_way 20000 x1 x2 K = some (0, qw K 2156 0 0 2)) ∨ ∃ v N W, qf_X11_way 20000 x1 x2 M = some (.inl v, N) ∧ qf_X18_way 20000 x1 x2 K = some (v, W) ∧ W 2156 0 0 = 0 := by
    unfold qf_X11_way qf_X18_way
    have o1 : ∀ {α : Type} (f g : α), (if (1 : Int) = 0 then f else g) = g := fun f g => if_neg (by decide)
    have bb : ∀ {α : Type} (a : Int) (f : Int → Option α), (some a).bind f = f a := fun a f => rfl
    rw [anyC_e h_spaces s_find.1, anyK_e h_find0 h_spaces, bb, bb]
    rcases b01_o (p := (M 51 1 0) ≠ 0 ∧ -1 ≤ x1 ∧ x1 < (M 51 3 0)) with ⟨e, z⟩ | ⟨e, z⟩
    · rw [e, o1, o1, anyC_e h_spaces s_find.1, anyK_e h_find0 h_spaces, bb, bb]
      rcases b01_o (p := (M 51 1 0) ≠ 0 ∧ -1 ≤ x2 ∧ x2 < (M 51 3 0)) with ⟨e4, z4⟩ | ⟨e4, z4⟩
      · rw [e4, o1, o1]
        unfold qf_X11_way_J21 qf_X18_way_J28
        rcases s_find.2.2.2.1 with g | g
        · have gk : (K 2157 10 0) = 0 := by omega
          rw [g, gk]
          exact Or.inr (Or.inl ⟨rfl, rfl⟩)
        · have gk : (K 2157 10 0) = 1 := by omega
          rw [g, gk]
          have h' := FND_g (v := 0) h
          rcases h' with ⟨_, y⟩ | ⟨_, M0, K0, A, D0, D, E, F, G, H, C, q, m, p, R, stt, cnt, w⟩
          · omega
          have hc : CUR M M0 := w.2.2.2.2.2 g
          have sD : (M 51 3 0) = (D 51 3 0) := by
            rw [w.2.1 51 3 0 (by omega)]
            exact w.1.2.2.2.2.2.2.2.2.2.1 51 3 0 (by decide) (by decide) (by decide) (by decide) (by omega)
          have hO : OWR M (M 51 3 0) := fun v v0 v1 => by
            rw [sD, fnw_oF w]
            exact w.1.2.2.2.2.2.2.2.1.2.2.1 v v0 v1
          have g1 : R_lines M (qw K 2156 0 0 0) := R_lines_x rfl (qw_a (by decide)) h_lines
          have g2 : R_ends M (qw K 2156 0 0 0) := R_ends_x rfl (fun _ _ => rfl) (fun i j => qw_a (by decide)) (fun i j => qw_a (by decide)) (fun i j => qw_a (by decide)) (fun i j => qw_a (by decide)) h_ends
          have g3 : R_doorn M (qw K 2156 0 0 0) := R_doorn_x rfl (fun _ _ => rfl) (fun i j => qw_a (by decide)) h_doorn
          have g4 : R_doors M (qw K 2156 0 0 0) := R_doors_x (fun _ _ => rfl) (fun _ _ => rfl) (fun i j => qw_a (by decide)) (fun i j => qw_a (by decide)) (fun i j => qw_a (by decide)) (fun i j => qw_a (by decide)) h_doors
          have g5 : R_spaces M (qw K 2156 0 0 0) := spaces_g h_spaces
          obtain ⟨⟨vC, N⟩, eC, _, hC⟩ := way_C h_lines h_ends h_doorn h_doors hO rfl s_spaces.1 s_spaces.2.1 z.2.1 z.2.2 z4.2.1 z4.2.2
          obtain ⟨⟨vK, W⟩, eK, hW, hK⟩ := way_K g1 g2 g3 g4 g5 w hc hO rfl s_spaces.2.1 z.2.1 z.2.2 z4.2.1 z4.2.2
          (try dsimp only at hC hK hW)
          have ev : vC = vK := by
            rcases hC with ⟨_, _, c⟩ | ⟨c, nc⟩
            · rcases hK with ⟨_, _, k⟩ | ⟨_, nk⟩
              · exact DK_one c k
              · exact absurd c (nk _)
            · rcases hK with ⟨_, _, k⟩ | ⟨k, nk⟩
              · exact absurd k (nc _)
              · rw [c, k]
          rw [ev] at eC
          refine Or.inr (Or.inr ⟨vK, N, W, ?_, ?_, ?_⟩)
          · show (qf_X2_doorsOnWay 20000 x1 x2 M).bind _ = _
            rw [eC]
            rfl
          · show (qf_X16_way 20000 x1 x2 (qw K 2156 0 0 0)).bind _ = _
            rw [eK]
            rfl
          · rw [hW _ _ _ (by decide)]
            exact qw_s
      · rw [e4]
        exact Or.inl ⟨rfl, rfl⟩
    · rw [e]
      exact Or.inl ⟨rfl, rfl⟩
  unfold oK2 qf_L_way
  rcases main with ⟨e1, e2⟩ | ⟨e1, e2⟩ | ⟨v, N, W, e1, e2, e3⟩
  · refine qW_eq e1 ?_
    (try dsimp only)
    rw [if_pos rfl]
    refine qW_some ⟨_, e2, ?_⟩
    (try dsimp only)
    exact ⟨qw_s, fun z => absurd z (by decide), trivial⟩
  · refine qW_eq e1 ?_
    (try dsimp only)
    rw [if_neg (by decide), if_pos rfl]
    refine qW_some ⟨_, e2, ?_⟩
    (try dsimp only)
    exact ⟨qw_s, fun z => absurd z (by decide), trivial⟩
  · refine qW_eq e1 ?_
    (try dsimp only)
    refine qW_bnd (qW_some ⟨_, e2, ?_⟩)
    (try dsimp only)
    exact ⟨e3, fun _ => qw_s, trivial⟩
end WU
