/-! ===== the call measure ===== -/
section MS
variable {M K N A B C D D0 E F G H T V K0 M0 : qm} {x1 x2 x : Int}
theorem op_measure (h_find0 : R_find0 M K) (h_spaces : R_spaces M K) (h_factn : R_factn M K) (h_facts : R_facts M K) (h_factd : R_factd M K) (h : FND M K) (hx : i64r x) : oK2 cI (qf_L_measure 20000 x1 x2 x M) (qf_X18_measure 20000 x1 x2 x K) (fun M' K' => R_factn M' K' ∧ R_facts M' K' ∧ R_factd M' K') := by
  have s_find := h_find0
  unfold R_find0 at s_find
  have s_spaces := h_spaces
  unfold R_spaces at s_spaces
  have eN := isFactName_r (M := M) hx
  have eM := isName_r (K := K) hx
  obtain ⟨r, e1, e2, hr⟩ := fact_both (x := x) h_factn h_facts h_factd
  have fr : ∀ v, R_factn M (qw K 2156 0 0 v) ∧ R_facts M (qw K 2156 0 0 v) ∧ R_factd M (qw K 2156 0 0 v) := fun v => ⟨R_factn_x (M := M) (K := K) rfl rfl h_factn, R_facts_x (M := M) (K := K) rfl (fun _ _ => rfl) (fun _ _ => rfl) (fun _ _ => rfl) (fun _ _ => rfl) h_facts, R_factd_x (M := M) (K := K) rfl (fun _ _ => rfl) h_factd⟩
  have s_factn := h_factn
  unfold R_factn at s_factn
  have eRC : qf_X7_hasRoomForFact 20000 x M = some (b01 (r = -1 → M 735 8 0 < 40)) := by
    refine qW_e ?_
    unfold qf_X7_hasRoomForFact
    by_cases g : M 735 8 0 < 40
    · rw [if_pos g, b01_t (fun _ => g)]
      exact qW_some rfl
    · rw [if_neg g]
      refine qW_eq e1 ?_
      by_cases g2 : r = -1
      · rw [if_pos g2, b01_f (fun z => g (z g2))]
        exact qW_some rfl
      · rw [if_neg g2, b01_t (fun z => absurd z g2)]
        exact qW_some rfl
  have eRK : qf_X18_hasRoom 20000 x K = some (b01 (r = -1 → M 735 8 0 < 40)) := by
    refine qW_e ?_
    unfold qf_X18_hasRoom
    refine qW_eq e2 ?_
    by_cases g2 : 0 ≤ r
    · rw [if_pos g2, b01_t (fun z => by omega)]
      exact qW_some rfl
    · rw [if_neg g2]
      by_cases g : M 735 8 0 < 40
      · rw [if_neg (by omega), b01_t (fun _ => g)]
        exact qW_some rfl
      · rw [if_pos (by omega), b01_f (fun z => g (z (by omega)))]
        exact qW_some rfl
  have ef : qf_X15_factOf 20000 x (qw K 2156 0 0 0) = some r := by
    obtain ⟨t, f1, f2, _⟩ := fact_both (x := x) (M := M) (K := qw K 2156 0 0 0) (R_factn_x (M := M) (K := K) rfl rfl h_factn) (R_facts_x (M := M) (K := K) rfl (fun _ _ => rfl) (fun _ _ => rfl) (fun _ _ => rfl) (fun _ _ => rfl) h_facts) (R_factd_x (M := M) (K := K) rfl (fun _ _ => rfl) h_factd)
    rw [f2]
    exact f1.symm.trans e1
  have ref0 : qf_X18_measure_J32 20000 x1 x2 x 0 K = some (0, qw K 2156 0 0 1) := by
    unfold qf_X18_measure_J32
    have bb : ∀ {α : Type} (a : Int) (f : Int → Option α), (some a).bind f = f a := fun a f => rfl
    by_cases g : (K 2157 10 0) = 0
    · rw [if_pos g]
      rfl
    · rw [if_neg g, eRK, bb]
      by_cases g2 : b01 (r = -1 → M 735 8 0 < 40) = 0
      · rw [if_pos g2]
        rfl
      · rw [if_neg g2]
        rfl
  have hC : (M 51 2 0) = 1 → ∀ y A f, qf_X2_measureOf 20000 x1 x2 M = some y → qf_X7_setFact 20000 x y M = some (f, A) → (r = -1 → M 735 8 0 < 40) → qf_X11_measure_J29 20000 x1 x2 x 1 M = some (.inl y, A) := fun g y A f y1 eA rm => by
    unfold qf_X11_measure_J29
    refine qW_e (qW_eq na1 ?_)
    (try dsimp only)
    rw [if_neg (by omega)]
    refine qW_eq eRC ?_
    rw [b01_t rm, if_neg (by decide)]
    unfold qf_X11_measure_J58
    refine qW_eq ns1 ?_
    (try dsimp only)
    refine qW_eq y1 (qW_eq eA ?_)
    exact qW_some rfl
  have hC0 : ((M 51 2 0) = 0 ∨ ¬ (r = -1 → M 735 8 0 < 40)) → qf_X11_measure_J29 20000 x1 x2 x 1 M = some (.inr "java/lang/IllegalStateException", M) := fun g => by
    unfold qf_X11_measure_J29
    refine qW_e (qW_eq na1 ?_)
    (try dsimp only)
    by_cases g1 : (M 51 2 0) = 0
    · rw [if_pos g1]
      exact qW_some rfl
    · rw [if_neg g1]
      refine qW_eq eRC ?_
      rw [b01_f (by rcases g with z | z; exact absurd z g1; exact z), if_pos rfl]
      exact qW_some rfl
  have main : (qf_X11_measure 20000 x1 x2 x M = some (.inr "java/lang/IllegalArgumentException", M) ∧ qf_X18_measure 20000 x1 x2 x K = some (0, qw K 2156 0 0 1)) ∨ (qf_X11_measure 20000 x1 x2 x M = some (.inr "java/lang/IllegalStateException", M) ∧ qf_X18_measure 20000 x1 x2 x K = some (0, qw K 2156 0 0 2)) ∨ ∃ v A B, qf_X11_measure 20000 x1 x2 x M = some (.inl v, A) ∧ qf_X18_measure 20000 x1 x2 x K = some (v, B) ∧ FCT M (qw K 2156 0 0 0) A B := by
    unfold qf_X11_measure qf_X18_measure
    have o1 : ∀ {α : Type} (f g : α), (if (1 : Int) = 0 then f else g) = g := fun f g => if_neg (by decide)
    have bb : ∀ {α : Type} (a : Int) (f : Int → Option α), (some a).bind f = f a := fun a f => rfl
    rw [spaceC_e h_spaces, spaceK_e h_find0 h_spaces]
    rcases b01_o (p := 0 ≤ x1 ∧ x1 < (M 51 3 0)) with ⟨e, z⟩ | ⟨e, z⟩
    · rw [e, bb, bb, o1, o1, within_e, isIn_e, bb, bb, b01_c (p := 0 ≤ x2 ∧ x2 ≤ 2) (q := 0 ≤ x2 ∧ x2 < 3) (by omega)]
      rcases b01_o (p := 0 ≤ x2 ∧ x2 < 3) with ⟨e4, z4⟩ | ⟨e4, z4⟩
      · rw [e4, o1, o1, eN, eM, bb, bb]
        rcases b01_o (p := yname x) with ⟨e5, z5⟩ | ⟨e5, z5⟩
        · rw [e5, o1, o1]
          unfold qf_X18_measure_J32
          rcases s_find.2.2.2.1 with g | g
          · have gk : (K 2157 10 0) = 0 := by omega
            rw [hC0 (Or.inl g), gk]
            exact Or.inr (Or.inl ⟨rfl, rfl⟩)
          · have gk : (K 2157 10 0) = 1 := by omega
            rw [gk, o1, eRK]
            rcases b01_o (p := r = -1 → M 735 8 0 < 40) with ⟨e6, z6⟩ | ⟨e6, z6⟩
            · have h' := FND_g (v := 0) h
              rcases h' with ⟨_, y⟩ | ⟨_, M0, K0, A, D0, D, E, F, G, H, C, q, m, p, R, stt, cnt, w⟩
              · omega
              obtain ⟨y, y1, y2, y3, y4⟩ := size_both w z.1 z.2 z4.1 (show x2 ≤ 2 by omega)
              obtain ⟨f, A', B', eA, eB, hT⟩ := setFact_b (x := x) (v := y) (M := M) (K := qw K 2156 0 0 0) (R_factn_x (M := M) (K := K) rfl rfl h_factn) (R_facts_x (M := M) (K := K) rfl (fun _ _ => rfl) (fun _ _ => rfl) (fun _ _ => rfl) (fun _ _ => rfl) h_facts) (R_factd_x (M := M) (K := K) rfl (fun _ _ => rfl) h_factd) ⟨by omega, by omega⟩ r e1 ef hr z6
              refine Or.inr (Or.inr ⟨y, A', B', ?_, ?_, hT⟩)
              · exact hC g y A' f y1 eA z6
              · rw [e6, bb, o1]
                show (qf_X16_size 20000 x1 x2 (qw K 2156 0 0 0)).bind _ = _
                rw [y2]
                show (qf_X15_fact 20000 x y (qw K 2156 0 0 0)).bind _ = _
                rw [eB]
                rfl
            · refine Or.inr (Or.inl ⟨?_, ?_⟩)
              · exact hC0 (Or.inr z6)
              · rw [e6]
                rfl
        · rw [e5]
          refine Or.inl ⟨rfl, ?_⟩
          exact ref0
      · rw [e4]
        exact Or.inl ⟨rfl, ref0⟩
    · rw [e]
      exact Or.inl ⟨rfl, ref0⟩
  unfold oK2 qf_L_measure
  rcases main with ⟨e1, e2⟩ | ⟨e1, e2⟩ | ⟨v, A, B, e1, e2, hT⟩
  · refine qW_eq e1 ?_
    (try dsimp only)
    rw [if_pos rfl]
    refine qW_some ⟨_, e2, ?_⟩
    (try dsimp only)
    exact ⟨qw_s, fun z => absurd z (by decide), fr 1⟩
  · refine qW_eq e1 ?_
    (try dsimp only)
    rw [if_neg (by decide), if_pos rfl]
    refine qW_some ⟨_, e2, ?_⟩
    (try dsimp only)
    exact ⟨qw_s, fun z => absurd z (by decide), fr 2⟩
  · have hB : B 2156 0 0 = 0 := hT.2.2.2.2.2.1 2156 0 0 (by decide) (by decide) (by decide)
    refine qW_eq e1 ?_
    (try dsimp only)
    refine qW_bnd (qW_some ⟨_, e2, ?_⟩)
    (try dsimp only)
    exact ⟨hB, fun _ => qw_s, hT.1, hT.2.1, hT.2.2.1⟩
end MS
