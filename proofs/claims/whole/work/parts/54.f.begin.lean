/-! ===== lifts: the calls begin, done ===== -/
set_option maxHeartbeats 1000000 in
set_option maxRecDepth 20000 in
theorem op_begin {M K : qm} {x1 x2 : Int} (c1 : -2147483648 ≤ x1 ∧ x1 ≤ 2147483647) (c2 : -2147483648 ≤ x2 ∧ x2 ≤ 2147483647) (h_built : R_built M K) (h_carn : R_carn M K) (h_calln : R_calln M K) (h_cars : R_cars M K) (h_calls : R_calls M K) (h_carz : R_carz M K) (h_begun : R_begun M K) (h_begunz : R_begunz M K) (h_begunr : R_begunr M K) (h_opens : R_opens M K) (h_openl : R_openl M K) (h_opena : R_opena M K) : oK2 cB (qf_L_begin 20000 x1 x2 M) (qf_X18_begin 20000 x1 x2 K) (fun M' K' => R_cars M' K' ∧ R_carz M' K' ∧ R_begun M' K' ∧ R_begunz M' K' ∧ R_begunr M' K') := by
  have s_built := h_built
  unfold R_built at s_built
  have s_carn := h_carn
  unfold R_carn at s_carn
  have s_calln := h_calln
  unfold R_calln at s_calln
  have s_opens := h_opens
  unfold R_opens at s_opens
  obtain ⟨b, eb1, eb2, hb⟩ := ask_both (isOpenCall_r h_calln h_calls h_openl h_opena h_opens (x := x1)) (opensR_r h_calln h_calls (x := x1))
  have b01 : b = 0 ∨ (b = 1 ∧ 0 ≤ x1 ∧ x1 < M 1337 2 0) := by
    rcases hb with ⟨h1, h2⟩ | ⟨h1, h2⟩
    · have q := h2.1
      have q2 := h2.2.1
      exact Or.inr ⟨h1, q, by omega⟩
    · exact Or.inl h1
  have w1 : w32 (M 1337 0 0 - 1) = M 1337 0 0 - 1 := w32_id (by omega) (by omega)
  unfold oK2
  unfold qf_L_begin qf_L_begin_J16 qf_X11_begin qf_X11_isCar qf_X11_begin_J24 qf_X11_begin_J28 qf_X11_begin_J29 qf_X18_begin qf_X18_begin_J31 qf_X18_begin_J35 qf_X18_begin_J36
  repeat' first
    | (refine qW_no ?_; omega)
    | contradiction
    | with_reducible refine qW_eq eb1 ?_
    | with_reducible refine qW_eq eb2 ?_
    | (with_reducible refine qW_call (setBegun_r h_carn h_calln (by omega) (by omega)) ?_; rintro ⟨rv, rM⟩ (⟨g, hv, hc⟩ | ⟨g, hv⟩); ((try dsimp only at hv hc); subst hv); rotate_left; cases hv; rotate_left)
    | (with_reducible refine qW_bnd ?_; try simp only [qw_ap, qfl1_ap, qfl2_ap, qcp1_ap, qcp2_ap, false_and, true_and, and_true, and_false, and_self, if_false, if_true, reduceIte, Nat.reduceEqDiff])
    | with_reducible refine qW_within (fun _ => ?_) (fun _ _ => ?_)
    | with_reducible refine qW_isIn (fun _ => ?_) (fun _ _ => ?_)
    | with_reducible refine qW_na (fun _ => ?_) (fun _ => ?_)
    | with_reducible refine qW_ns (fun _ => ?_) (fun _ => ?_)
    | (with_reducible refine qW_goes (fun _ => ?_) (fun _ _ => ?_) (fun _ _ => ?_) <;> (try dsimp only) <;> (try simp only [qw_ap, qfl1_ap, qfl2_ap, qcp1_ap, qcp2_ap, false_and, true_and, and_true, and_false, and_self, if_false, if_true, reduceIte, Nat.reduceEqDiff]))
    | (with_reducible refine qW_stays (by omega) (fun _ => ?_) (fun _ => ?_) <;> (try dsimp only) <;> (try simp only [qw_ap, qfl1_ap, qfl2_ap, qcp1_ap, qcp2_ap, false_and, true_and, and_true, and_false, and_self, if_false, if_true, reduceIte, Nat.reduceEqDiff]))
    | (exfalso; omega)
    | with_reducible refine qW_bind ?_
    | (with_reducible refine qW_some ?_; (try dsimp only); try simp only [qw_ap, qfl1_ap, qfl2_ap, qcp1_ap, qcp2_ap, false_and, true_and, and_true, and_false, and_self, if_false, if_true, reduceIte, Nat.reduceEqDiff])
    | with_reducible refine qW_pos rfl ?_
    | ((with_reducible refine qW_pos ?_ ?_); omega)
    | ((with_reducible refine qW_neg ?_ ?_); (first | omega | decide))
    | with_reducible refine qW_ite (fun _ => ?_) (fun _ => ?_)
    | dsimp only
  all_goals (try (
    have hR := beginR_r (M := M) (K := qw K 2156 0 0 0) (c := x1) (a := x2) (R_carn_x (M := M) (K := K) rfl rfl h_carn) (R_calln_x (M := M) (K := K) rfl rfl h_calln) (R_cars_x (M := M) (K := K) rfl (fun _ _ => rfl) (fun _ _ => rfl) (fun _ _ => rfl) (fun _ _ => rfl) (fun _ _ => rfl) (fun _ _ => rfl) h_cars) (R_calls_x (M := M) (K := K) rfl rfl (fun _ _ => rfl) (fun _ _ => rfl) (fun _ _ => rfl) (fun _ _ => rfl) (fun _ _ => rfl) h_calls) (R_begun_x (M := M) (K := K) rfl rfl (fun _ _ => rfl) (fun _ _ => rfl) (fun _ _ => rfl) h_begun) (R_begunz_x (M := M) (K := K) rfl rfl (fun _ _ => rfl) (fun _ _ => rfl) h_begunz) (R_begunr_x (M := M) (K := K) rfl rfl (fun _ _ => rfl) h_begunr) (by
      rcases hb with ⟨_, h2⟩ | ⟨h1, _⟩
      · exact h2
      · omega) (by omega)
    obtain ⟨⟨sv, sK⟩, es, hs⟩ := hR
    refine ⟨_, es, ?_⟩
    clear es
    rcases hs with ⟨g2, hv2, hc2⟩ | ⟨g2, hv2, hc2⟩ <;> first | contradiction | skip
    all_goals ((try dsimp only at hv2 hc2); subst hv2; subst hc2)))
  all_goals (try (first | rw [if_pos rfl] | rw [if_neg (by decide)]))
  all_goals (try refine qW_some ?_)
  all_goals (try dsimp only)
  all_goals (repeat' with_reducible refine And.intro ?_ ?_)
  all_goals first
    | rfl
    | trivial
    | (intro hz; exact absurd hz (by decide))
    | (intro _; rfl)
    | exact R_cars_x (M := M) (K := K) rfl (fun _ _ => rfl) (fun _ _ => rfl) (fun _ _ => rfl) (fun _ _ => rfl) (fun _ _ => rfl) (fun _ _ => rfl) h_cars
    | exact R_carz_x (M := M) (K := K) rfl (fun _ _ => rfl) h_carz
    | exact R_begun_x (M := M) (K := K) rfl rfl (fun _ _ => rfl) (fun _ _ => rfl) (fun _ _ => rfl) h_begun
    | exact R_begunz_x (M := M) (K := K) rfl rfl (fun _ _ => rfl) (fun _ _ => rfl) h_begunz
    | exact R_begunr_x (M := M) (K := K) rfl rfl (fun _ _ => rfl) h_begunr
    | skip
  all_goals try (
    have hN : ∀ i j, (qw (qw K 2156 0 0 0) 2280 x1 0 (qw K 2156 0 0 0 2280 x1 0)) 2280 i j = K 2280 i j := by
      intro i j
      rw [qw_ap]
      by_cases e : 2280 = 2280 ∧ i = x1 ∧ j = 0
      · rw [if_pos e, e.2.1, e.2.2]
        rfl
      · rw [if_neg e]
        rfl
    first
      | exact R_begun_x (M := M) (K := K) rfl rfl (fun _ _ => rfl) (fun _ _ => rfl) hN h_begun
      | exact R_begunr_x (M := M) (K := K) rfl rfl hN h_begunr)
  all_goals (
    have ox : opS K x1 := by
      rcases hb with ⟨_, h2⟩ | ⟨h1, _⟩
      · exact h2
      · omega
    have hy : x2 = -1 ∨ (0 ≤ x2 ∧ x2 < M 1337 0 0) := by omega
    have hW : bgW M K (qw rM 2332 0 0 1) (qw (qw K 2156 0 0 0) 2280 x1 0 x2) x1 x2 := by
      refine ⟨fun b i j hb => ?_, fun b i j hb => ?_⟩
      · rw [qw_ap, if_neg (fun q => hb q.1)]
        exact hc b i j
      · rw [qw_ap]
        by_cases e : b = 2280 ∧ i = x1 ∧ j = 0
        · rw [if_pos e, if_pos e]
        · rw [if_neg e, if_neg e, qw_ap, if_neg (fun q => hb q.1)]
    first
      | exact bg_cars hW h_cars
      | exact bg_carz hW h_carz
      | exact bg_begun hW hy ox g h_begunz h_begun
      | exact bg_begunz hW ox h_calln h_begunz
      | exact bg_begunr hW hy h_begunr)

