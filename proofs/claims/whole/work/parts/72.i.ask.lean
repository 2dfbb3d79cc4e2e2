section ASK
variable {M K : qm} {a b v c p room rl x1 x2 x3 x4 : Int}
theorem TL_A (h : TL M K) : TL (qw M 2332 0 0 a) K := by
  obtain ⟨h_telln, h_tellt, h_tellc, h_tellr, h_notek, h_noteo, h_notex⟩ := h
  exact ⟨R_telln_x (M := M) (K := K) rfl rfl rfl h_telln, R_tellt_x (M := M) (K := K) rfl rfl rfl (fun _ _ => rfl) (fun _ _ => rfl) (fun _ _ => rfl) (fun _ _ => rfl) (fun _ _ => rfl) h_tellt, R_tellc_x (M := M) (K := K) rfl rfl (fun _ _ => rfl) (fun _ _ => rfl) (fun _ _ => rfl) h_tellc, R_tellr_x (M := M) (K := K) rfl rfl (fun _ _ => rfl) (fun _ _ => rfl) (fun _ _ => rfl) h_tellr, R_notek_x (M := M) (K := K) rfl rfl (fun _ _ => rfl) (fun _ _ => rfl) (fun _ _ => rfl) (fun _ _ => rfl) h_notek, R_noteo_x (M := M) (K := K) rfl (fun _ _ => rfl) h_noteo, R_notex_x (M := M) (K := K) rfl rfl (fun _ _ => rfl) (fun _ _ => rfl) h_notex⟩
theorem AKr_A (h : AKr M K) : AKr (qw M 2332 0 0 a) K := by
  obtain ⟨h_portn, h_portw, h_portc, h_porto, h_portk, h_portr, h_portq, h_persons, h_personb, h_personz⟩ := h
  exact ⟨R_portn_x (M := M) (K := K) rfl rfl rfl (fun _ _ => rfl) (fun _ _ => rfl) (fun _ _ => rfl) rfl h_portn, R_portw_x (M := M) (K := K) rfl rfl (fun _ _ => rfl) rfl (fun _ _ => rfl) (fun _ _ => rfl) (fun _ _ => rfl) (fun _ _ => rfl) h_portw, R_portc_x (M := M) (K := K) rfl (fun _ _ => rfl) (fun _ _ => rfl) (fun _ _ => rfl) (fun _ _ => rfl) (fun _ _ => rfl) (fun _ _ => rfl) (fun _ _ => rfl) h_portc, R_porto_x (M := M) (K := K) rfl rfl (fun _ _ => rfl) (fun _ _ => rfl) (fun _ _ => rfl) (fun _ _ => rfl) h_porto, R_portk_x (M := M) (K := K) rfl rfl (fun _ _ => rfl) (fun _ _ => rfl) (fun _ _ => rfl) h_portk, R_portr_x (M := M) (K := K) rfl rfl (fun _ _ => rfl) (fun _ _ => rfl) (fun _ _ => rfl) (fun _ _ => rfl) (fun _ _ => rfl) (fun _ _ => rfl) (fun _ _ => rfl) h_portr, R_portq_x (M := M) (K := K) (fun _ _ => rfl) rfl (fun _ _ => rfl) rfl h_portq, R_persons_x (M := M) (K := K) rfl (fun _ _ => rfl) (fun _ _ => rfl) (fun _ _ => rfl) (fun _ _ => rfl) (fun _ _ => rfl) (fun _ _ => rfl) (fun _ _ => rfl) (fun _ _ => rfl) (fun _ _ => rfl) h_persons, R_personb_x (M := M) (K := K) rfl (fun _ _ => rfl) rfl rfl (fun _ _ => rfl) (fun _ _ => rfl) (fun _ _ => rfl) (fun _ _ => rfl) (fun _ _ => rfl) h_personb, R_personz_x (M := M) (K := K) rfl (fun _ _ => rfl) (fun _ _ => rfl) (fun _ _ => rfl) h_personz⟩
theorem AQ_A (h : AQ M K) : AQ (qw M 2332 0 0 a) K := by
  obtain ⟨h1, h_built, h_time, h_lines, h_ends, h_cardn, h_cards, h_personn, h_rightn, h_rights, h_names, h_spaces, h_rooms, h2, h3, h_lockr, h_locku, h_macts, h_mstate⟩ := h
  exact ⟨AKr_A h1, R_built_x (M := M) (K := K) rfl rfl h_built, R_time_x (M := M) (K := K) rfl rfl h_time, R_lines_x (M := M) (K := K) rfl rfl h_lines, R_ends_x (M := M) (K := K) rfl (fun _ _ => rfl) (fun _ _ => rfl) (fun _ _ => rfl) (fun _ _ => rfl) (fun _ _ => rfl) h_ends, R_cardn_x (M := M) (K := K) rfl rfl h_cardn, R_cards_x (M := M) (K := K) rfl rfl (fun _ _ => rfl) (fun _ _ => rfl) (fun _ _ => rfl) h_cards, R_personn_x (M := M) (K := K) rfl rfl h_personn, R_rightn_x (M := M) (K := K) rfl rfl h_rightn, R_rights_x (M := M) (K := K) rfl (fun _ _ => rfl) (fun _ _ => rfl) (fun _ _ => rfl) (fun _ _ => rfl) (fun _ _ => rfl) (fun _ _ => rfl) h_rights, R_names_x (M := M) (K := K) rfl (fun _ _ => rfl) (fun _ _ => rfl) h_names, R_spaces_x (M := M) (K := K) rfl rfl rfl h_spaces, R_rooms_x (M := M) (K := K) rfl rfl rfl h_rooms, TL_A h2, R_lockb_x (M := M) (K := K) rfl rfl (fun _ _ => rfl) rfl (fun _ _ => rfl) (fun _ _ => rfl) h3, R_lockr_x (M := M) (K := K) rfl rfl (fun _ _ => rfl) (fun _ _ => rfl) h_lockr, R_locku_x (M := M) (K := K) rfl (fun _ _ => rfl) (fun _ _ => rfl) h_locku, R_macts_x (M := M) (K := K) (fun _ _ => rfl) (fun _ _ => rfl) (fun _ _ => rfl) (fun _ _ => rfl) (fun _ _ => rfl) (fun _ _ => rfl) (fun _ _ => rfl) (fun _ _ => rfl) h_macts, R_mstate_x (M := M) (K := K) rfl (fun _ _ => rfl) (fun _ _ => rfl) (fun _ _ => rfl) (fun _ _ => rfl) (fun _ _ => rfl) (fun _ _ => rfl) (fun _ _ => rfl) (fun _ _ => rfl) h_mstate⟩
theorem AKr_K (h : AKr M K) : AKr M (qw K 2156 0 0 v) := by
  obtain ⟨h_portn, h_portw, h_portc, h_porto, h_portk, h_portr, h_portq, h_persons, h_personb, h_personz⟩ := h
  exact ⟨R_portn_x (M := M) (K := K) rfl rfl rfl (fun _ _ => rfl) (fun _ _ => rfl) (fun _ _ => rfl) rfl h_portn, R_portw_x (M := M) (K := K) rfl rfl (fun _ _ => rfl) rfl (fun _ _ => rfl) (fun _ _ => rfl) (fun _ _ => rfl) (fun _ _ => rfl) h_portw, R_portc_x (M := M) (K := K) rfl (fun _ _ => rfl) (fun _ _ => rfl) (fun _ _ => rfl) (fun _ _ => rfl) (fun _ _ => rfl) (fun _ _ => rfl) (fun _ _ => rfl) h_portc, R_porto_x (M := M) (K := K) rfl rfl (fun _ _ => rfl) (fun _ _ => rfl) (fun _ _ => rfl) (fun _ _ => rfl) h_porto, R_portk_x (M := M) (K := K) rfl rfl (fun _ _ => rfl) (fun _ _ => rfl) (fun _ _ => rfl) h_portk, R_portr_x (M := M) (K := K) rfl rfl (fun _ _ => rfl) (fun _ _ => rfl) (fun _ _ => rfl) (fun _ _ => rfl) (fun _ _ => rfl) (fun _ _ => rfl) (fun _ _ => rfl) h_portr, R_portq_x (M := M) (K := K) (fun _ _ => rfl) rfl (fun _ _ => rfl) rfl h_portq, R_persons_x (M := M) (K := K) rfl (fun _ _ => rfl) (fun _ _ => rfl) (fun _ _ => rfl) (fun _ _ => rfl) (fun _ _ => rfl) (fun _ _ => rfl) (fun _ _ => rfl) (fun _ _ => rfl) (fun _ _ => rfl) h_persons, R_personb_x (M := M) (K := K) rfl (fun _ _ => rfl) rfl rfl (fun _ _ => rfl) (fun _ _ => rfl) (fun _ _ => rfl) (fun _ _ => rfl) (fun _ _ => rfl) h_personb, R_personz_x (M := M) (K := K) rfl (fun _ _ => rfl) (fun _ _ => rfl) (fun _ _ => rfl) h_personz⟩
theorem AQ_K (h : AQ M K) : AQ M (qw K 2156 0 0 v) := by
  obtain ⟨h1, h_built, h_time, h_lines, h_ends, h_cardn, h_cards, h_personn, h_rightn, h_rights, h_names, h_spaces, h_rooms, h2, h3, h_lockr, h_locku, h_macts, h_mstate⟩ := h
  exact ⟨AKr_K h1, R_built_x (M := M) (K := K) rfl rfl h_built, R_time_x (M := M) (K := K) rfl rfl h_time, R_lines_x (M := M) (K := K) rfl rfl h_lines, R_ends_x (M := M) (K := K) rfl (fun _ _ => rfl) (fun _ _ => rfl) (fun _ _ => rfl) (fun _ _ => rfl) (fun _ _ => rfl) h_ends, R_cardn_x (M := M) (K := K) rfl rfl h_cardn, R_cards_x (M := M) (K := K) rfl rfl (fun _ _ => rfl) (fun _ _ => rfl) (fun _ _ => rfl) h_cards, R_personn_x (M := M) (K := K) rfl rfl h_personn, R_rightn_x (M := M) (K := K) rfl rfl h_rightn, R_rights_x (M := M) (K := K) rfl (fun _ _ => rfl) (fun _ _ => rfl) (fun _ _ => rfl) (fun _ _ => rfl) (fun _ _ => rfl) (fun _ _ => rfl) h_rights, R_names_x (M := M) (K := K) rfl (fun _ _ => rfl) (fun _ _ => rfl) h_names, R_spaces_x (M := M) (K := K) rfl rfl rfl h_spaces, R_rooms_x (M := M) (K := K) rfl rfl rfl h_rooms, TL_E h2, R_lockb_x (M := M) (K := K) rfl rfl (fun _ _ => rfl) rfl (fun _ _ => rfl) (fun _ _ => rfl) h3, R_lockr_x (M := M) (K := K) rfl rfl (fun _ _ => rfl) (fun _ _ => rfl) h_lockr, R_locku_x (M := M) (K := K) rfl (fun _ _ => rfl) (fun _ _ => rfl) h_locku, R_macts_x (M := M) (K := K) (fun _ _ => rfl) (fun _ _ => rfl) (fun _ _ => rfl) (fun _ _ => rfl) (fun _ _ => rfl) (fun _ _ => rfl) (fun _ _ => rfl) (fun _ _ => rfl) h_macts, R_mstate_x (M := M) (K := K) rfl (fun _ _ => rfl) (fun _ _ => rfl) (fun _ _ => rfl) (fun _ _ => rfl) (fun _ _ => rfl) (fun _ _ => rfl) (fun _ _ => rfl) (fun _ _ => rfl) h_mstate⟩
theorem ask_core (h : AQ M K) (t5 : (M 824 12 0) ≤ 512) (l5 : (K 2156 24 0) ≤ 4100) (hb : (M 6 11 0) ≠ 0) (hM : (M 824 17 0) = (M 6 12 0)) (hrl : rl = b01 (kdC M 0)) (hr : (M 824 18 0) = rl) (hc : 0 ≤ c ∧ c < (M 824 8 0)) (p0 : 0 ≤ p) (p1 : p < (M 824 3 0)) (hroom : room = M 825 (13 * p) 0 ∨ room = M 825 (13 * p + 1) 0) (hn : M 825 (13 * p + 11) 0 ≠ -1 → M 825 (13 * p + 12) 0 < 20) : ∃ V, qf_X18_refused 20000 c p room K = some V ∧ ((V ≠ 0 ∧ qf_X0_askOne 20000 c p room M = some (V, M)) ∨ (V = 0 ∧ rl = 0 ∧ (K 2294 p 0) ≠ 0 ∧ qf_X0_askOne 20000 c p room M = some (7, M)) ∨ (V = 0 ∧ (rl ≠ 0 ∨ (K 2294 p 0) = 0) ∧ ∃ S T, qf_X0_askOne 20000 c p room M = some (0, S) ∧ qf_X18_let 20000 c p room K = some ((), T) ∧ AQ S T ∧ T 2156 0 0 = K 2156 0 0)) := by
  obtain ⟨V, e1, e2, -⟩ := V_both h t5 l5 hb hM (hr.trans hrl) hc p0 p1 hroom
  obtain ⟨S, T, l1, l2, l3, -, -, -, -, -, -, -, f2⟩ := let_AQ h t5 hb hM (hr.trans hrl) hc p0 p1 hroom hn
  have h_portn := h.1.1
  have qo := h.1.2.2.2.1 p p0 p1
  have J : ∀ x, qf_X0_askOne_J35 20000 c p room x M = if x = 0 then some (0, S) else some (x, M) := by
    intro x
    unfold qf_X0_askOne_J35
    rw [l1]
    by_cases e : x = 0
    · rw [if_pos e, if_pos e, e]
      rfl
    · rw [if_neg e, if_neg e]
  refine ⟨V, e2, ?_⟩
  unfold qf_X0_askOne
  rw [e1, hr, factOf_r (pnM_of h_portn) p0 p1 (by decide) (by decide)]
  by_cases g : V = 0
  · subst g
    by_cases g2 : rl = 0
    · by_cases g3 : (K 2294 p 0) = 0
      · refine Or.inr (Or.inr ⟨rfl, Or.inr g3, S, T, ?_, l2, l3, f2 2156 0 0 rfl⟩)
        refine qW_e (qW_bind (qW_some ?_))
        rw [if_pos rfl, if_pos g2]
        refine qW_bind (qW_some ?_)
        rw [if_pos (by omega), J, if_pos rfl]
        exact qW_some rfl
      · refine Or.inr (Or.inl ⟨rfl, g2, g3, ?_⟩)
        refine qW_e (qW_bind (qW_some ?_))
        rw [if_pos rfl, if_pos g2]
        refine qW_bind (qW_some ?_)
        rw [if_neg (by omega), J, if_neg (by decide)]
        exact qW_some rfl
    · refine Or.inr (Or.inr ⟨rfl, Or.inl g2, S, T, ?_, l2, l3, f2 2156 0 0 rfl⟩)
      refine qW_e (qW_bind (qW_some ?_))
      rw [if_pos rfl, if_neg g2, J, if_pos rfl]
      exact qW_some rfl
  · refine Or.inl ⟨g, ?_⟩
    refine qW_e (qW_bind (qW_some ?_))
    rw [if_neg g, J, if_neg g]
    exact qW_some rfl
theorem op_ask (h : AQ M K) (t5 : (M 824 12 0) ≤ 512) (l5 : (K 2156 24 0) ≤ 4100) : oK2 cI (qf_L_ask 20000 x1 x2 x3 M) (qf_X18_ask 20000 x1 x2 x3 K) (fun M' K' => AQ M' K') := by
  have hh := h
  obtain ⟨⟨h_portn, h_portw, h_portc, h_porto, h_portk, h_portr, h_portq, h_persons, h_personb, h_personz⟩, h_built, h_time, h_lines, h_ends, h_cardn, h_cards, h_personn, h_rightn, h_rights, h_names, h_spaces, h_rooms, hTL, hlb, h_lockr, h_locku, h_macts, h_mstate⟩ := hh
  have s_built := h_built
  unfold R_built at s_built
  have s_cardn := h_cardn
  unfold R_cardn at s_cardn
  have s_portn := h_portn
  unfold R_portn at s_portn
  have s_spaces := h_spaces
  unfold R_spaces at s_spaces
  have w1 : w32 ((M 824 3 0) - 1) = (M 824 3 0) - 1 := w32_id (by omega) (by omega)
  have w2 : w32 ((M 824 8 0) - 1) = (M 824 8 0) - 1 := w32_id (by omega) (by omega)
  unfold oK2
  by_cases hA : 0 ≤ x2 ∧ x2 < (M 824 3 0)
  · have qk := h_portk x2 hA.1 hA.2
    have hb : (M 6 11 0) ≠ 0 := by omega
    have z := h_rooms hb
    have eH := roomRows_r (m := 1) (pnM_of h_portn) hA.1 hA.2 (by omega) (by omega) (by decide) (by decide)
    have qo := h_porto x2 hA.1 hA.2
    have rows1 : (K 2298 x2 0) = M 825 (13 * x2 + 12) 0 := qk.2.1
    have rows2 : M 825 (13 * x2 + 11) 0 = -1 → (K 2298 x2 0) = 0 := by omega
    clear qk qo
    by_cases hR : x3 = M 825 (13 * x2) 0 ∨ x3 = M 825 (13 * x2 + 1) 0
    · have eR : qf_X0_isRoomOf 20000 x2 x3 M = some 1 := by rw [isRoomOf_r (pnM_of h_portn) hA.1 hA.2, b01_t hR]
      have eO : qf_X18_isOf 20000 x2 x3 K = some 1 := by rw [isOf_r h_portn h_portw (by omega) hA.1 hA.2, b01_t hR]
      by_cases hH : M 825 (13 * x2 + 11) 0 = -1 ∨ M 825 (13 * x2 + 12) 0 + 1 ≤ 20
      · rw [b01_t hH] at eH
        by_cases hC : 0 ≤ x1 ∧ x1 < (M 824 8 0)
        · obtain ⟨rl, hrl⟩ : ∃ rl, rl = b01 (kdC M 0) := ⟨_, rfl⟩
          have rl01 : rl = 0 ∨ rl = 1 := by rw [hrl]; exact b01_01
          have eL : qf_X11_isReleased 20000 M = some rl := by rw [hrl]; exact rel_c
          have eK : qf_X18_isReleased 20000 (qw K 2156 0 0 0) = some rl := by rw [hrl]; exact rel_k (M := M) (R_macts_x (M := M) (K := K) (fun _ _ => rfl) (fun _ _ => rfl) (fun _ _ => rfl) (fun _ _ => rfl) (fun _ _ => rfl) (fun _ _ => rfl) (fun _ _ => rfl) (fun _ _ => rfl) h_macts) (R_mstate_x (M := M) (K := K) rfl (fun _ _ => rfl) (fun _ _ => rfl) (fun _ _ => rfl) (fun _ _ => rfl) (fun _ _ => rfl) (fun _ _ => rfl) (fun _ _ => rfl) (fun _ _ => rfl) h_mstate)
          obtain ⟨V, eV, hV⟩ := ask_core (M := qAM M (M 6 12 0) rl) (K := qw K 2156 0 0 0) (rl := rl) (c := x1) (p := x2) (room := x3) (AQ_M h) t5 l5 hb rfl hrl rfl hC hA.1 hA.2 hR (fun y => by
            have y : M 825 (13 * x2 + 11) 0 ≠ -1 := y
            show M 825 (13 * x2 + 12) 0 < 20
            omega)
          have ik : (K 2294 x2 0) = (qw K 2156 0 0 0) 2294 x2 0 := rfl
          clear eR
          have eR : qf_X0_isRoomOf 20000 x2 x3 M = some 1 := by rw [isRoomOf_r (pnM_of h_portn) hA.1 hA.2, b01_t hR]
          rcases hV with ⟨g1, ea⟩ | ⟨g1, g2, g3, ea⟩ | ⟨g1, g2, S, T, ea, el, hS, hT0⟩
          · have ea2 : qf_X0_askOne 20000 x1 x2 x3 (qw (qw M 824 17 0 (M 6 12 0)) 824 18 0 rl) = some (V, qAM M (M 6 12 0) rl) := ea
            unfold qf_L_ask qf_X11_ask qf_X11_isPortal qf_X11_ask_J32 qf_X11_ask_J33 qf_X11_ask_J59 qf_X11_ask_J60 qf_X0_setMoment qf_X11_isCard qf_X18_ask qf_X18_ask_J24 qf_X18_ask_J25 qf_X18_ask_J53 qf_X18_ask_J57 qf_X18_ask_J58 qf_X18_ask_J101 qf_X18_ask_J103
            repeat' first
              | ((with_reducible refine qW_eq eR ?_); (try dsimp only))
              | ((with_reducible refine qW_eq eO ?_); (try dsimp only))
              | ((with_reducible refine qW_eq eH ?_); (try dsimp only))
              | ((with_reducible refine qW_eq eL ?_); (try dsimp only))
              | ((with_reducible refine qW_eq ea2 ?_); (try dsimp only))
              | ((with_reducible refine qW_eq eV ?_); (try dsimp only))
              | with_reducible refine qW_within (fun _ => ?_) (fun _ _ => ?_)
              | with_reducible refine qW_isIn (fun _ => ?_) (fun _ _ => ?_)
              | with_reducible refine qW_na (fun _ => ?_) (fun _ => ?_)
              | with_reducible refine qW_ns (fun _ => ?_) (fun _ => ?_)
              | (with_reducible refine qW_goes (fun _ => ?_) (fun _ _ => ?_) (fun _ _ => ?_) <;> (try dsimp only) <;> (try simp only [qw_ap, qfl1_ap, qfl2_ap, qcp1_ap, qcp2_ap, false_and, true_and, and_true, and_false, and_self, if_false, if_true, reduceIte, Nat.reduceEqDiff, Int.reduceEq, Int.reduceNeg]))
              | (with_reducible refine qW_stays (by omega) (fun _ => ?_) (fun _ => ?_) <;> (try dsimp only) <;> (try simp only [qw_ap, qfl1_ap, qfl2_ap, qcp1_ap, qcp2_ap, false_and, true_and, and_true, and_false, and_self, if_false, if_true, reduceIte, Nat.reduceEqDiff, Int.reduceEq, Int.reduceNeg]))
              | (exfalso; omega)
              | with_reducible refine qW_bind ?_
              | (with_reducible refine qW_bnd ?_; try simp only [qw_ap, qfl1_ap, qfl2_ap, qcp1_ap, qcp2_ap, false_and, true_and, and_true, and_false, and_self, if_false, if_true, reduceIte, Nat.reduceEqDiff, Int.reduceEq, Int.reduceNeg])
              | (with_reducible refine qW_some ?_; (try dsimp only); try simp only [qw_ap, qfl1_ap, qfl2_ap, qcp1_ap, qcp2_ap, false_and, true_and, and_true, and_false, and_self, if_false, if_true, reduceIte, Nat.reduceEqDiff, Int.reduceEq, Int.reduceNeg])
              | ((with_reducible refine qW_no ?_); omega)
              | with_reducible refine qW_pos rfl ?_
              | ((with_reducible refine qW_pos ?_ ?_); omega)
              | ((with_reducible refine qW_neg ?_ ?_); (first | omega | decide))
              | with_reducible refine qW_ite (fun _ => ?_) (fun _ => ?_)
              | dsimp only
            all_goals exact ⟨fun _ => rfl, AQ_A (AQ_M h)⟩
          · have ea2 : qf_X0_askOne 20000 x1 x2 x3 (qw (qw M 824 17 0 (M 6 12 0)) 824 18 0 rl) = some (7, qAM M (M 6 12 0) rl) := ea
            rw [g1] at eV
            have g4 : (K 2294 x2 0) ≠ 0 := g3
            unfold qf_L_ask qf_X11_ask qf_X11_isPortal qf_X11_ask_J32 qf_X11_ask_J33 qf_X11_ask_J59 qf_X11_ask_J60 qf_X0_setMoment qf_X11_isCard qf_X18_ask qf_X18_ask_J24 qf_X18_ask_J25 qf_X18_ask_J53 qf_X18_ask_J57 qf_X18_ask_J58 qf_X18_ask_J101 qf_X18_ask_J103
            repeat' first
              | ((with_reducible refine qW_eq eR ?_); (try dsimp only))
              | ((with_reducible refine qW_eq eO ?_); (try dsimp only))
              | ((with_reducible refine qW_eq eH ?_); (try dsimp only))
              | ((with_reducible refine qW_eq eL ?_); (try dsimp only))
              | ((with_reducible refine qW_eq ea2 ?_); (try dsimp only))
              | ((with_reducible refine qW_eq eV ?_); (try dsimp only))
              | ((with_reducible refine qW_eq eK ?_); (try dsimp only))
              | with_reducible refine qW_within (fun _ => ?_) (fun _ _ => ?_)
              | with_reducible refine qW_isIn (fun _ => ?_) (fun _ _ => ?_)
              | with_reducible refine qW_na (fun _ => ?_) (fun _ => ?_)
              | with_reducible refine qW_ns (fun _ => ?_) (fun _ => ?_)
              | (with_reducible refine qW_goes (fun _ => ?_) (fun _ _ => ?_) (fun _ _ => ?_) <;> (try dsimp only) <;> (try simp only [qw_ap, qfl1_ap, qfl2_ap, qcp1_ap, qcp2_ap, false_and, true_and, and_true, and_false, and_self, if_false, if_true, reduceIte, Nat.reduceEqDiff, Int.reduceEq, Int.reduceNeg]))
              | (with_reducible refine qW_stays (by omega) (fun _ => ?_) (fun _ => ?_) <;> (try dsimp only) <;> (try simp only [qw_ap, qfl1_ap, qfl2_ap, qcp1_ap, qcp2_ap, false_and, true_and, and_true, and_false, and_self, if_false, if_true, reduceIte, Nat.reduceEqDiff, Int.reduceEq, Int.reduceNeg]))
              | (exfalso; omega)
              | with_reducible refine qW_bind ?_
              | (with_reducible refine qW_bnd ?_; try simp only [qw_ap, qfl1_ap, qfl2_ap, qcp1_ap, qcp2_ap, false_and, true_and, and_true, and_false, and_self, if_false, if_true, reduceIte, Nat.reduceEqDiff, Int.reduceEq, Int.reduceNeg])
              | (with_reducible refine qW_some ?_; (try dsimp only); try simp only [qw_ap, qfl1_ap, qfl2_ap, qcp1_ap, qcp2_ap, false_and, true_and, and_true, and_false, and_self, if_false, if_true, reduceIte, Nat.reduceEqDiff, Int.reduceEq, Int.reduceNeg])
              | ((with_reducible refine qW_no ?_); omega)
              | with_reducible refine qW_pos rfl ?_
              | ((with_reducible refine qW_pos ?_ ?_); omega)
              | ((with_reducible refine qW_neg ?_ ?_); (first | omega | decide))
              | with_reducible refine qW_ite (fun _ => ?_) (fun _ => ?_)
              | dsimp only
            all_goals exact ⟨fun _ => rfl, AQ_A (AQ_M h)⟩
          · have ea2 : qf_X0_askOne 20000 x1 x2 x3 (qw (qw M 824 17 0 (M 6 12 0)) 824 18 0 rl) = some (0, S) := ea
            rw [g1] at eV
            have g4 : rl ≠ 0 ∨ (K 2294 x2 0) = 0 := g2
            have hT1 : T 2156 0 0 = 0 := hT0
            unfold qf_L_ask qf_X11_ask qf_X11_isPortal qf_X11_ask_J32 qf_X11_ask_J33 qf_X11_ask_J59 qf_X11_ask_J60 qf_X0_setMoment qf_X11_isCard qf_X18_ask qf_X18_ask_J24 qf_X18_ask_J25 qf_X18_ask_J53 qf_X18_ask_J57 qf_X18_ask_J58 qf_X18_ask_J101 qf_X18_ask_J103
            repeat' first
              | ((with_reducible refine qW_eq eR ?_); (try dsimp only))
              | ((with_reducible refine qW_eq eO ?_); (try dsimp only))
              | ((with_reducible refine qW_eq eH ?_); (try dsimp only))
              | ((with_reducible refine qW_eq eL ?_); (try dsimp only))
              | ((with_reducible refine qW_eq ea2 ?_); (try dsimp only))
              | ((with_reducible refine qW_eq eV ?_); (try dsimp only))
              | ((with_reducible refine qW_eq eK ?_); (try dsimp only))
              | ((with_reducible refine qW_eq el ?_); (try dsimp only))
              | with_reducible refine qW_within (fun _ => ?_) (fun _ _ => ?_)
              | with_reducible refine qW_isIn (fun _ => ?_) (fun _ _ => ?_)
              | with_reducible refine qW_na (fun _ => ?_) (fun _ => ?_)
              | with_reducible refine qW_ns (fun _ => ?_) (fun _ => ?_)
              | (with_reducible refine qW_goes (fun _ => ?_) (fun _ _ => ?_) (fun _ _ => ?_) <;> (try dsimp only) <;> (try simp only [qw_ap, qfl1_ap, qfl2_ap, qcp1_ap, qcp2_ap, false_and, true_and, and_true, and_false, and_self, if_false, if_true, reduceIte, Nat.reduceEqDiff, Int.reduceEq, Int.reduceNeg]))
              | (with_reducible refine qW_stays (by omega) (fun _ => ?_) (fun _ => ?_) <;> (try dsimp only) <;> (try simp only [qw_ap, qfl1_ap, qfl2_ap, qcp1_ap, qcp2_ap, false_and, true_and, and_true, and_false, and_self, if_false, if_true, reduceIte, Nat.reduceEqDiff, Int.reduceEq, Int.reduceNeg]))
              | (exfalso; omega)
              | with_reducible refine qW_bind ?_
              | (with_reducible refine qW_bnd ?_; try simp only [qw_ap, qfl1_ap, qfl2_ap, qcp1_ap, qcp2_ap, false_and, true_and, and_true, and_false, and_self, if_false, if_true, reduceIte, Nat.reduceEqDiff, Int.reduceEq, Int.reduceNeg])
              | (with_reducible refine qW_some ?_; (try dsimp only); try simp only [qw_ap, qfl1_ap, qfl2_ap, qcp1_ap, qcp2_ap, false_and, true_and, and_true, and_false, and_self, if_false, if_true, reduceIte, Nat.reduceEqDiff, Int.reduceEq, Int.reduceNeg])
              | ((with_reducible refine qW_no ?_); omega)
              | with_reducible refine qW_pos rfl ?_
              | ((with_reducible refine qW_pos ?_ ?_); omega)
              | ((with_reducible refine qW_neg ?_ ?_); (first | omega | decide))
              | with_reducible refine qW_ite (fun _ => ?_) (fun _ => ?_)
              | dsimp only
            all_goals exact ⟨hT1, fun _ => rfl, AQ_A hS⟩
        · unfold qf_L_ask qf_X11_ask qf_X11_isPortal qf_X11_ask_J32 qf_X11_ask_J33 qf_X11_ask_J59 qf_X11_ask_J60 qf_X0_setMoment qf_X11_isCard qf_X18_ask qf_X18_ask_J24 qf_X18_ask_J25 qf_X18_ask_J53 qf_X18_ask_J57 qf_X18_ask_J58 qf_X18_ask_J101 qf_X18_ask_J103
          repeat' first
            | ((with_reducible refine qW_eq eR ?_); (try dsimp only))
            | ((with_reducible refine qW_eq eO ?_); (try dsimp only))
            | ((with_reducible refine qW_eq eH ?_); (try dsimp only))
            | with_reducible refine qW_within (fun _ => ?_) (fun _ _ => ?_)
            | with_reducible refine qW_isIn (fun _ => ?_) (fun _ _ => ?_)
            | with_reducible refine qW_na (fun _ => ?_) (fun _ => ?_)
            | with_reducible refine qW_ns (fun _ => ?_) (fun _ => ?_)
            | (with_reducible refine qW_goes (fun _ => ?_) (fun _ _ => ?_) (fun _ _ => ?_) <;> (try dsimp only) <;> (try simp only [qw_ap, qfl1_ap, qfl2_ap, qcp1_ap, qcp2_ap, false_and, true_and, and_true, and_false, and_self, if_false, if_true, reduceIte, Nat.reduceEqDiff, Int.reduceEq, Int.reduceNeg]))
            | (with_reducible refine qW_stays (by omega) (fun _ => ?_) (fun _ => ?_) <;> (try dsimp only) <;> (try simp only [qw_ap, qfl1_ap, qfl2_ap, qcp1_ap, qcp2_ap, false_and, true_and, and_true, and_false, and_self, if_false, if_true, reduceIte, Nat.reduceEqDiff, Int.reduceEq, Int.reduceNeg]))
            | (exfalso; omega)
            | with_reducible refine qW_bind ?_
            | (with_reducible refine qW_bnd ?_; try simp only [qw_ap, qfl1_ap, qfl2_ap, qcp1_ap, qcp2_ap, false_and, true_and, and_true, and_false, and_self, if_false, if_true, reduceIte, Nat.reduceEqDiff, Int.reduceEq, Int.reduceNeg])
            | (with_reducible refine qW_some ?_; (try dsimp only); try simp only [qw_ap, qfl1_ap, qfl2_ap, qcp1_ap, qcp2_ap, false_and, true_and, and_true, and_false, and_self, if_false, if_true, reduceIte, Nat.reduceEqDiff, Int.reduceEq, Int.reduceNeg])
            | ((with_reducible refine qW_no ?_); omega)
            | with_reducible refine qW_pos rfl ?_
            | ((with_reducible refine qW_pos ?_ ?_); omega)
            | ((with_reducible refine qW_neg ?_ ?_); (first | omega | decide))
            | with_reducible refine qW_ite (fun _ => ?_) (fun _ => ?_)
            | dsimp only
          all_goals exact ⟨fun x => absurd x (by decide), AQ_K h⟩
      · rw [b01_f hH] at eH
        unfold qf_L_ask qf_X11_ask qf_X11_isPortal qf_X11_ask_J32 qf_X11_ask_J33 qf_X11_ask_J59 qf_X11_ask_J60 qf_X0_setMoment qf_X11_isCard qf_X18_ask qf_X18_ask_J24 qf_X18_ask_J25 qf_X18_ask_J53 qf_X18_ask_J57 qf_X18_ask_J58 qf_X18_ask_J101 qf_X18_ask_J103
        repeat' first
          | ((with_reducible refine qW_eq eR ?_); (try dsimp only))
          | ((with_reducible refine qW_eq eO ?_); (try dsimp only))
          | ((with_reducible refine qW_eq eH ?_); (try dsimp only))
          | with_reducible refine qW_within (fun _ => ?_) (fun _ _ => ?_)
          | with_reducible refine qW_isIn (fun _ => ?_) (fun _ _ => ?_)
          | with_reducible refine qW_na (fun _ => ?_) (fun _ => ?_)
          | with_reducible refine qW_ns (fun _ => ?_) (fun _ => ?_)
          | (with_reducible refine qW_goes (fun _ => ?_) (fun _ _ => ?_) (fun _ _ => ?_) <;> (try dsimp only) <;> (try simp only [qw_ap, qfl1_ap, qfl2_ap, qcp1_ap, qcp2_ap, false_and, true_and, and_true, and_false, and_self, if_false, if_true, reduceIte, Nat.reduceEqDiff, Int.reduceEq, Int.reduceNeg]))
          | (with_reducible refine qW_stays (by omega) (fun _ => ?_) (fun _ => ?_) <;> (try dsimp only) <;> (try simp only [qw_ap, qfl1_ap, qfl2_ap, qcp1_ap, qcp2_ap, false_and, true_and, and_true, and_false, and_self, if_false, if_true, reduceIte, Nat.reduceEqDiff, Int.reduceEq, Int.reduceNeg]))
          | (exfalso; omega)
          | with_reducible refine qW_bind ?_
          | (with_reducible refine qW_bnd ?_; try simp only [qw_ap, qfl1_ap, qfl2_ap, qcp1_ap, qcp2_ap, false_and, true_and, and_true, and_false, and_self, if_false, if_true, reduceIte, Nat.reduceEqDiff, Int.reduceEq, Int.reduceNeg])
          | (with_reducible refine qW_some ?_; (try dsimp only); try simp only [qw_ap, qfl1_ap, qfl2_ap, qcp1_ap, qcp2_ap, false_and, true_and, and_true, and_false, and_self, if_false, if_true, reduceIte, Nat.reduceEqDiff, Int.reduceEq, Int.reduceNeg])
          | ((with_reducible refine qW_no ?_); omega)
          | with_reducible refine qW_pos rfl ?_
          | ((with_reducible refine qW_pos ?_ ?_); omega)
          | ((with_reducible refine qW_neg ?_ ?_); (first | omega | decide))
          | with_reducible refine qW_ite (fun _ => ?_) (fun _ => ?_)
          | dsimp only
        all_goals exact ⟨fun x => absurd x (by decide), AQ_K h⟩
    · have eR : qf_X0_isRoomOf 20000 x2 x3 M = some 0 := by rw [isRoomOf_r (pnM_of h_portn) hA.1 hA.2, b01_f hR]
      have eO : qf_X18_isOf 20000 x2 x3 K = some 0 := by rw [isOf_r h_portn h_portw (by omega) hA.1 hA.2, b01_f hR]
      unfold qf_L_ask qf_X11_ask qf_X11_isPortal qf_X11_ask_J32 qf_X11_ask_J33 qf_X11_ask_J59 qf_X11_ask_J60 qf_X0_setMoment qf_X11_isCard qf_X18_ask qf_X18_ask_J24 qf_X18_ask_J25 qf_X18_ask_J53 qf_X18_ask_J57 qf_X18_ask_J58 qf_X18_ask_J101 qf_X18_ask_J103
      repeat' first
        | ((with_reducible refine qW_eq eR ?_); (try dsimp only))
        | ((with_reducible refine qW_eq eO ?_); (try dsimp only))
        | with_reducible refine qW_within (fun _ => ?_) (fun _ _ => ?_)
        | with_reducible refine qW_isIn (fun _ => ?_) (fun _ _ => ?_)
        | with_reducible refine qW_na (fun _ => ?_) (fun _ => ?_)
        | with_reducible refine qW_ns (fun _ => ?_) (fun _ => ?_)
        | (with_reducible refine qW_goes (fun _ => ?_) (fun _ _ => ?_) (fun _ _ => ?_) <;> (try dsimp only) <;> (try simp only [qw_ap, qfl1_ap, qfl2_ap, qcp1_ap, qcp2_ap, false_and, true_and, and_true, and_false, and_self, if_false, if_true, reduceIte, Nat.reduceEqDiff, Int.reduceEq, Int.reduceNeg]))
        | (with_reducible refine qW_stays (by omega) (fun _ => ?_) (fun _ => ?_) <;> (try dsimp only) <;> (try simp only [qw_ap, qfl1_ap, qfl2_ap, qcp1_ap, qcp2_ap, false_and, true_and, and_true, and_false, and_self, if_false, if_true, reduceIte, Nat.reduceEqDiff, Int.reduceEq, Int.reduceNeg]))
        | (exfalso; omega)
        | with_reducible refine qW_bind ?_
        | (with_reducible refine qW_bnd ?_; try simp only [qw_ap, qfl1_ap, qfl2_ap, qcp1_ap, qcp2_ap, false_and, true_and, and_true, and_false, and_self, if_false, if_true, reduceIte, Nat.reduceEqDiff, Int.reduceEq, Int.reduceNeg])
        | (with_reducible refine qW_some ?_; (try dsimp only); try simp only [qw_ap, qfl1_ap, qfl2_ap, qcp1_ap, qcp2_ap, false_and, true_and, and_true, and_false, and_self, if_false, if_true, reduceIte, Nat.reduceEqDiff, Int.reduceEq, Int.reduceNeg])
        | ((with_reducible refine qW_no ?_); omega)
        | with_reducible refine qW_pos rfl ?_
        | ((with_reducible refine qW_pos ?_ ?_); omega)
        | ((with_reducible refine qW_neg ?_ ?_); (first | omega | decide))
        | with_reducible refine qW_ite (fun _ => ?_) (fun _ => ?_)
        | dsimp only
      all_goals exact ⟨fun x => absurd x (by decide), AQ_K h⟩
  · have eO : qf_X18_isOf 20000 x2 x3 K = some 0 := by
      refine qW_e ?_
      unfold qf_X18_isOf
      refine qW_isIn (fun _ => ?_) (fun x y => by omega)
      rw [if_pos rfl]
      exact qW_some rfl
    unfold qf_L_ask qf_X11_ask qf_X11_isPortal qf_X11_ask_J32 qf_X11_ask_J33 qf_X11_ask_J59 qf_X11_ask_J60 qf_X0_setMoment qf_X11_isCard qf_X18_ask qf_X18_ask_J24 qf_X18_ask_J25 qf_X18_ask_J53 qf_X18_ask_J57 qf_X18_ask_J58 qf_X18_ask_J101 qf_X18_ask_J103
    repeat' first
      | ((with_reducible refine qW_eq eO ?_); (try dsimp only))
      | with_reducible refine qW_within (fun _ => ?_) (fun _ _ => ?_)
      | with_reducible refine qW_isIn (fun _ => ?_) (fun _ _ => ?_)
      | with_reducible refine qW_na (fun _ => ?_) (fun _ => ?_)
      | with_reducible refine qW_ns (fun _ => ?_) (fun _ => ?_)
      | (with_reducible refine qW_goes (fun _ => ?_) (fun _ _ => ?_) (fun _ _ => ?_) <;> (try dsimp only) <;> (try simp only [qw_ap, qfl1_ap, qfl2_ap, qcp1_ap, qcp2_ap, false_and, true_and, and_true, and_false, and_self, if_false, if_true, reduceIte, Nat.reduceEqDiff, Int.reduceEq, Int.reduceNeg]))
      | (with_reducible refine qW_stays (by omega) (fun _ => ?_) (fun _ => ?_) <;> (try dsimp only) <;> (try simp only [qw_ap, qfl1_ap, qfl2_ap, qcp1_ap, qcp2_ap, false_and, true_and, and_true, and_false, and_self, if_false, if_true, reduceIte, Nat.reduceEqDiff, Int.reduceEq, Int.reduceNeg]))
      | (exfalso; omega)
      | with_reducible refine qW_bind ?_
      | (with_reducible refine qW_bnd ?_; try simp only [qw_ap, qfl1_ap, qfl2_ap, qcp1_ap, qcp2_ap, false_and, true_and, and_true, and_false, and_self, if_false, if_true, reduceIte, Nat.reduceEqDiff, Int.reduceEq, Int.reduceNeg])
      | (with_reducible refine qW_some ?_; (try dsimp only); try simp only [qw_ap, qfl1_ap, qfl2_ap, qcp1_ap, qcp2_ap, false_and, true_and, and_true, and_false, and_self, if_false, if_true, reduceIte, Nat.reduceEqDiff, Int.reduceEq, Int.reduceNeg])
      | ((with_reducible refine qW_no ?_); omega)
      | with_reducible refine qW_pos rfl ?_
      | ((with_reducible refine qW_pos ?_ ?_); omega)
      | ((with_reducible refine qW_neg ?_ ?_); (first | omega | decide))
      | with_reducible refine qW_ite (fun _ => ?_) (fun _ => ?_)
      | dsimp only
    all_goals exact ⟨fun x => absurd x (by decide), AQ_K h⟩
end ASK
