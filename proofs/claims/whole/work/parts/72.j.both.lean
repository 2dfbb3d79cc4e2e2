/-! ===== the call both ===== -/
section BOTH
variable {M K : qm} {c d p room rl x1 x2 x3 x4 : Int}
theorem both_core (h : AQ M K) (t5 : (M 824 12 0) ≤ 512) (l5 : (K 2156 24 0) ≤ 4100) (hb : (M 6 11 0) ≠ 0) (hM : (M 824 17 0) = (M 6 12 0)) (hrl : rl = b01 (kdC M 0)) (hr : (M 824 18 0) = rl) (hc : 0 ≤ c ∧ c < (M 824 8 0)) (hd : 0 ≤ d ∧ d < (M 824 8 0)) (p0 : 0 ≤ p) (p1 : p < (M 824 3 0)) (hroom : room = M 825 (13 * p) 0 ∨ room = M 825 (13 * p + 1) 0) (hn : M 825 (13 * p + 11) 0 ≠ -1 → M 825 (13 * p + 12) 0 < 19) : ∃ V1 V2, qf_X18_refused 20000 c p room K = some V1 ∧ qf_X18_refused 20000 d p room K = some V2 ∧ 0 ≤ V1 ∧ 0 ≤ V2 ∧ ((V1 ≠ 0 ∧ qf_X0_askTwo 20000 c d p room M = some (V1, M)) ∨ (V1 = 0 ∧ V2 ≠ 0 ∧ qf_X0_askTwo 20000 c d p room M = some (V2, M)) ∨ (V1 = 0 ∧ V2 = 0 ∧ rl = 0 ∧ (K 2312 c 0) = (K 2312 d 0) ∧ qf_X0_askTwo 20000 c d p room M = some (8, M)) ∨ (V1 = 0 ∧ V2 = 0 ∧ (rl ≠ 0 ∨ (K 2312 c 0) ≠ (K 2312 d 0)) ∧ ∃ T1 S T, qf_X18_let 20000 c p room K = some ((), T1) ∧ qf_X18_let 20000 d p room T1 = some ((), T) ∧ qf_X0_askTwo 20000 c d p room M = some (0, S) ∧ AQ S T ∧ T 2156 0 0 = K 2156 0 0)) := by
  obtain ⟨V1, e1, e2, v1⟩ := V_both h t5 l5 hb hM (hr.trans hrl) hc p0 p1 hroom
  obtain ⟨V2, e3, e4, v2⟩ := V_both h t5 l5 hb hM (hr.trans hrl) hd p0 p1 hroom
  obtain ⟨S1, T1, l1, l2, l3, l4, l5, l6, l7, l8, l9, f1, f2⟩ := let_AQ h t5 hb hM (hr.trans hrl) hc p0 p1 hroom (fun x => by have := hn x; omega)
  have g0 : S1 6 11 0 = M 6 11 0 := f1 6 11 0 rfl
  have g1 : S1 824 12 0 = M 824 12 0 := f1 824 12 0 rfl
  have g2 : S1 824 8 0 = M 824 8 0 := f1 824 8 0 rfl
  have g3 : S1 824 3 0 = M 824 3 0 := f1 824 3 0 rfl
  obtain ⟨S, T, k1, k2, k3, -, -, -, -, -, -, -, f3⟩ := let_AQ l3 (c := d) (p := p) (room := room) (by rw [g1]; exact t5) (by rw [g0]; exact hb) l4 l5 ⟨hd.1, by rw [g2]; exact hd.2⟩ p0 (by rw [g3]; exact p1) (by rw [l8, l9]; exact hroom) (fun x => by rw [l6] at x; have := hn x; omega)
  have s_cardn := h.2.2.2.2.2.1
  unfold R_cardn at s_cardn
  have hc60 : 0 ≤ c ∧ c < 60 := by omega
  have hd60 : 0 ≤ d ∧ d < 60 := by omega
  have qc := h.2.2.2.2.2.2.1 c hc.1 hc.2
  have qd := h.2.2.2.2.2.2.1 d hd.1 hd.2
  have J : ∀ x, qf_X0_askTwo_J60 20000 c d p room x M = if x = 0 then some (0, S) else some (x, M) := by
    intro x
    unfold qf_X0_askTwo_J60
    rw [l1]
    by_cases e : x = 0
    · rw [if_pos e, if_pos e, e]
      refine qW_e (qW_bind (qW_some ?_))
      rw [k1]
      exact qW_bind (qW_some (qW_some rfl))
    · rw [if_neg e, if_neg e]
  refine ⟨V1, V2, e2, e4, v1, v2, ?_⟩
  unfold qf_X0_askTwo qf_X0_askTwo_J25
  rw [e1, e3, hr]
  simp only [if_pos hc60, if_pos hd60]
  by_cases g : V1 = 0
  · subst g
    by_cases z : V2 = 0
    · subst z
      by_cases w : rl = 0
      · by_cases u : (M 828 c 0) = (M 828 d 0)
        · refine Or.inr (Or.inr (Or.inl ⟨rfl, rfl, w, by omega, ?_⟩))
          refine qW_e (qW_bind (qW_some ?_))
          rw [if_pos rfl]
          refine qW_bind (qW_some ?_)
          rw [if_pos rfl, if_pos w, if_pos u, J, if_neg (by decide)]
          exact qW_some rfl
        · refine Or.inr (Or.inr (Or.inr ⟨rfl, rfl, Or.inr (by omega), T1, S, T, l2, k2, ?_, k3, (f3 2156 0 0 rfl).trans (f2 2156 0 0 rfl)⟩))
          refine qW_e (qW_bind (qW_some ?_))
          rw [if_pos rfl]
          refine qW_bind (qW_some ?_)
          rw [if_pos rfl, if_pos w, if_neg u, J, if_pos rfl]
          exact qW_some rfl
      · refine Or.inr (Or.inr (Or.inr ⟨rfl, rfl, Or.inl w, T1, S, T, l2, k2, ?_, k3, (f3 2156 0 0 rfl).trans (f2 2156 0 0 rfl)⟩))
        refine qW_e (qW_bind (qW_some ?_))
        rw [if_pos rfl]
        refine qW_bind (qW_some ?_)
        rw [if_pos rfl, if_neg w, J, if_pos rfl]
        exact qW_some rfl
    · refine Or.inr (Or.inl ⟨rfl, z, ?_⟩)
      refine qW_e (qW_bind (qW_some ?_))
      rw [if_pos rfl]
      refine qW_bind (qW_some ?_)
      rw [if_neg z, J, if_neg z]
      exact qW_some rfl
  · refine Or.inl ⟨g, ?_⟩
    refine qW_e (qW_bind (qW_some ?_))
    rw [if_neg g, if_neg g, J, if_neg g]
    exact qW_some rfl
theorem op_both (h : AQ M K) (t5 : (M 824 12 0) ≤ 512) (l5 : (K 2156 24 0) ≤ 4100) : oK2 cI (qf_L_both 20000 x1 x2 x3 x4 M) (qf_X18_both 20000 x1 x2 x3 x4 K) (fun M' K' => AQ M' K') := by
  have hh := h
  obtain ⟨⟨h_portn, h_portw, h_portc, h_porto, h_portk, h_portr, h_portq, h_persons, h_personb, h_personz⟩, h_built, h_time, h_lines, h_ends, h_cardn, h_cards, h_personn, h_rightn, h_rights, h_names, h_spaces, h_rooms, hTL, hlb, h_lockr, h_locku, h_macts, h_mstate⟩ := hh
  have s_built := h_built
  unfold R_built at s_built
  have s_cardn := h_cardn
  unfold R_cardn at s_cardn
  have s_portn := h_portn
  unfold R_portn at s_portn
  have s_spaces := h_spaces
  unfold R_spaces at s_spaces
  have w1 : w32 ((M 824 3 0) - 1) = (M 824 3 0) - 1 := w32_id (by omega) (by omega)
  have w2 : w32 ((M 824 8 0) - 1) = (M 824 8 0) - 1 := w32_id (by omega) (by omega)
  unfold oK2
  by_cases hA : 0 ≤ x3 ∧ x3 < (M 824 3 0)
  · have qk := h_portk x3 hA.1 hA.2
    have hb : (M 6 11 0) ≠ 0 := by omega
    have z := h_rooms hb
    have eH := roomRows_r (m := 2) (pnM_of h_portn) hA.1 hA.2 (by omega) (by omega) (by decide) (by decide)
    have rows1 : (K 2298 x3 0) = M 825 (13 * x3 + 12) 0 := qk.2.1
    have rows2 : M 825 (13 * x3 + 11) 0 = -1 → (K 2298 x3 0) = 0 := by omega
    clear qk
    by_cases hR : x4 = M 825 (13 * x3) 0 ∨ x4 = M 825 (13 * x3 + 1) 0
    · have eR : qf_X0_isRoomOf 20000 x3 x4 M = some 1 := by rw [isRoomOf_r (pnM_of h_portn) hA.1 hA.2, b01_t hR]
      have eO : qf_X18_isOf 20000 x3 x4 K = some 1 := by rw [isOf_r h_portn h_portw (by omega) hA.1 hA.2, b01_t hR]
      by_cases hH : M 825 (13 * x3 + 11) 0 = -1 ∨ M 825 (13 * x3 + 12) 0 + 2 ≤ 20
      · rw [b01_t hH] at eH
        by_cases hC : (0 ≤ x1 ∧ x1 < (M 824 8 0)) ∧ 0 ≤ x2 ∧ x2 < (M 824 8 0)
        · obtain ⟨rl, hrl⟩ : ∃ rl, rl = b01 (kdC M 0) := ⟨_, rfl⟩
          have rl01 : rl = 0 ∨ rl = 1 := by rw [hrl]; exact b01_01
          have eL : qf_X11_isReleased 20000 M = some rl := by rw [hrl]; exact rel_c
          have eK : qf_X18_isReleased 20000 (qw K 2156 0 0 0) = some rl := by rw [hrl]; exact rel_k (M := M) (R_macts_x (M := M) (K := K) (fun _ _ => rfl) (fun _ _ => rfl) (fun _ _ => rfl) (fun _ _ => rfl) (fun _ _ => rfl) (fun _ _ => rfl) (fun _ _ => rfl) (fun _ _ => rfl) h_macts) (R_mstate_x (M := M) (K := K) rfl (fun _ _ => rfl) (fun _ _ => rfl) (fun _ _ => rfl) (fun _ _ => rfl) (fun _ _ => rfl) (fun _ _ => rfl) (fun _ _ => rfl) (fun _ _ => rfl) h_mstate)
          obtain ⟨V1, V2, eV, eW, v1, v2, hV⟩ := both_core (M := qAM M (M 6 12 0) rl) (K := qw K 2156 0 0 0) (rl := rl) (c := x1) (d := x2) (p := x3) (room := x4) (AQ_M h) t5 l5 hb rfl hrl rfl hC.1 hC.2 hA.1 hA.2 hR (fun y => by
            have y : M 825 (13 * x3 + 11) 0 ≠ -1 := y
            show M 825 (13 * x3 + 12) 0 < 19
            omega)
          rcases hV with ⟨g1, ea⟩ | ⟨g1, g2, ea⟩ | ⟨g1, g2, g3, g4, ea⟩ | ⟨g1, g2, g3, T1, S, T, el, em, ea, hS, hT0⟩
          · have ea2 : qf_X0_askTwo 20000 x1 x2 x3 x4 (qw (qw M 824 17 0 (M 6 12 0)) 824 18 0 rl) = some (V1, qAM M (M 6 12 0) rl) := ea
            unfold qf_L_both qf_X11_both qf_X11_both_J25 qf_X11_both_J26 qf_X11_both_J54 qf_X11_both_J55 qf_X11_both_J81 qf_X11_both_J82 qf_X0_setMoment qf_X11_isPortal qf_X11_isCard qf_X18_both qf_X18_both_J41 qf_X18_both_J42 qf_X18_both_J70 qf_X18_both_J74 qf_X18_both_J75 qf_X18_both_J111 qf_X18_both_J145 qf_X18_both_J147
            repeat' first
              | ((with_reducible refine qW_eq eR ?_); (try dsimp only))
              | ((with_reducible refine qW_eq eO ?_); (try dsimp only))
              | ((with_reducible refine qW_eq eH ?_); (try dsimp only))
              | ((with_reducible refine qW_eq eL ?_); (try dsimp only))
              | ((with_reducible refine qW_eq ea2 ?_); (try dsimp only))
              | ((with_reducible refine qW_eq eV ?_); (try dsimp only))
              | ((with_reducible refine qW_eq eW ?_); (try dsimp only))
              | with_reducible refine qW_within (fun _ => ?_) (fun _ _ => ?_)
              | with_reducible refine qW_isIn (fun _ => ?_) (fun _ _ => ?_)
              | with_reducible refine qW_na (fun _ => ?_) (fun _ => ?_)
              | with_reducible refine qW_ns (fun _ => ?_) (fun _ => ?_)
              | (with_reducible refine qW_goes (fun _ => ?_) (fun _ _ => ?_) (fun _ _ => ?_) <;> (try dsimp only) <;> (try simp only [qw_ap, qfl1_ap, qfl2_ap, qcp1_ap, qcp2_ap, false_and, true_and, and_true, and_false, and_self, if_false, if_true, reduceIte, Nat.reduceEqDiff, Int.reduceEq, Int.reduceNeg]))
              | (with_reducible refine qW_stays (by omega) (fun _ => ?_) (fun _ => ?_) <;> (try dsimp only) <;> (try simp only [qw_ap, qfl1_ap, qfl2_ap, qcp1_ap, qcp2_ap, false_and, true_and, and_true, and_false, and_self, if_false, if_true, reduceIte, Nat.reduceEqDiff, Int.reduceEq, Int.reduceNeg]))
              | (exfalso; omega)
              | with_reducible refine qW_bind ?_
              | (with_reducible refine qW_bnd ?_; try simp only [qw_ap, qfl1_ap, qfl2_ap, qcp1_ap, qcp2_ap, false_and, true_and, and_true, and_false, and_self, if_false, if_true, reduceIte, Nat.reduceEqDiff, Int.reduceEq, Int.reduceNeg])
              | (with_reducible refine qW_some ?_; (try dsimp only); try simp only [qw_ap, qfl1_ap, qfl2_ap, qcp1_ap, qcp2_ap, false_and, true_and, and_true, and_false, and_self, if_false, if_true, reduceIte, Nat.reduceEqDiff, Int.reduceEq, Int.reduceNeg])
              | ((with_reducible refine qW_no ?_); omega)
              | with_reducible refine qW_pos rfl ?_
              | ((with_reducible refine qW_pos ?_ ?_); omega)
              | ((with_reducible refine qW_neg ?_ ?_); (first | omega | decide))
              | with_reducible refine qW_ite (fun _ => ?_) (fun _ => ?_)
              | dsimp only
            all_goals first | exact ⟨fun x => absurd x (by decide), AQ_K h⟩ | exact ⟨fun _ => rfl, AQ_A (AQ_M h)⟩
          · have ea2 : qf_X0_askTwo 20000 x1 x2 x3 x4 (qw (qw M 824 17 0 (M 6 12 0)) 824 18 0 rl) = some (V2, qAM M (M 6 12 0) rl) := ea
            rw [g1] at eV
            unfold qf_L_both qf_X11_both qf_X11_both_J25 qf_X11_both_J26 qf_X11_both_J54 qf_X11_both_J55 qf_X11_both_J81 qf_X11_both_J82 qf_X0_setMoment qf_X11_isPortal qf_X11_isCard qf_X18_both qf_X18_both_J41 qf_X18_both_J42 qf_X18_both_J70 qf_X18_both_J74 qf_X18_both_J75 qf_X18_both_J111 qf_X18_both_J145 qf_X18_both_J147
            repeat' first
              | ((with_reducible refine qW_eq eR ?_); (try dsimp only))
              | ((with_reducible refine qW_eq eO ?_); (try dsimp only))
              | ((with_reducible refine qW_eq eH ?_); (try dsimp only))
              | ((with_reducible refine qW_eq eL ?_); (try dsimp only))
              | ((with_reducible refine qW_eq ea2 ?_); (try dsimp only))
              | ((with_reducible refine qW_eq eV ?_); (try dsimp only))
              | ((with_reducible refine qW_eq eW ?_); (try dsimp only))
              | with_reducible refine qW_within (fun _ => ?_) (fun _ _ => ?_)
              | with_reducible refine qW_isIn (fun _ => ?_) (fun _ _ => ?_)
              | with_reducible refine qW_na (fun _ => ?_) (fun _ => ?_)
              | with_reducible refine qW_ns (fun _ => ?_) (fun _ => ?_)
              | (with_reducible refine qW_goes (fun _ => ?_) (fun _ _ => ?_) (fun _ _ => ?_) <;> (try dsimp only) <;> (try simp only [qw_ap, qfl1_ap, qfl2_ap, qcp1_ap, qcp2_ap, false_and, true_and, and_true, and_false, and_self, if_false, if_true, reduceIte, Nat.reduceEqDiff, Int.reduceEq, Int.reduceNeg]))
              | (with_reducible refine qW_stays (by omega) (fun _ => ?_) (fun _ => ?_) <;> (try dsimp only) <;> (try simp only [qw_ap, qfl1_ap, qfl2_ap, qcp1_ap, qcp2_ap, false_and, true_and, and_true, and_false, and_self, if_false, if_true, reduceIte, Nat.reduceEqDiff, Int.reduceEq, Int.reduceNeg]))
              | (exfalso; omega)
              | with_reducible refine qW_bind ?_
              | (with_reducible refine qW_bnd ?_; try simp only [qw_ap, qfl1_ap, qfl2_ap, qcp1_ap, qcp2_ap, false_and, true_and, and_true, and_false, and_self, if_false, if_true, reduceIte, Nat.reduceEqDiff, Int.reduceEq, Int.reduceNeg])
              | (with_reducible refine qW_some ?_; (try dsimp only); try simp only [qw_ap, qfl1_ap, qfl2_ap, qcp1_ap, qcp2_ap, false_and, true_and, and_true, and_false, and_self, if_false, if_true, reduceIte, Nat.reduceEqDiff, Int.reduceEq, Int.reduceNeg])
              | ((with_reducible refine qW_no ?_); omega)
              | with_reducible refine qW_pos rfl ?_
              | ((with_reducible refine qW_pos ?_ ?_); omega)
              | ((with_reducible refine qW_neg ?_ ?_); (first | omega | decide))
              | with_reducible refine qW_ite (fun _ => ?_) (fun _ => ?_)
              | dsimp only
            all_goals first | exact ⟨fun x => absurd x (by decide), AQ_K h⟩ | exact ⟨fun _ => rfl, AQ_A (AQ_M h)⟩
          · have ea2 : qf_X0_askTwo 20000 x1 x2 x3 x4 (qw (qw M 824 17 0 (M 6 12 0)) 824 18 0 rl) = some (8, qAM M (M 6 12 0) rl) := ea
            rw [g1] at eV
            rw [g2] at eW
            have g5 : (K 2312 x1 0) = (K 2312 x2 0) := g4
            unfold qf_L_both qf_X11_both qf_X11_both_J25 qf_X11_both_J26 qf_X11_both_J54 qf_X11_both_J55 qf_X11_both_J81 qf_X11_both_J82 qf_X0_setMoment qf_X11_isPortal qf_X11_isCard qf_X18_both qf_X18_both_J41 qf_X18_both_J42 qf_X18_both_J70 qf_X18_both_J74 qf_X18_both_J75 qf_X18_both_J111 qf_X18_both_J145 qf_X18_both_J147
            repeat' first
              | ((with_reducible refine qW_eq eR ?_); (try dsimp only))
              | ((with_reducible refine qW_eq eO ?_); (try dsimp only))
              | ((with_reducible refine qW_eq eH ?_); (try dsimp only))
              | ((with_reducible refine qW_eq eL ?_); (try dsimp only))
              | ((with_reducible refine qW_eq ea2 ?_); (try dsimp only))
              | ((with_reducible refine qW_eq eV ?_); (try dsimp only))
              | ((with_reducible refine qW_eq eW ?_); (try dsimp only))
              | ((with_reducible refine qW_eq eK ?_); (try dsimp only))
              | with_reducible refine qW_within (fun _ => ?_) (fun _ _ => ?_)
              | with_reducible refine qW_isIn (fun _ => ?_) (fun _ _ => ?_)
              | with_reducible refine qW_na (fun _ => ?_) (fun _ => ?_)
              | with_reducible refine qW_ns (fun _ => ?_) (fun _ => ?_)
              | (with_reducible refine qW_goes (fun _ => ?_) (fun _ _ => ?_) (fun _ _ => ?_) <;> (try dsimp only) <;> (try simp only [qw_ap, qfl1_ap, qfl2_ap, qcp1_ap, qcp2_ap, false_and, true_and, and_true, and_false, and_self, if_false, if_true, reduceIte, Nat.reduceEqDiff, Int.reduceEq, Int.reduceNeg]))
              | (with_reducible refine qW_stays (by omega) (fun _ => ?_) (fun _ => ?_) <;> (try dsimp only) <;> (try simp only [qw_ap, qfl1_ap, qfl2_ap, qcp1_ap, qcp2_ap, false_and, true_and, and_true, and_false, and_self, if_false, if_true, reduceIte, Nat.reduceEqDiff, Int.reduceEq, Int.reduceNeg]))
              | (exfalso; omega)
              | with_reducible refine qW_bind ?_
              | (with_reducible refine qW_bnd ?_; try simp only [qw_ap, qfl1_ap, qfl2_ap, qcp1_ap, qcp2_ap, false_and, true_and, and_true, and_false, and_self, if_false, if_true, reduceIte, Nat.reduceEqDiff, Int.reduceEq, Int.reduceNeg])
              | (with_reducible refine qW_some ?_; (try dsimp only); try simp only [qw_ap, qfl1_ap, qfl2_ap, qcp1_ap, qcp2_ap, false_and, true_and, and_true, and_false, and_self, if_false, if_true, reduceIte, Nat.reduceEqDiff, Int.reduceEq, Int.reduceNeg])
              | ((with_reducible refine qW_no ?_); omega)
              | with_reducible refine qW_pos rfl ?_
              | ((with_reducible refine qW_pos ?_ ?_); omega)
              | ((with_reducible refine qW_neg ?_ ?_); (first | omega | decide))
              | with_reducible refine qW_ite (fun _ => ?_) (fun _ => ?_)
              | dsimp only
            all_goals first | exact ⟨fun x => absurd x (by decide), AQ_K h⟩ | exact ⟨fun _ => rfl, AQ_A (AQ_M h)⟩
          · have ea2 : qf_X0_askTwo 20000 x1 x2 x3 x4 (qw (qw M 824 17 0 (M 6 12 0)) 824 18 0 rl) = some (0, S) := ea
            rw [g1] at eV
            rw [g2] at eW
            have g5 : rl ≠ 0 ∨ (K 2312 x1 0) ≠ (K 2312 x2 0) := g3
            have hT1 : T 2156 0 0 = 0 := hT0
            unfold qf_L_both qf_X11_both qf_X11_both_J25 qf_X11_both_J26 qf_X11_both_J54 qf_X11_both_J55 qf_X11_both_J81 qf_X11_both_J82 qf_X0_setMoment qf_X11_isPortal qf_X11_isCard qf_X18_both qf_X18_both_J41 qf_X18_both_J42 qf_X18_both_J70 qf_X18_both_J74 qf_X18_both_J75 qf_X18_both_J111 qf_X18_both_J145 qf_X18_both_J147
            repeat' first
              | ((with_reducible refine qW_eq eR ?_); (try dsimp only))
              | ((with_reducible refine qW_eq eO ?_); (try dsimp only))
              | ((with_reducible refine qW_eq eH ?_); (try dsimp only))
              | ((with_reducible refine qW_eq eL ?_); (try dsimp only))
              | ((with_reducible refine qW_eq ea2 ?_); (try dsimp only))
              | ((with_reducible refine qW_eq eV ?_); (try dsimp only))
              | ((with_reducible refine qW_eq eW ?_); (try dsimp only))
              | ((with_reducible refine qW_eq eK ?_); (try dsimp only))
              | ((with_reducible refine qW_eq el ?_); (try dsimp only))
              | ((with_reducible refine qW_eq em ?_); (try dsimp only))
              | with_reducible refine qW_within (fun _ => ?_) (fun _ _ => ?_)
              | with_reducible refine qW_isIn (fun _ => ?_) (fun _ _ => ?_)
              | with_reducible refine qW_na (fun _ => ?_) (fun _ => ?_)
              | with_reducible refine qW_ns (fun _ => ?_) (fun _ => ?_)
              | (with_reducible refine qW_goes (fun _ => ?_) (fun _ _ => ?_) (fun _ _ => ?_) <;> (try dsimp only) <;> (try simp only [qw_ap, qfl1_ap, qfl2_ap, qcp1_ap, qcp2_ap, false_and, true_and, and_true, and_false, and_self, if_false, if_true, reduceIte, Nat.reduceEqDiff, Int.reduceEq, Int.reduceNeg]))
              | (with_reducible refine qW_stays (by omega) (fun _ => ?_) (fun _ => ?_) <;> (try dsimp only) <;> (try simp only [qw_ap, qfl1_ap, qfl2_ap, qcp1_ap, qcp2_ap, false_and, true_and, and_true, and_false, and_self, if_false, if_true, reduceIte, Nat.reduceEqDiff, Int.reduceEq, Int.reduceNeg]))
              | (exfalso; omega)
              | with_reducible refine qW_bind ?_
              | (with_reducible refine qW_bnd ?_; try simp only [qw_ap, qfl1_ap, qfl2_ap, qcp1_ap, qcp2_ap, false_and, true_and, and_true, and_false, and_self, if_false, if_true, reduceIte, Nat.reduceEqDiff, Int.reduceEq, Int.reduceNeg])
              | (with_reducible refine qW_some ?_; (try dsimp only); try simp only [qw_ap, qfl1_ap, qfl2_ap, qcp1_ap, qcp2_ap, false_and, true_and, and_true, and_false, and_self, if_false, if_true, reduceIte, Nat.reduceEqDiff, Int.reduceEq, Int.reduceNeg])
              | ((with_reducible refine qW_no ?_); omega)
              | with_reducible refine qW_pos rfl ?_
              | ((with_reducible refine qW_pos ?_ ?_); omega)
              | ((with_reducible refine qW_neg ?_ ?_); (first | omega | decide))
              | with_reducible refine qW_ite (fun _ => ?_) (fun _ => ?_)
              | dsimp only
            all_goals first | exact ⟨fun x => absurd x (by decide), AQ_K h⟩ | exact ⟨hT1, fun _ => rfl, AQ_A hS⟩
        · skip
          unfold qf_L_both qf_X11_both qf_X11_both_J25 qf_X11_both_J26 qf_X11_both_J54 qf_X11_both_J55 qf_X11_both_J81 qf_X11_both_J82 qf_X0_setMoment qf_X11_isPortal qf_X11_isCard qf_X18_both qf_X18_both_J41 qf_X18_both_J42 qf_X18_both_J70 qf_X18_both_J74 qf_X18_both_J75 qf_X18_both_J111 qf_X18_both_J145 qf_X18_both_J147
          repeat' first
            | ((with_reducible refine qW_eq eR ?_); (try dsimp only))
            | ((with_reducible refine qW_eq eO ?_); (try dsimp only))
            | ((with_reducible refine qW_eq eH ?_); (try dsimp only))
            | with_reducible refine qW_within (fun _ => ?_) (fun _ _ => ?_)
            | with_reducible refine qW_isIn (fun _ => ?_) (fun _ _ => ?_)
            | with_reducible refine qW_na (fun _ => ?_) (fun _ => ?_)
            | with_reducible refine qW_ns (fun _ => ?_) (fun _ => ?_)
            | (with_reducible refine qW_goes (fun _ => ?_) (fun _ _ => ?_) (fun _ _ => ?_) <;> (try dsimp only) <;> (try simp only [qw_ap, qfl1_ap, qfl2_ap, qcp1_ap, qcp2_ap, false_and, true_and, and_true, and_false, and_self, if_false, if_true, reduceIte, Nat.reduceEqDiff, Int.reduceEq, Int.reduceNeg]))
            | (with_reducible refine qW_stays (by omega) (fun _ => ?_) (fun _ => ?_) <;> (try dsimp only) <;> (try simp only [qw_ap, qfl1_ap, qfl2_ap, qcp1_ap, qcp2_ap, false_and, true_and, and_true, and_false, and_self, if_false, if_true, reduceIte, Nat.reduceEqDiff, Int.reduceEq, Int.reduceNeg]))
            | (exfalso; omega)
            | with_reducible refine qW_bind ?_
            | (with_reducible refine qW_bnd ?_; try simp only [qw_ap, qfl1_ap, qfl2_ap, qcp1_ap, qcp2_ap, false_and, true_and, and_true, and_false, and_self, if_false, if_true, reduceIte, Nat.reduceEqDiff, Int.reduceEq, Int.reduceNeg])
            | (with_reducible refine qW_some ?_; (try dsimp only); try simp only [qw_ap, qfl1_ap, qfl2_ap, qcp1_ap, qcp2_ap, false_and, true_and, and_true, and_false, and_self, if_false, if_true, reduceIte, Nat.reduceEqDiff, Int.reduceEq, Int.reduceNeg])
            | ((with_reducible refine qW_no ?_); omega)
            | with_reducible refine qW_pos rfl ?_
            | ((with_reducible refine qW_pos ?_ ?_); omega)
            | ((with_reducible refine qW_neg ?_ ?_); (first | omega | decide))
            | with_reducible refine qW_ite (fun _ => ?_) (fun _ => ?_)
            | dsimp only
          all_goals exact ⟨fun x => absurd x (by decide), AQ_K h⟩
      · rw [b01_f hH] at eH
        unfold qf_L_both qf_X11_both qf_X11_both_J25 qf_X11_both_J26 qf_X11_both_J54 qf_X11_both_J55 qf_X11_both_J81 qf_X11_both_J82 qf_X0_setMoment qf_X11_isPortal qf_X11_isCard qf_X18_both qf_X18_both_J41 qf_X18_both_J42 qf_X18_both_J70 qf_X18_both_J74 qf_X18_both_J75 qf_X18_both_J111 qf_X18_both_J145 qf_X18_both_J147
        repeat' first
          | ((with_reducible refine qW_eq eR ?_); (try dsimp only))
          | ((with_reducible refine qW_eq eO ?_); (try dsimp only))
          | ((with_reducible refine qW_eq eH ?_); (try dsimp only))
          | with_reducible refine qW_within (fun _ => ?_) (fun _ _ => ?_)
          | with_reducible refine qW_isIn (fun _ => ?_) (fun _ _ => ?_)
          | with_reducible refine qW_na (fun _ => ?_) (fun _ => ?_)
          | with_reducible refine qW_ns (fun _ => ?_) (fun _ => ?_)
          | (with_reducible refine qW_goes (fun _ => ?_) (fun _ _ => ?_) (fun _ _ => ?_) <;> (try dsimp only) <;> (try simp only [qw_ap, qfl1_ap, qfl2_ap, qcp1_ap, qcp2_ap, false_and, true_and, and_true, and_false, and_self, if_false, if_true, reduceIte, Nat.reduceEqDiff, Int.reduceEq, Int.reduceNeg]))
          | (with_reducible refine qW_stays (by omega) (fun _ => ?_) (fun _ => ?_) <;> (try dsimp only) <;> (try simp only [qw_ap, qfl1_ap, qfl2_ap, qcp1_ap, qcp2_ap, false_and, true_and, and_true, and_false, and_self, if_false, if_true, reduceIte, Nat.reduceEqDiff, Int.reduceEq, Int.reduceNeg]))
          | (exfalso; omega)
          | with_reducible refine qW_bind ?_
          | (with_reducible refine qW_bnd ?_; try simp only [qw_ap, qfl1_ap, qfl2_ap, qcp1_ap, qcp2_ap, false_and, true_and, and_true, and_false, and_self, if_false, if_true, reduceIte, Nat.reduceEqDiff, Int.reduceEq, Int.reduceNeg])
          | (with_reducible refine qW_some ?_; (try dsimp only); try simp only [qw_ap, qfl1_ap, qfl2_ap, qcp1_ap, qcp2_ap, false_and, true_and, and_true, and_false, and_self, if_false, if_true, reduceIte, Nat.reduceEqDiff, Int.reduceEq, Int.reduceNeg])
          | ((with_reducible refine qW_no ?_); omega)
          | with_reducible refine qW_pos rfl ?_
          | ((with_reducible refine qW_pos ?_ ?_); omega)
          | ((with_reducible refine qW_neg ?_ ?_); (first | omega | decide))
          | with_reducible refine qW_ite (fun _ => ?_) (fun _ => ?_)
          | dsimp only
        all_goals exact ⟨fun x => absurd x (by decide), AQ_K h⟩
    · have eR : qf_X0_isRoomOf 20000 x3 x4 M = some 0 := by rw [isRoomOf_r (pnM_of h_portn) hA.1 hA.2, b01_f hR]
      have eO : qf_X18_isOf 20000 x3 x4 K = some 0 := by rw [isOf_r h_portn h_portw (by omega) hA.1 hA.2, b01_f hR]
      unfold qf_L_both qf_X11_both qf_X11_both_J25 qf_X11_both_J26 qf_X11_both_J54 qf_X11_both_J55 qf_X11_both_J81 qf_X11_both_J82 qf_X0_setMoment qf_X11_isPortal qf_X11_isCard qf_X18_both qf_X18_both_J41 qf_X18_both_J42 qf_X18_both_J70 qf_X18_both_J74 qf_X18_both_J75 qf_X18_both_J111 qf_X18_both_J145 qf_X18_both_J147
      repeat' first
        | ((with_reducible refine qW_eq eR ?_); (try dsimp only))
        | ((with_reducible refine qW_eq eO ?_); (try dsimp only))
        | with_reducible refine qW_within (fun _ => ?_) (fun _ _ => ?_)
        | with_reducible refine qW_isIn (fun _ => ?_) (fun _ _ => ?_)
        | with_reducible refine qW_na (fun _ => ?_) (fun _ => ?_)
        | with_reducible refine qW_ns (fun _ => ?_) (fun _ => ?_)
        | (with_reducible refine qW_goes (fun _ => ?_) (fun _ _ => ?_) (fun _ _ => ?_) <;> (try dsimp only) <;> (try simp only [qw_ap, qfl1_ap, qfl2_ap, qcp1_ap, qcp2_ap, false_and, true_and, and_true, and_false, and_self, if_false, if_true, reduceIte, Nat.reduceEqDiff, Int.reduceEq, Int.reduceNeg]))
        | (with_reducible refine qW_stays (by omega) (fun _ => ?_) (fun _ => ?_) <;> (try dsimp only) <;> (try simp only [qw_ap, qfl1_ap, qfl2_ap, qcp1_ap, qcp2_ap, false_and, true_and, and_true, and_false, and_self, if_false, if_true, reduceIte, Nat.reduceEqDiff, Int.reduceEq, Int.reduceNeg]))
        | (exfalso; omega)
        | with_reducible refine qW_bind ?_
        | (with_reducible refine qW_bnd ?_; try simp only [qw_ap, qfl1_ap, qfl2_ap, qcp1_ap, qcp2_ap, false_and, true_and, and_true, and_false, and_self, if_false, if_true, reduceIte, Nat.reduceEqDiff, Int.reduceEq, Int.reduceNeg])
        | (with_reducible refine qW_some ?_; (try dsimp only); try simp only [qw_ap, qfl1_ap, qfl2_ap, qcp1_ap, qcp2_ap, false_and, true_and, and_true, and_false, and_self, if_false, if_true, reduceIte, Nat.reduceEqDiff, Int.reduceEq, Int.reduceNeg])
        | ((with_reducible refine qW_no ?_); omega)
        | with_reducible refine qW_pos rfl ?_
        | ((with_reducible refine qW_pos ?_ ?_); omega)
        | ((with_reducible refine qW_neg ?_ ?_); (first | omega | decide))
        | with_reducible refine qW_ite (fun _ => ?_) (fun _ => ?_)
        | dsimp only
      all_goals exact ⟨fun x => absurd x (by decide), AQ_K h⟩
  · have eO : qf_X18_isOf 20000 x3 x4 K = some 0 := by
      refine qW_e ?_
      unfold qf_X18_isOf
      refine qW_isIn (fun _ => ?_) (fun x y => by omega)
      rw [if_pos rfl]
      exact qW_some rfl
    unfold qf_L_both qf_X11_both qf_X11_both_J25 qf_X11_both_J26 qf_X11_both_J54 qf_X11_both_J55 qf_X11_both_J81 qf_X11_both_J82 qf_X0_setMoment qf_X11_isPortal qf_X11_isCard qf_X18_both qf_X18_both_J41 qf_X18_both_J42 qf_X18_both_J70 qf_X18_both_J74 qf_X18_both_J75 qf_X18_both_J111 qf_X18_both_J145 qf_X18_both_J147
    repeat' first
      | ((with_reducible refine qW_eq eO ?_); (try dsimp only))
      | with_reducible refine qW_within (fun _ => ?_) (fun _ _ => ?_)
      | with_reducible refine qW_isIn (fun _ => ?_) (fun _ _ => ?_)
      | with_reducible refine qW_na (fun _ => ?_) (fun _ => ?_)
      | with_reducible refine qW_ns (fun _ => ?_) (fun _ => ?_)
      | (with_reducible refine qW_goes (fun _ => ?_) (fun _ _ => ?_) (fun _ _ => ?_) <;> (try dsimp only) <;> (try simp only [qw_ap, qfl1_ap, qfl2_ap, qcp1_ap, qcp2_ap, false_and, true_and, and_true, and_false, and_self, if_false, if_true, reduceIte, Nat.reduceEqDiff, Int.reduceEq, Int.reduceNeg]))
      | (with_reducible refine qW_stays (by omega) (fun _ => ?_) (fun _ => ?_) <;> (try dsimp only) <;> (try simp only [qw_ap, qfl1_ap, qfl2_ap, qcp1_ap, qcp2_ap, false_and, true_and, and_true, and_false, and_self, if_false, if_true, reduceIte, Nat.reduceEqDiff, Int.reduceEq, Int.reduceNeg]))
      | (exfalso; omega)
      | with_reducible refine qW_bind ?_
      | (with_reducible refine qW_bnd ?_; try simp only [qw_ap, qfl1_ap, qfl2_ap, qcp1_ap, qcp2_ap, false_and, true_and, and_true, and_false, and_self, if_false, if_true, reduceIte, Nat.reduceEqDiff, Int.reduceEq, Int.reduceNeg])
      | (with_reducible refine qW_some ?_; (try dsimp only); try simp only [qw_ap, qfl1_ap, qfl2_ap, qcp1_ap, qcp2_ap, false_and, true_and, and_true, and_false, and_self, if_false, if_true, reduceIte, Nat.reduceEqDiff, Int.reduceEq, Int.reduceNeg])
      | ((with_reducible refine qW_no ?_); omega)
      | with_reducible refine qW_pos rfl ?_
      | ((with_reducible refine qW_pos ?_ ?_); omega)
      | ((with_reducible refine qW_neg ?_ ?_); (first | omega | decide))
      | with_reducible refine qW_ite (fun _ => ?_) (fun _ => ?_)
      | dsimp only
    all_goals exact ⟨fun x => absurd x (by decide), AQ_K h⟩
end BOTH
