section OFFC
variable {M K S T : qm} {p a b x1 x2 v : Int}
theorem off_fin (h : OFX S T) (hk : R_portk M K) (e3 : (S 824 3 0) = (M 824 3 0)) (et : (S 824 12 0) = (M 824 12 0)) (h11 : S 825 (13 * p + 11) 0 = -1) (h12 : S 825 (13 * p + 12) 0 = 0) (ho : ∀ i, i ≠ p → S 825 (13 * i + 11) 0 = M 825 (13 * i + 11) 0 ∧ S 825 (13 * i + 12) 0 = M 825 (13 * i + 12) 0) (hT : ∀ i, T 2297 i 0 = K 2297 i 0 ∧ T 2298 i 0 = K 2298 i 0) : AKr S (qw (qw T 2298 p 0 0) 2297 p 0 2147483647) := by
  obtain ⟨h_portn, h_portw, h_portc, h_porto, h_portr, h_portq, h_persons, h_personb, h_personz, -⟩ := h
  refine ⟨?_, ?_, ?_, ?_, ?_, ?_, ?_, ?_, ?_, ?_⟩
  · exact h_portn
  · exact h_portw
  · exact h_portc
  · exact h_porto
  · intro i i0 i1
    by_cases e : i = p
    · subst e
      rw [h11, h12, qw_s, qw_a (b := 2298) (by decide), qw_s]
      exact ⟨Or.inl ⟨rfl, rfl, rfl⟩, rfl, by decide, by decide⟩
    · have z := hk i i0 (by rw [← e3]; exact i1)
      rw [(ho i e).1, (ho i e).2, qw_i (a := 2297) e, qw_a (b := 2297) (by decide), (hT i).1, qw_a (b := 2298) (by decide), qw_i e, (hT i).2, et]
      exact z
  · intro i k i0 i1 k0 k1
    have k1 : k < (qw (qw T 2298 p 0 0) 2297 p 0 2147483647) 2298 i 0 := k1
    rw [qw_a (by decide)] at k1
    by_cases e : i = p
    · subst e
      rw [qw_s] at k1
      omega
    · rw [qw_i e] at k1
      exact h_portr i k i0 i1 k0 k1
  · exact h_portq
  · exact h_persons
  · exact h_personb
  · exact h_personz
theorem pk8_x {i : Int} (f : Int) (f0 : 8 ≤ f) (f1 : f < 13) (i0 : 0 ≤ i) : pk8 M (qw M 825 (13 * i + f) 0 v) := by
  refine ⟨fun j g g0 g1 => ?_, ?_, fun b x y h1 h2 => ?_⟩
  · rw [qw_i (by omega)]
  · rw [qw_i (by omega)]
  · rw [qw_a h1]
theorem OFX_w (h : OFX M K) (p0 : 0 ≤ p) : OFX (qw (qw M 825 (13 * p + 11) 0 a) 825 (13 * p + 12) 0 b) K := by
  obtain ⟨h_portn, h_portw, h_portc, h_porto, h_portr, h_portq, h_persons, h_personb, h_personz, h_time, h_lines, h_ends, h_cardn, h_cards, h_personn, h_rightn, h_rights, h_names, h_spaces, h_rooms, hTL, h_againstn, h_against⟩ := h
  obtain ⟨g1, g2, g3, g4⟩ := pk8_all (T := K) (pk8_t (pk8_x (M := M) (i := p) (v := a) 11 (by decide) (by decide) p0) (pk8_x (M := qw M 825 (13 * p + 11) 0 a) (i := p) (v := b) 12 (by decide) (by decide) p0)) (fun _ _ _ _ _ => rfl) ⟨h_portn, h_portw, h_portc, h_portq⟩
  refine ⟨g1, g2, g3, ?_, R_portr_x (M := M) (K := K) rfl rfl (fun _ _ => rfl) (fun _ _ => rfl) (fun _ _ => rfl) (fun _ _ => rfl) (fun _ _ => rfl) (fun _ _ => rfl) (fun _ _ => rfl) h_portr, g4, R_persons_x (M := M) (K := K) rfl (fun _ _ => rfl) (fun _ _ => rfl) (fun _ _ => rfl) (fun _ _ => rfl) (fun _ _ => rfl) (fun _ _ => rfl) (fun _ _ => rfl) (fun _ _ => rfl) (fun _ _ => rfl) h_persons, R_personb_x (M := M) (K := K) rfl (fun _ _ => rfl) rfl rfl (fun _ _ => rfl) (fun _ _ => rfl) (fun _ _ => rfl) (fun _ _ => rfl) (fun _ _ => rfl) h_personb, R_personz_x (M := M) (K := K) rfl (fun _ _ => rfl) (fun _ _ => rfl) (fun _ _ => rfl) h_personz, R_time_x (M := M) (K := K) rfl rfl h_time, R_lines_x (M := M) (K := K) rfl rfl h_lines, R_ends_x (M := M) (K := K) rfl (fun _ _ => rfl) (fun _ _ => rfl) (fun _ _ => rfl) (fun _ _ => rfl) (fun _ _ => rfl) h_ends, R_cardn_x (M := M) (K := K) rfl rfl h_cardn, R_cards_x (M := M) (K := K) rfl rfl (fun _ _ => rfl) (fun _ _ => rfl) (fun _ _ => rfl) h_cards, R_personn_x (M := M) (K := K) rfl rfl h_personn, R_rightn_x (M := M) (K := K) rfl rfl h_rightn, R_rights_x (M := M) (K := K) rfl (fun _ _ => rfl) (fun _ _ => rfl) (fun _ _ => rfl) (fun _ _ => rfl) (fun _ _ => rfl) (fun _ _ => rfl) h_rights, R_names_x (M := M) (K := K) rfl (fun _ _ => rfl) (fun _ _ => rfl) h_names, R_spaces_x (M := M) (K := K) rfl rfl rfl h_spaces, R_rooms_x (M := M) (K := K) rfl rfl rfl h_rooms, ?_, R_againstn_x (M := M) (K := K) rfl rfl h_againstn, R_against_x (M := M) (K := K) rfl (fun _ _ => rfl) (fun _ _ => rfl) (fun _ _ => rfl) (fun _ _ => rfl) (fun _ _ => rfl) h_against⟩
  · intro i i0 i1
    have z := h_porto i i0 i1
    rw [qw_i (x := 13 * i + 8) (by omega), qw_i (x := 13 * i + 8) (by omega), qw_i (x := 13 * i + 9) (by omega), qw_i (x := 13 * i + 9) (by omega), qw_i (x := 13 * i + 10) (by omega), qw_i (x := 13 * i + 10) (by omega)]
    exact z
  · obtain ⟨h_telln, h_tellt, h_tellc, h_tellr, h_notek, h_noteo, h_notex⟩ := hTL
    exact ⟨R_telln_x (M := M) (K := K) rfl rfl rfl h_telln, R_tellt_x (M := M) (K := K) rfl rfl rfl (fun _ _ => rfl) (fun _ _ => rfl) (fun _ _ => rfl) (fun _ _ => rfl) (fun _ _ => rfl) h_tellt, R_tellc_x (M := M) (K := K) rfl rfl (fun _ _ => rfl) (fun _ _ => rfl) (fun _ _ => rfl) h_tellc, R_tellr_x (M := M) (K := K) rfl rfl (fun _ _ => rfl) (fun _ _ => rfl) (fun _ _ => rfl) h_tellr, R_notek_x (M := M) (K := K) rfl rfl (fun _ _ => rfl) (fun _ _ => rfl) (fun _ _ => rfl) (fun _ _ => rfl) h_notek, R_noteo_x (M := M) (K := K) rfl (fun _ _ => rfl) h_noteo, R_notex_x (M := M) (K := K) rfl rfl (fun _ _ => rfl) (fun _ _ => rfl) h_notex⟩
theorem OFX_K (h : OFX M K) : OFX M (qw K 2156 0 0 v) := by
  obtain ⟨h_portn, h_portw, h_portc, h_porto, h_portr, h_portq, h_persons, h_personb, h_personz, h_time, h_lines, h_ends, h_cardn, h_cards, h_personn, h_rightn, h_rights, h_names, h_spaces, h_rooms, hTL, h_againstn, h_against⟩ := h
  exact ⟨R_portn_x (M := M) (K := K) rfl rfl rfl (fun _ _ => rfl) (fun _ _ => rfl) (fun _ _ => rfl) rfl h_portn, R_portw_x (M := M) (K := K) rfl rfl (fun _ _ => rfl) rfl (fun _ _ => rfl) (fun _ _ => rfl) (fun _ _ => rfl) (fun _ _ => rfl) h_portw, R_portc_x (M := M) (K := K) rfl (fun _ _ => rfl) (fun _ _ => rfl) (fun _ _ => rfl) (fun _ _ => rfl) (fun _ _ => rfl) (fun _ _ => rfl) (fun _ _ => rfl) h_portc, R_porto_x (M := M) (K := K) rfl rfl (fun _ _ => rfl) (fun _ _ => rfl) (fun _ _ => rfl) (fun _ _ => rfl) h_porto, R_portr_x (M := M) (K := K) rfl rfl (fun _ _ => rfl) (fun _ _ => rfl) (fun _ _ => rfl) (fun _ _ => rfl) (fun _ _ => rfl) (fun _ _ => rfl) (fun _ _ => rfl) h_portr, R_portq_x (M := M) (K := K) (fun _ _ => rfl) rfl (fun _ _ => rfl) rfl h_portq, R_persons_x (M := M) (K := K) rfl (fun _ _ => rfl) (fun _ _ => rfl) (fun _ _ => rfl) (fun _ _ => rfl) (fun _ _ => rfl) (fun _ _ => rfl) (fun _ _ => rfl) (fun _ _ => rfl) (fun _ _ => rfl) h_persons, R_personb_x (M := M) (K := K) rfl (fun _ _ => rfl) rfl rfl (fun _ _ => rfl) (fun _ _ => rfl) (fun _ _ => rfl) (fun _ _ => rfl) (fun _ _ => rfl) h_personb, R_personz_x (M := M) (K := K) rfl (fun _ _ => rfl) (fun _ _ => rfl) (fun _ _ => rfl) h_personz, R_time_x (M := M) (K := K) rfl rfl h_time, R_lines_x (M := M) (K := K) rfl rfl h_lines, R_ends_x (M := M) (K := K) rfl (fun _ _ => rfl) (fun _ _ => rfl) (fun _ _ => rfl) (fun _ _ => rfl) (fun _ _ => rfl) h_ends, R_cardn_x (M := M) (K := K) rfl rfl h_cardn, R_cards_x (M := M) (K := K) rfl rfl (fun _ _ => rfl) (fun _ _ => rfl) (fun _ _ => rfl) h_cards, R_personn_x (M := M) (K := K) rfl rfl h_personn, R_rightn_x (M := M) (K := K) rfl rfl h_rightn, R_rights_x (M := M) (K := K) rfl (fun _ _ => rfl) (fun _ _ => rfl) (fun _ _ => rfl) (fun _ _ => rfl) (fun _ _ => rfl) (fun _ _ => rfl) h_rights, R_names_x (M := M) (K := K) rfl (fun _ _ => rfl) (fun _ _ => rfl) h_names, R_spaces_x (M := M) (K := K) rfl rfl rfl h_spaces, R_rooms_x (M := M) (K := K) rfl rfl rfl h_rooms, TL_E hTL, R_againstn_x (M := M) (K := K) rfl rfl h_againstn, R_against_x (M := M) (K := K) rfl (fun _ _ => rfl) (fun _ _ => rfl) (fun _ _ => rfl) (fun _ _ => rfl) (fun _ _ => rfl) h_against⟩
theorem isOff_r (h : pnM M) (p0 : 0 ≤ p) (p1 : p < (M 824 3 0)) : qf_X0_isOff 20000 p M = some (if M 825 (13 * p + 11) 0 = -1 then 0 else 1) := by
  unfold qf_X0_isOff
  rw [factOf_r h p0 p1 (by decide) (by decide)]
  refine qW_e (qW_bind (qW_some ?_))
  split <;> exact qW_some rfl
/-- what the call leaves -/
def OFT (M S T : qm) : Prop := AKr S T ∧ R_againstn S T ∧ R_against S T ∧ (S 824 15 0) ≤ (M 824 15 0) + 20
theorem op_off (b2 : x2 = 0 ∨ x2 = 1) (h_built : R_built M K) (h_portk : R_portk M K) (h : OFX M K) (t5 : (M 824 12 0) ≤ 512) (hA : (M 824 15 0) < 900000) : oK2 cI (qf_L_off 20000 x1 x2 M) (qf_X18_off 20000 x1 x2 K) (fun M' K' => OFT M M' K') := by
  have hh := h
  obtain ⟨h_portn, h_portw, h_portc, h_porto, h_portr, h_portq, h_persons, h_personb, h_personz, h_time, h_lines, h_ends, h_cardn, h_cards, h_personn, h_rightn, h_rights, h_names, h_spaces, h_rooms, hTL, h_againstn, h_against⟩ := hh
  have s_built := h_built
  unfold R_built at s_built
  have s_portn := h_portn
  unfold R_portn at s_portn
  have s_againstn := h_againstn
  unfold R_againstn at s_againstn
  have s_telln := hTL.1
  unfold R_telln at s_telln
  have w1 : w32 ((M 824 3 0) - 1) = (M 824 3 0) - 1 := w32_id (by omega) (by omega)
  have base : AKr M K := ⟨h_portn, h_portw, h_portc, h_porto, h_portk, h_portr, h_portq, h_persons, h_personb, h_personz⟩
  have err : ∀ v, OFT M M (qw K 2156 0 0 v) := fun v => ⟨AKr_K base, R_againstn_x (M := M) (K := K) rfl rfl h_againstn, R_against_x (M := M) (K := K) rfl (fun _ _ => rfl) (fun _ _ => rfl) (fun _ _ => rfl) (fun _ _ => rfl) (fun _ _ => rfl) h_against, by show (M 824 15 0) ≤ _; omega⟩
  have res : ∀ u, OFT M (qw M 2332 0 0 u) (qw K 2156 0 0 0) := fun u => ⟨AKr_A (AKr_K base), R_againstn_x (M := M) (K := K) rfl rfl h_againstn, R_against_x (M := M) (K := K) rfl (fun _ _ => rfl) (fun _ _ => rfl) (fun _ _ => rfl) (fun _ _ => rfl) (fun _ _ => rfl) h_against, by show (M 824 15 0) ≤ _; omega⟩
  unfold oK2
  by_cases hx : 0 ≤ x1 ∧ x1 < (M 824 3 0)
  · have qk := h_portk x1 hx.1 hx.2
    have hb : (M 6 11 0) ≠ 0 := by omega
    have hp14 : 0 ≤ x1 ∧ x1 < 1400 := by omega
    have eO := isOff_r (pnM_of h_portn) hx.1 hx.2
    have e12 : (K 2298 x1 0) = M 825 (13 * x1 + 12) 0 := qk.2.1
    rcases b2 with rfl | rfl
    · -- it joins again
      by_cases g : M 825 (13 * x1 + 11) 0 = -1
      · rw [if_pos g] at eO
        have k1 : (K 2297 x1 0) = 2147483647 ∧ (K 2298 x1 0) = 0 := by omega
        have ej : qf_X0_joinAgain 20000 x1 (M 6 12 0) M = some (0, M) := by
          unfold qf_X0_joinAgain
          rw [eO]
          rfl
        have el : qf_X18_off_L60 20000 20000 x1 0 (qw K 2156 0 0 0) = some (.inr ((), qw K 2156 0 0 0)) := by
          have e2 : qf_X18_off_L60_b 20000 x1 0 (qw K 2156 0 0 0) = some (.inl (.inr ((), qw K 2156 0 0 0))) := by
            unfold qf_X18_off_L60_b
            exact qW_e (qW_pos hp14 (qW_pos (show (K 2298 x1 0) ≤ 0 by omega) (qW_some rfl)))
          unfold qf_X18_off_L60
          show qloop _ (19999 + 1) _ = _
          unfold qloop
          (try dsimp only)
          rw [e2]
        have es : qw (qw (qw K 2156 0 0 0) 2298 x1 0 0) 2297 x1 0 2147483647 = qw K 2156 0 0 0 := by
          have a1 : qw (qw K 2156 0 0 0) 2298 x1 0 0 = qw K 2156 0 0 0 := by
            have := qw_self (M := qw K 2156 0 0 0) (a := 2298) (i := x1) (k := 0)
            rw [show (qw K 2156 0 0 0) 2298 x1 0 = 0 from k1.2] at this
            exact this
          rw [a1]
          have := qw_self (M := qw K 2156 0 0 0) (a := 2297) (i := x1) (k := 0)
          rw [show (qw K 2156 0 0 0) 2297 x1 0 = 2147483647 from k1.1] at this
          exact this
        unfold qf_L_off qf_X11_off qf_X0_goOff qf_X0_setFact qf_X0_isOff qf_X0_factOf qf_X11_isPortal qf_X18_off
        repeat' first
          | ((with_reducible refine qW_eq ej ?_); (try dsimp only))
          | ((with_reducible refine qW_eq el ?_); (try dsimp only))
          | with_reducible refine qW_within (fun _ => ?_) (fun _ _ => ?_)
          | with_reducible refine qW_isIn (fun _ => ?_) (fun _ _ => ?_)
          | with_reducible refine qW_na (fun _ => ?_) (fun _ => ?_)
          | with_reducible refine qW_ns (fun _ => ?_) (fun _ => ?_)
          | (with_reducible refine qW_goes (fun _ => ?_) (fun _ _ => ?_) (fun _ _ => ?_) <;> (try dsimp only) <;> (try simp only [qw_ap, qfl1_ap, qfl2_ap, qcp1_ap, qcp2_ap, false_and, true_and, and_true, and_false, and_self, if_false, if_true, reduceIte, Nat.reduceEqDiff, Int.reduceEq, Int.reduceNeg]))
          | (with_reducible refine qW_stays (by omega) (fun _ => ?_) (fun _ => ?_) <;> (try dsimp only) <;> (try simp only [qw_ap, qfl1_ap, qfl2_ap, qcp1_ap, qcp2_ap, false_and, true_and, and_true, and_false, and_self, if_false, if_true, reduceIte, Nat.reduceEqDiff, Int.reduceEq, Int.reduceNeg]))
          | (exfalso; omega)
          | with_reducible refine qW_bind ?_
          | (with_reducible refine qW_bnd ?_; try simp only [qw_ap, qfl1_ap, qfl2_ap, qcp1_ap, qcp2_ap, false_and, true_and, and_true, and_false, and_self, if_false, if_true, reduceIte, Nat.reduceEqDiff, Int.reduceEq, Int.reduceNeg])
          | (with_reducible refine qW_some ?_; (try dsimp only); try simp only [qw_ap, qfl1_ap, qfl2_ap, qcp1_ap, qcp2_ap, false_and, true_and, and_true, and_false, and_self, if_false, if_true, reduceIte, Nat.reduceEqDiff, Int.reduceEq, Int.reduceNeg])
          | ((with_reducible refine qW_no ?_); omega)
          | with_reducible refine qW_pos rfl ?_
          | ((with_reducible refine qW_pos ?_ ?_); omega)
          | ((with_reducible refine qW_neg ?_ ?_); (first | omega | decide))
          | with_reducible refine qW_ite (fun _ => ?_) (fun _ => ?_)
          | dsimp only
        all_goals first
          | exact ⟨fun x => absurd x (by decide), err _⟩
          | (rw [es]; exact ⟨fun _ => k1.2.symm, res _⟩)
      · rw [if_neg g] at eO
        have n20 : 0 ≤ (K 2298 x1 0) ∧ (K 2298 x1 0) ≤ 20 := by omega
        obtain ⟨S, T, l1, l2, hX, l3, fM, fK, fR⟩ := offLoop (M := qw (qw M 825 (13 * x1 + 11) 0 (-1)) 825 (13 * x1 + 12) 0 0) (K := qw K 2156 0 0 0) (p := x1) (n := M 825 (13 * x1 + 12) 0) (t := (M 6 12 0)) (OFX_w (OFX_K h) hx.1) t5 hb s_againstn.1 hA hx.1 hx.2 (by omega) e12.symm (by omega) rfl
        have ej : qf_X0_joinAgain 20000 x1 (M 6 12 0) M = some (M 825 (13 * x1 + 12) 0, S) := by
          unfold qf_X0_joinAgain
          rw [eO]
          refine qW_e (qW_bind (qW_some ?_))
          rw [if_neg (by decide), setFact_r (pnM_of h_portn) hx.1 hx.2 (by decide) (by decide)]
          refine qW_bind (qW_some ?_)
          (try dsimp only)
          rw [factOf_r (M := qw M 825 (13 * x1 + 11) 0 (-1)) (pnM_w (pnM_of h_portn) (by omega)) hx.1 hx.2 (by decide) (by decide), setFact_r (M := qw M 825 (13 * x1 + 11) 0 (-1)) (pnM_w (pnM_of h_portn) (by omega)) hx.1 hx.2 (by decide) (by decide), qw_i (by omega)]
          refine qW_bind (qW_some (qW_bind (qW_some ?_)))
          (try dsimp only)
          rw [l1]
          exact qW_bind (qW_some (qW_some rfl))
        have h1 : T 2298 x1 0 = (K 2298 x1 0) := fR 2298 x1 0 (Or.inl ⟨by decide, by decide⟩)
        have h0 : T 2156 0 0 = 0 := fR 2156 0 0 (Or.inr ⟨rfl, rfl⟩)
        have fin : ∀ u, OFT M (qw S 2332 0 0 u) (qw (qw T 2298 x1 0 0) 2297 x1 0 2147483647) := by
          intro u
          have hX2 := hX
          obtain ⟨q_portn, q_portw, q_portc, q_porto, q_portr, q_portq, q_persons, q_personb, q_personz, q_time, q_lines, q_ends, q_cardn, q_cards, q_personn, q_rightn, q_rights, q_names, q_spaces, q_rooms, qTL, q_againstn, q_against⟩ := hX2
          refine ⟨AKr_A (off_fin (M := M) (K := K) hX h_portk (fM 824 3 0 rfl) (fM 824 12 0 rfl) ?_ ?_ (fun i hi => ⟨?_, ?_⟩) (fun i => ⟨fR 2297 i 0 (Or.inl ⟨by decide, by decide⟩), fR 2298 i 0 (Or.inl ⟨by decide, by decide⟩)⟩)), R_againstn_x (M := S) (K := T) rfl rfl q_againstn, R_against_x (M := S) (K := T) rfl (fun _ _ => rfl) (fun _ _ => rfl) (fun _ _ => rfl) (fun _ _ => rfl) (fun _ _ => rfl) q_against, l3⟩
          · rw [show S 825 (13 * x1 + 11) 0 = (qw (qw M 825 (13 * x1 + 11) 0 (-1)) 825 (13 * x1 + 12) 0 0) 825 (13 * x1 + 11) 0 from Fg_v fM rfl rfl, qw_i (by omega), qw_s]
          · rw [show S 825 (13 * x1 + 12) 0 = (qw (qw M 825 (13 * x1 + 11) 0 (-1)) 825 (13 * x1 + 12) 0 0) 825 (13 * x1 + 12) 0 from Fg_v fM rfl rfl, qw_s]
          · rw [show S 825 (13 * i + 11) 0 = (qw (qw M 825 (13 * x1 + 11) 0 (-1)) 825 (13 * x1 + 12) 0 0) 825 (13 * i + 11) 0 from Fg_v fM rfl rfl, qw_i (by omega), qw_i (by omega)]
          · rw [show S 825 (13 * i + 12) 0 = (qw (qw M 825 (13 * x1 + 11) 0 (-1)) 825 (13 * x1 + 12) 0 0) 825 (13 * i + 12) 0 from Fg_v fM rfl rfl, qw_i (by omega), qw_i (by omega)]
        unfold qf_L_off qf_X11_off qf_X0_goOff qf_X0_setFact qf_X0_isOff qf_X0_factOf qf_X11_isPortal qf_X18_off
        repeat' first
          | ((with_reducible refine qW_eq ej ?_); (try dsimp only))
          | ((with_reducible refine qW_eq l2 ?_); (try dsimp only))
          | with_reducible refine qW_within (fun _ => ?_) (fun _ _ => ?_)
          | with_reducible refine qW_isIn (fun _ => ?_) (fun _ _ => ?_)
          | with_reducible refine qW_na (fun _ => ?_) (fun _ => ?_)
          | with_reducible refine qW_ns (fun _ => ?_) (fun _ => ?_)
          | (with_reducible refine qW_goes (fun _ => ?_) (fun _ _ => ?_) (fun _ _ => ?_) <;> (try dsimp only) <;> (try simp only [qw_ap, qfl1_ap, qfl2_ap, qcp1_ap, qcp2_ap, false_and, true_and, and_true, and_false, and_self, if_false, if_true, reduceIte, Nat.reduceEqDiff, Int.reduceEq, Int.reduceNeg]))
          | (with_reducible refine qW_stays (by omega) (fun _ => ?_) (fun _ => ?_) <;> (try dsimp only) <;> (try simp only [qw_ap, qfl1_ap, qfl2_ap, qcp1_ap, qcp2_ap, false_and, true_and, and_true, and_false, and_self, if_false, if_true, reduceIte, Nat.reduceEqDiff, Int.reduceEq, Int.reduceNeg]))
          | (exfalso; omega)
          | with_reducible refine qW_bind ?_
          | (with_reducible refine qW_bnd ?_; try simp only [qw_ap, qfl1_ap, qfl2_ap, qcp1_ap, qcp2_ap, false_and, true_and, and_true, and_false, and_self, if_false, if_true, reduceIte, Nat.reduceEqDiff, Int.reduceEq, Int.reduceNeg])
          | (with_reducible refine qW_some ?_; (try dsimp only); try simp only [qw_ap, qfl1_ap, qfl2_ap, qcp1_ap, qcp2_ap, false_and, true_and, and_true, and_false, and_self, if_false, if_true, reduceIte, Nat.reduceEqDiff, Int.reduceEq, Int.reduceNeg])
          | ((with_reducible refine qW_no ?_); omega)
          | with_reducible refine qW_pos rfl ?_
          | ((with_reducible refine qW_pos ?_ ?_); omega)
          | ((with_reducible refine qW_neg ?_ ?_); (first | omega | decide))
          | with_reducible refine qW_ite (fun _ => ?_) (fun _ => ?_)
          | dsimp only
        all_goals first
          | exact ⟨fun x => absurd x (by decide), err _⟩
          | exact ⟨h0, fun _ => e12.symm.trans h1.symm, fin _⟩
    · -- it goes off
      by_cases g : M 825 (13 * x1 + 11) 0 = -1
      · rw [if_pos g] at eO
        have k1 : (K 2297 x1 0) = 2147483647 := by omega
        have ej : qf_X0_goOff 20000 x1 M = some (0, qw M 825 (13 * x1 + 11) 0 (M 824 12 0)) := by
          unfold qf_X0_goOff
          rw [eO, setFact_r (pnM_of h_portn) hx.1 hx.2 (by decide) (by decide)]
          rfl
        have fin : OFT M (qw (qw M 825 (13 * x1 + 11) 0 (M 824 12 0)) 2332 0 0 0) (qw (qw K 2156 0 0 0) 2297 x1 0 (K 2156 45 0)) := by
          obtain ⟨g1, g2, g3, g4⟩ := pk8_all (T := qw (qw K 2156 0 0 0) 2297 x1 0 (K 2156 45 0)) (pk8_w (M := M) (i := x1) (f := 11) (v := (M 824 12 0)) (w := 0) (by decide) (by decide) hx.1) (fun b i j h1 h2 => by rw [qw_a (by omega), qw_ap, if_neg (by omega)]) ⟨h_portn, h_portw, h_portc, h_portq⟩
          refine ⟨⟨g1, g2, g3, ?_, ?_, R_portr_x (M := M) (K := K) rfl rfl (fun _ _ => rfl) (fun _ _ => rfl) (fun _ _ => rfl) (fun _ _ => rfl) (fun _ _ => rfl) (fun _ _ => rfl) (fun _ _ => rfl) h_portr, g4, R_persons_x (M := M) (K := K) rfl (fun _ _ => rfl) (fun _ _ => rfl) (fun _ _ => rfl) (fun _ _ => rfl) (fun _ _ => rfl) (fun _ _ => rfl) (fun _ _ => rfl) (fun _ _ => rfl) (fun _ _ => rfl) h_persons, R_personb_x (M := M) (K := K) rfl (fun _ _ => rfl) rfl rfl (fun _ _ => rfl) (fun _ _ => rfl) (fun _ _ => rfl) (fun _ _ => rfl) (fun _ _ => rfl) h_personb, R_personz_x (M := M) (K := K) rfl (fun _ _ => rfl) (fun _ _ => rfl) (fun _ _ => rfl) h_personz⟩, R_againstn_x (M := M) (K := K) rfl rfl h_againstn, R_against_x (M := M) (K := K) rfl (fun _ _ => rfl) (fun _ _ => rfl) (fun _ _ => rfl) (fun _ _ => rfl) (fun _ _ => rfl) h_against, by show (M 824 15 0) ≤ _; omega⟩
          · intro i i0 i1
            have z := h_porto i i0 i1
            have n1 : ¬ (13 * i + 8 = 13 * x1 + 11) := by omega
            have n2 : ¬ (13 * i + 9 = 13 * x1 + 11) := by omega
            have n3 : ¬ (13 * i + 10 = 13 * x1 + 11) := by omega
            simp only [qw_ap, n1, n2, n3, false_and, true_and, and_true, and_false, and_self, if_false, if_true, reduceIte, Nat.reduceEqDiff, Int.reduceEq]
            exact z
          · intro i i0 i1
            have z := h_portk i i0 i1
            have n1 : ¬ (13 * i + 12 = 13 * x1 + 11) := by omega
            by_cases e : i = x1
            · subst e
              simp only [qw_ap, n1, false_and, true_and, and_true, and_false, and_self, if_false, if_true, reduceIte, Nat.reduceEqDiff, Int.reduceEq]
              omega
            · have n2 : ¬ (13 * i + 11 = 13 * x1 + 11) := by omega
              simp only [qw_ap, n1, n2, e, false_and, true_and, and_true, and_false, and_self, if_false, if_true, reduceIte, Nat.reduceEqDiff, Int.reduceEq]
              exact z
        unfold qf_L_off qf_X11_off qf_X0_joinAgain qf_X0_setFact qf_X0_isOff qf_X0_factOf qf_X11_isPortal qf_X18_off
        repeat' first
          | ((with_reducible refine qW_eq ej ?_); (try dsimp only))
          | with_reducible refine qW_within (fun _ => ?_) (fun _ _ => ?_)
          | with_reducible refine qW_isIn (fun _ => ?_) (fun _ _ => ?_)
          | with_reducible refine qW_na (fun _ => ?_) (fun _ => ?_)
          | with_reducible refine qW_ns (fun _ => ?_) (fun _ => ?_)
          | (with_reducible refine qW_goes (fun _ => ?_) (fun _ _ => ?_) (fun _ _ => ?_) <;> (try dsimp only) <;> (try simp only [qw_ap, qfl1_ap, qfl2_ap, qcp1_ap, qcp2_ap, false_and, true_and, and_true, and_false, and_self, if_false, if_true, reduceIte, Nat.reduceEqDiff, Int.reduceEq, Int.reduceNeg]))
          | (with_reducible refine qW_stays (by omega) (fun _ => ?_) (fun _ => ?_) <;> (try dsimp only) <;> (try simp only [qw_ap, qfl1_ap, qfl2_ap, qcp1_ap, qcp2_ap, false_and, true_and, and_true, and_false, and_self, if_false, if_true, reduceIte, Nat.reduceEqDiff, Int.reduceEq, Int.reduceNeg]))
          | (exfalso; omega)
          | with_reducible refine qW_bind ?_
          | (with_reducible refine qW_bnd ?_; try simp only [qw_ap, qfl1_ap, qfl2_ap, qcp1_ap, qcp2_ap, false_and, true_and, and_true, and_false, and_self, if_false, if_true, reduceIte, Nat.reduceEqDiff, Int.reduceEq, Int.reduceNeg])
          | (with_reducible refine qW_some ?_; (try dsimp only); try simp only [qw_ap, qfl1_ap, qfl2_ap, qcp1_ap, qcp2_ap, false_and, true_and, and_true, and_false, and_self, if_false, if_true, reduceIte, Nat.reduceEqDiff, Int.reduceEq, Int.reduceNeg])
          | ((with_reducible refine qW_no ?_); omega)
          | with_reducible refine qW_pos rfl ?_
          | ((with_reducible refine qW_pos ?_ ?_); omega)
          | ((with_reducible refine qW_neg ?_ ?_); (first | omega | decide))
          | with_reducible refine qW_ite (fun _ => ?_) (fun _ => ?_)
          | dsimp only
        all_goals first
          | exact ⟨fun x => absurd x (by decide), err _⟩
          | exact ⟨fun _ => rfl, fin⟩
      · rw [if_neg g] at eO
        have k1 : (K 2297 x1 0) ≠ 2147483647 := by omega
        have ej : qf_X0_goOff 20000 x1 M = some (0, M) := by
          unfold qf_X0_goOff
          rw [eO]
          rfl
        have es : qw (qw K 2156 0 0 0) 2297 x1 0 (K 2297 x1 0) = qw K 2156 0 0 0 := qw_self (M := qw K 2156 0 0 0) (a := 2297) (i := x1) (k := 0)
        unfold qf_L_off qf_X11_off qf_X0_joinAgain qf_X0_setFact qf_X0_isOff qf_X0_factOf qf_X11_isPortal qf_X18_off
        repeat' first
          | ((with_reducible refine qW_eq ej ?_); (try dsimp only))
          | with_reducible refine qW_within (fun _ => ?_) (fun _ _ => ?_)
          | with_reducible refine qW_isIn (fun _ => ?_) (fun _ _ => ?_)
          | with_reducible refine qW_na (fun _ => ?_) (fun _ => ?_)
          | with_reducible refine qW_ns (fun _ => ?_) (fun _ => ?_)
          | (with_reducible refine qW_goes (fun _ => ?_) (fun _ _ => ?_) (fun _ _ => ?_) <;> (try dsimp only) <;> (try simp only [qw_ap, qfl1_ap, qfl2_ap, qcp1_ap, qcp2_ap, false_and, true_and, and_true, and_false, and_self, if_false, if_true, reduceIte, Nat.reduceEqDiff, Int.reduceEq, Int.reduceNeg]))
          | (with_reducible refine qW_stays (by omega) (fun _ => ?_) (fun _ => ?_) <;> (try dsimp only) <;> (try simp only [qw_ap, qfl1_ap, qfl2_ap, qcp1_ap, qcp2_ap, false_and, true_and, and_true, and_false, and_self, if_false, if_true, reduceIte, Nat.reduceEqDiff, Int.reduceEq, Int.reduceNeg]))
          | (exfalso; omega)
          | with_reducible refine qW_bind ?_
          | (with_reducible refine qW_bnd ?_; try simp only [qw_ap, qfl1_ap, qfl2_ap, qcp1_ap, qcp2_ap, false_and, true_and, and_true, and_false, and_self, if_false, if_true, reduceIte, Nat.reduceEqDiff, Int.reduceEq, Int.reduceNeg])
          | (with_reducible refine qW_some ?_; (try dsimp only); try simp only [qw_ap, qfl1_ap, qfl2_ap, qcp1_ap, qcp2_ap, false_and, true_and, and_true, and_false, and_self, if_false, if_true, reduceIte, Nat.reduceEqDiff, Int.reduceEq, Int.reduceNeg])
          | ((with_reducible refine qW_no ?_); omega)
          | with_reducible refine qW_pos rfl ?_
          | ((with_reducible refine qW_pos ?_ ?_); omega)
          | ((with_reducible refine qW_neg ?_ ?_); (first | omega | decide))
          | with_reducible refine qW_ite (fun _ => ?_) (fun _ => ?_)
          | dsimp only
        all_goals first
          | exact ⟨fun x => absurd x (by decide), err _⟩
          | (rw [es]; exact ⟨fun _ => rfl, res _⟩)
  · unfold qf_L_off qf_X11_off qf_X11_isPortal qf_X18_off
    repeat' first
      | with_reducible refine qW_within (fun _ => ?_) (fun _ _ => ?_)
      | with_reducible refine qW_isIn (fun _ => ?_) (fun _ _ => ?_)
      | with_reducible refine qW_na (fun _ => ?_) (fun _ => ?_)
      | with_reducible refine qW_ns (fun _ => ?_) (fun _ => ?_)
      | (with_reducible refine qW_goes (fun _ => ?_) (fun _ _ => ?_) (fun _ _ => ?_) <;> (try dsimp only) <;> (try simp only [qw_ap, qfl1_ap, qfl2_ap, qcp1_ap, qcp2_ap, false_and, true_and, and_true, and_false, and_self, if_false, if_true, reduceIte, Nat.reduceEqDiff, Int.reduceEq, Int.reduceNeg]))
      | (with_reducible refine qW_stays (by omega) (fun _ => ?_) (fun _ => ?_) <;> (try dsimp only) <;> (try simp only [qw_ap, qfl1_ap, qfl2_ap, qcp1_ap, qcp2_ap, false_and, true_and, and_true, and_false, and_self, if_false, if_true, reduceIte, Nat.reduceEqDiff, Int.reduceEq, Int.reduceNeg]))
      | (exfalso; omega)
      | with_reducible refine qW_bind ?_
      | (with_reducible refine qW_bnd ?_; try simp only [qw_ap, qfl1_ap, qfl2_ap, qcp1_ap, qcp2_ap, false_and, true_and, and_true, and_false, and_self, if_false, if_true, reduceIte, Nat.reduceEqDiff, Int.reduceEq, Int.reduceNeg])
      | (with_reducible refine qW_some ?_; (try dsimp only); try simp only [qw_ap, qfl1_ap, qfl2_ap, qcp1_ap, qcp2_ap, false_and, true_and, and_true, and_false, and_self, if_false, if_true, reduceIte, Nat.reduceEqDiff, Int.reduceEq, Int.reduceNeg])
      | ((with_reducible refine qW_no ?_); omega)
      | with_reducible refine qW_pos rfl ?_
      | ((with_reducible refine qW_pos ?_ ?_); omega)
      | ((with_reducible refine qW_neg ?_ ?_); (first | omega | decide))
      | with_reducible refine qW_ite (fun _ => ?_) (fun _ => ?_)
      | dsimp only
    all_goals exact ⟨fun x => absurd x (by decide), err _⟩
end OFFC
