/-! ===== the calls end, lost: a note more ===== -/
def NT (M S : qm) (tg m : Int) : Prop := (S 824 12 0) = (M 824 12 0) + 1 ∧ (S 824 13 0) = (M 824 13 0) + 1 ∧ (∀ i, (S 906 i 0) = if i = 3 * (M 824 13 0) then tg else if i = 3 * (M 824 13 0) + 1 then m else if i = 3 * (M 824 13 0) + 2 then (M 824 12 0) else (M 906 i 0)) ∧ (∀ a i j, a ≠ 906 → ¬ (a = 824 ∧ (i = 12 ∨ i = 13)) → a ≠ 2332 → S a i j = M a i j)
theorem note_r {M : qm} {tg m : Int} (c0 : 0 ≤ (M 824 13 0)) (c1 : (M 824 13 0) < 512) (t0 : 0 ≤ (M 824 12 0)) (t1 : (M 824 12 0) < 512) : qW (qf_X0_note 20000 tg m M) (fun r => LN M tg (M 824 12 0) r.1 ∧ ∀ v, NT M (qw r.2 2332 0 0 v) tg m) := by
  have e3 : w32 (3 * (M 824 13 0)) = 3 * (M 824 13 0) := w32_id (by omega) (by omega)
  have e4 : w32 (3 * (M 824 13 0) + 1) = 3 * (M 824 13 0) + 1 := w32_id (by omega) (by omega)
  have e5 : w32 (3 * (M 824 13 0) + 2) = 3 * (M 824 13 0) + 2 := w32_id (by omega) (by omega)
  have e6 : w32 ((M 824 13 0) + 1) = (M 824 13 0) + 1 := w32_id (by omega) (by omega)
  have e7 : w32 ((M 824 12 0) + 1) = (M 824 12 0) + 1 := w32_id (by omega) (by omega)
  unfold qf_X0_note
  refine qW_call (latestNote_r (M := M) (tg := tg) (n := (M 824 12 0)) c0 (by omega)) ?_
  intro u hu
  rw [if_neg (by omega), e3, if_pos (by omega)]
  refine qW_bnd ?_
  show qW (if 0 ≤ w32 (w32 (3 * (M 824 13 0)) + 1) ∧ w32 (w32 (3 * (M 824 13 0)) + 1) < 1536 then _ else _) _
  rw [e3, e4, if_pos (by omega)]
  refine qW_bnd ?_
  show qW (if 0 ≤ w32 (w32 (3 * (M 824 13 0)) + 2) ∧ w32 (w32 (3 * (M 824 13 0)) + 2) < 1536 then _ else _) _
  rw [e3, e5, if_pos (by omega)]
  refine qW_bnd ?_
  refine qW_bnd ?_
  unfold qf_X0_note_J73
  refine qW_bnd (qW_some ⟨hu, fun v => ⟨?_, ?_, ?_, ?_⟩⟩)
  · show w32 ((M 824 12 0) + 1) = _
    exact e7
  · show w32 ((M 824 13 0) + 1) = _
    exact e6
  · intro i
    simp only [qw_ap, false_and, true_and, and_true, and_false, and_self, if_false, if_true, reduceIte, Nat.reduceEqDiff, Int.reduceEq, e3, e4, e5]
    by_cases g1 : i = 3 * (M 824 13 0)
    · have a2 : ¬ i = 3 * (M 824 13 0) + 1 := by omega
      have a3 : ¬ i = 3 * (M 824 13 0) + 2 := by omega
      simp only [if_neg a2, if_neg a3, if_pos g1]
    · by_cases g2 : i = 3 * (M 824 13 0) + 1
      · have a3 : ¬ i = 3 * (M 824 13 0) + 2 := by omega
        simp only [if_neg a3, if_neg g1, if_pos g2]
      · by_cases g3 : i = 3 * (M 824 13 0) + 2
        · simp only [if_neg g1, if_neg g2, if_pos g3]
        · simp only [if_neg g1, if_neg g2, if_neg g3]
  · intro a i j h1 h2 h3
    simp only [qw_ap]
    rw [if_neg (by omega), if_neg (by omega), if_neg (by omega), if_neg (by omega), if_neg (by omega), if_neg (by omega)]
def TL (M K : qm) : Prop := R_telln M K ∧ R_tellt M K ∧ R_tellc M K ∧ R_tellr M K ∧ R_notek M K ∧ R_noteo M K ∧ R_notex M K
theorem note_all {M K S T : qm} {tg m kd w : Int} (h_portk : R_portk M K) (hTL : TL M K) (hN : NT M S tg m) (hT : TW M K S T kd w m) (hp : ∀ a i j, a = 2297 ∨ a = 2298 → T a i j = K a i j) (w0 : 0 ≤ w) (m0 : 0 ≤ m) (hk : (kd = 2 ∧ tg = w ∧ w < 100) ∨ (kd = 3 ∧ tg = w + 100)) : R_portk S T ∧ TL S T := by
  obtain ⟨h1, h2, h3, h4, h5, h6, h7⟩ := hTL
  obtain ⟨n1, n2, n3, n4⟩ := hN
  have t0 : 0 ≤ (M 824 12 0) := h1.1
  have c0 : 0 ≤ (M 824 13 0) := h1.2.2.1
  have g0 : (S 824 3 0) = (M 824 3 0) := n4 824 3 0 (by decide) (by decide) (by decide)
  have g1 : (S 824 8 0) = (M 824 8 0) := n4 824 8 0 (by decide) (by decide) (by decide)
  have g2 : (S 824 10 0) = (M 824 10 0) := n4 824 10 0 (by decide) (by decide) (by decide)
  have g3 : ∀ i j, S 828 i j = M 828 i j := fun i j => n4 828 i j (by decide) (by rintro ⟨h, -⟩; cases h) (by decide)
  have g4 : ∀ i j, S 889 i j = M 889 i j := fun i j => n4 889 i j (by decide) (by rintro ⟨h, -⟩; cases h) (by decide)
  have g5 : ∀ i j, S 825 i j = M 825 i j := fun i j => n4 825 i j (by decide) (by rintro ⟨h, -⟩; cases h) (by decide)
  refine ⟨?_, ?_, ?_, ?_, ?_, ?_, ?_, ?_⟩
  · intro p p0 p1
    rw [g0] at p1
    have q := h_portk p p0 p1
    rw [g5, g5, n1, hp 2297 _ _ (Or.inl rfl), hp 2298 _ _ (Or.inr rfl)]
    omega
  · refine ⟨by rw [n1]; omega, by rw [n1, hT.2.1], by rw [n2]; omega, ?_⟩
    have q := h1.2.2.2
    rw [n1, n2]
    omega
  · refine tw_tellt hT h2 (by omega) (by omega) w0 m0 (fun x => by omega) (fun x => by omega) (by omega) (fun c _ => g3 c 2) (by omega) (fun c _ => g4 c 5)
  · exact tw_tellc hT h3 t0 (fun c c0 c1 => Or.inl ⟨by omega, g3 c 2⟩)
  · exact tw_tellr hT h4 t0 (fun c c0 c1 => Or.inl ⟨by omega, g4 c 5⟩)
  · refine tw_notek hT h5 t0 w0 (fun k k0 k1 => ?_)
    rw [n3, n3, n3]
    by_cases e : k = (M 824 13 0)
    · refine Or.inr ?_
      rw [e, if_pos rfl, if_neg (by omega), if_pos rfl, if_neg (by omega), if_neg (by omega), if_pos rfl]
      exact ⟨by omega, rfl, rfl⟩
    · refine Or.inl ⟨by omega, ?_⟩
      rw [if_neg (by omega), if_neg (by omega), if_neg (by omega), if_neg (by omega), if_neg (by omega), if_neg (by omega), if_neg (by omega), if_neg (by omega), if_neg (by omega)]
      exact ⟨rfl, rfl, rfl⟩
  · intro j k j0 jk k1
    rw [n2] at k1
    rw [n3, n3, if_neg (by omega), if_neg (by omega), if_neg (by omega), if_neg (by omega), if_neg (by omega)]
    by_cases e : k = (M 824 13 0)
    · have q := h5 j j0 (by omega)
      rw [if_pos (by omega)]
      exact q.2.1
    · rw [if_neg (by omega)]
      exact h6 j k j0 jk (by omega)
  · refine tw_notex hT h7 (by omega) (fun k k0 k1 => ?_) (fun _ => ⟨(M 824 13 0), c0, by omega, ?_⟩)
    · rw [n3, if_neg (by omega), if_neg (by omega), if_neg (by omega)]
    · rw [n3, if_neg (by omega), if_neg (by omega), if_pos rfl]
theorem LT_q {K : qm} {kd w n u v : Int} (h : LT (qw K 2156 0 0 v) kd w n u) : LT K kd w n u := h
theorem TL_E {M K : qm} {v : Int} (h : TL M K) : TL M (qw K 2156 0 0 v) := by
  obtain ⟨h_telln, h_tellt, h_tellc, h_tellr, h_notek, h_noteo, h_notex⟩ := h
  exact ⟨R_telln_x (M := M) (K := K) rfl rfl rfl h_telln, R_tellt_x (M := M) (K := K) rfl rfl rfl (fun _ _ => rfl) (fun _ _ => rfl) (fun _ _ => rfl) (fun _ _ => rfl) (fun _ _ => rfl) h_tellt, R_tellc_x (M := M) (K := K) rfl rfl (fun _ _ => rfl) (fun _ _ => rfl) (fun _ _ => rfl) h_tellc, R_tellr_x (M := M) (K := K) rfl rfl (fun _ _ => rfl) (fun _ _ => rfl) (fun _ _ => rfl) h_tellr, R_notek_x (M := M) (K := K) rfl rfl (fun _ _ => rfl) (fun _ _ => rfl) (fun _ _ => rfl) (fun _ _ => rfl) h_notek, R_noteo_x (M := M) (K := K) rfl (fun _ _ => rfl) h_noteo, R_notex_x (M := M) (K := K) rfl rfl (fun _ _ => rfl) (fun _ _ => rfl) h_notex⟩
section OPS
variable {M K : qm} {x1 x2 : Int}
theorem op_end (h_built : R_built M K) (h_rightn : R_rightn M K) (h_portk : R_portk M K) (hTL : TL M K) (hB : (M 824 12 0) < 512) : oK2 cI (qf_L_end 20000 x1 x2 M) (qf_X18_end 20000 x1 x2 K) (fun M' K' => R_portk M' K' ∧ TL M' K') := by
  have s_built := h_built
  unfold R_built at s_built
  have s_rightn := h_rightn
  unfold R_rightn at s_rightn
  have s_telln := hTL.1
  unfold R_telln at s_telln
  have w1 : w32 ((M 824 10 0) - 1) = (M 824 10 0) - 1 := w32_id (by omega) (by omega)
  have tk : (K 2156 45 0) = (M 824 12 0) := s_telln.2.1
  obtain ⟨lv, el, hl⟩ := lastTold_r (K := qw K 2156 0 0 0) (kd := 2) (w := x1) (b := 2147483647) (n := (M 824 12 0)) (show 0 ≤ (K 2156 45 0) by omega) (show (K 2156 45 0) ≤ 4100 by omega) (by decide) (show (M 824 12 0) = if (K 2156 45 0) ≤ 2147483647 then (K 2156 45 0) else 2147483647 by rw [if_pos (by omega)]; omega)
  have et := tel1_r (K := qw K 2156 0 0 0) (kd := 2) (w := x1) (m := x2) (show 0 ≤ (K 2156 45 0) by omega) (show (K 2156 45 0) < 4100 by omega)
  unfold oK2
  unfold qf_L_end qf_X11_end qf_X11_end_J31 qf_X11_end_J32 qf_X0_tellEnd qf_X18_end qf_X18_isMinute qf_X18_end_J23 qf_X18_end_J24
  repeat' first
    | (with_reducible refine qW_call (note_r (M := M) (by omega) (by omega) (by omega) (by omega)) ?_; rintro ⟨rv, rM⟩ ⟨hv, hN⟩; (try dsimp only at hv hN))
    | (with_reducible refine qW_eq el ?_)
    | (with_reducible refine qW_eq et ?_)
    | with_reducible refine qW_within (fun _ => ?_) (fun _ _ => ?_)
    | with_reducible refine qW_isIn (fun _ => ?_) (fun _ _ => ?_)
    | with_reducible refine qW_na (fun _ => ?_) (fun _ => ?_)
    | with_reducible refine qW_ns (fun _ => ?_) (fun _ => ?_)
    | (with_reducible refine qW_goes (fun _ => ?_) (fun _ _ => ?_) (fun _ _ => ?_) <;> (try dsimp only) <;> (try simp only [qw_ap, qfl1_ap, qfl2_ap, qcp1_ap, qcp2_ap, false_and, true_and, and_true, and_false, and_self, if_false, if_true, reduceIte, Nat.reduceEqDiff, Int.reduceEq, Int.reduceNeg]))
    | (with_reducible refine qW_stays (by omega) (fun _ => ?_) (fun _ => ?_) <;> (try dsimp only) <;> (try simp only [qw_ap, qfl1_ap, qfl2_ap, qcp1_ap, qcp2_ap, false_and, true_and, and_true, and_false, and_self, if_false, if_true, reduceIte, Nat.reduceEqDiff, Int.reduceEq, Int.reduceNeg]))
    | (exfalso; omega)
    | with_reducible refine qW_bind ?_
    | (with_reducible refine qW_bnd ?_; try simp only [qw_ap, qfl1_ap, qfl2_ap, qcp1_ap, qcp2_ap, false_and, true_and, and_true, and_false, and_self, if_false, if_true, reduceIte, Nat.reduceEqDiff, Int.reduceEq, Int.reduceNeg])
    | (with_reducible refine qW_some ?_; (try dsimp only); try simp only [qw_ap, qfl1_ap, qfl2_ap, qcp1_ap, qcp2_ap, false_and, true_and, and_true, and_false, and_self, if_false, if_true, reduceIte, Nat.reduceEqDiff, Int.reduceEq, Int.reduceNeg])
    | ((with_reducible refine qW_no ?_); omega)
    | with_reducible refine qW_pos rfl ?_
    | ((with_reducible refine qW_pos ?_ ?_); omega)
    | ((with_reducible refine qW_neg ?_ ?_); (first | omega | decide))
    | with_reducible refine qW_ite (fun _ => ?_) (fun _ => ?_)
    | dsimp only
  all_goals first
    | exact ⟨fun x => absurd x (by decide), R_portk_x (M := M) (K := K) rfl rfl (fun _ _ => rfl) (fun _ _ => rfl) (fun _ _ => rfl) h_portk, TL_E hTL⟩
    | skip
  all_goals (
    have hE := LT_LN hTL.2.1 hTL.2.2.2.2.1 hTL.2.2.2.2.2.1 hTL.2.2.2.2.2.2 (Or.inl ⟨rfl, rfl, by omega⟩) (by omega) (Int.le_refl _) (LT_q hl) hv
    refine ⟨fun _ => hE.symm, note_all (kd := 2) (w := x1) (m := x2) h_portk hTL (hN rv) ⟨(hN rv).1, ?_, ?_, ?_, ?_⟩ (fun a i j ha => by rcases ha with rfl | rfl <;> rfl) (by omega) (by omega) (Or.inl ⟨rfl, rfl, by omega⟩)⟩
    · show (K 2156 45 0) + 1 = _
      rw [tk]
    · intro t
      show (if 2319 = 2319 ∧ t = (K 2156 45 0) ∧ (0 : Int) = 0 then (2 : Int) else (K 2319 t 0)) = _
      simp only [true_and, and_true, tk]
    · intro t
      show (if 2320 = 2320 ∧ t = (K 2156 45 0) ∧ (0 : Int) = 0 then x1 else (K 2320 t 0)) = _
      simp only [true_and, and_true, tk]
    · intro t
      show (if 2321 = 2321 ∧ t = (K 2156 45 0) ∧ (0 : Int) = 0 then x2 else (K 2321 t 0)) = _
      simp only [true_and, and_true, tk])
theorem op_lost (h_built : R_built M K) (h_cardn : R_cardn M K) (h_portk : R_portk M K) (hTL : TL M K) (hB : (M 824 12 0) < 512) : oK2 cI (qf_L_lost 20000 x1 x2 M) (qf_X18_lost 20000 x1 x2 K) (fun M' K' => R_portk M' K' ∧ TL M' K') := by
  have s_built := h_built
  unfold R_built at s_built
  have s_cardn := h_cardn
  unfold R_cardn at s_cardn
  have s_telln := hTL.1
  unfold R_telln at s_telln
  have w1 : w32 ((M 824 8 0) - 1) = (M 824 8 0) - 1 := w32_id (by omega) (by omega)
  have tk : (K 2156 45 0) = (M 824 12 0) := s_telln.2.1
  obtain ⟨lv, el, hl⟩ := lastTold_r (K := qw K 2156 0 0 0) (kd := 3) (w := x1) (b := 2147483647) (n := (M 824 12 0)) (show 0 ≤ (K 2156 45 0) by omega) (show (K 2156 45 0) ≤ 4100 by omega) (by decide) (show (M 824 12 0) = if (K 2156 45 0) ≤ 2147483647 then (K 2156 45 0) else 2147483647 by rw [if_pos (by omega)]; omega)
  have et := tel1_r (K := qw K 2156 0 0 0) (kd := 3) (w := x1) (m := x2) (show 0 ≤ (K 2156 45 0) by omega) (show (K 2156 45 0) < 4100 by omega)
  unfold oK2
  unfold qf_L_lost qf_X11_lost qf_X11_lost_J22 qf_X11_lost_J23 qf_X0_tellLost qf_X11_isCard qf_X18_lost qf_X18_isMinute qf_X18_lost_J23 qf_X18_lost_J24
  repeat' first
    | (with_reducible refine qW_call (note_r (M := M) (by omega) (by omega) (by omega) (by omega)) ?_; rintro ⟨rv, rM⟩ ⟨hv, hN⟩; (try dsimp only at hv hN))
    | (with_reducible refine qW_eq el ?_)
    | (with_reducible refine qW_eq et ?_)
    | with_reducible refine qW_within (fun _ => ?_) (fun _ _ => ?_)
    | with_reducible refine qW_isIn (fun _ => ?_) (fun _ _ => ?_)
    | with_reducible refine qW_na (fun _ => ?_) (fun _ => ?_)
    | with_reducible refine qW_ns (fun _ => ?_) (fun _ => ?_)
    | (with_reducible refine qW_goes (fun _ => ?_) (fun _ _ => ?_) (fun _ _ => ?_) <;> (try dsimp only) <;> (try simp only [qw_ap, qfl1_ap, qfl2_ap, qcp1_ap, qcp2_ap, false_and, true_and, and_true, and_false, and_self, if_false, if_true, reduceIte, Nat.reduceEqDiff, Int.reduceEq, Int.reduceNeg]))
    | (with_reducible refine qW_stays (by omega) (fun _ => ?_) (fun _ => ?_) <;> (try dsimp only) <;> (try simp only [qw_ap, qfl1_ap, qfl2_ap, qcp1_ap, qcp2_ap, false_and, true_and, and_true, and_false, and_self, if_false, if_true, reduceIte, Nat.reduceEqDiff, Int.reduceEq, Int.reduceNeg]))
    | (exfalso; omega)
    | with_reducible refine qW_bind ?_
    | (with_reducible refine qW_bnd ?_; try simp only [qw_ap, qfl1_ap, qfl2_ap, qcp1_ap, qcp2_ap, false_and, true_and, and_true, and_false, and_self, if_false, if_true, reduceIte, Nat.reduceEqDiff, Int.reduceEq, Int.reduceNeg])
    | (with_reducible refine qW_some ?_; (try dsimp only); try simp only [qw_ap, qfl1_ap, qfl2_ap, qcp1_ap, qcp2_ap, false_and, true_and, and_true, and_false, and_self, if_false, if_true, reduceIte, Nat.reduceEqDiff, Int.reduceEq, Int.reduceNeg])
    | ((with_reducible refine qW_no ?_); omega)
    | with_reducible refine qW_pos rfl ?_
    | ((with_reducible refine qW_pos ?_ ?_); omega)
    | ((with_reducible refine qW_neg ?_ ?_); (first | omega | decide))
    | with_reducible refine qW_ite (fun _ => ?_) (fun _ => ?_)
    | dsimp only
  all_goals first
    | exact ⟨fun x => absurd x (by decide), R_portk_x (M := M) (K := K) rfl rfl (fun _ _ => rfl) (fun _ _ => rfl) (fun _ _ => rfl) h_portk, TL_E hTL⟩
    | skip
  all_goals (
    have e100 : w32 (100 + x1) = x1 + 100 := (w32_id (by omega) (by omega)).trans (by omega)
    rw [e100] at hv
    have hN2 : NT M (qw rM 2332 0 0 rv) (x1 + 100) x2 := by
      have := hN rv
      rw [e100] at this
      exact this
    have hE := LT_LN hTL.2.1 hTL.2.2.2.2.1 hTL.2.2.2.2.2.1 hTL.2.2.2.2.2.2 (Or.inr ⟨rfl, rfl⟩) (by omega) (Int.le_refl _) (LT_q hl) hv
    refine ⟨fun _ => hE.symm, note_all (kd := 3) (w := x1) (m := x2) h_portk hTL hN2 ⟨hN2.1, ?_, ?_, ?_, ?_⟩ (fun a i j ha => by rcases ha with rfl | rfl <;> rfl) (by omega) (by omega) (Or.inr ⟨rfl, rfl⟩)⟩
    · show (K 2156 45 0) + 1 = _
      rw [tk]
    · intro t
      show (if 2319 = 2319 ∧ t = (K 2156 45 0) ∧ (0 : Int) = 0 then (3 : Int) else (K 2319 t 0)) = _
      simp only [true_and, and_true, tk]
    · intro t
      show (if 2320 = 2320 ∧ t = (K 2156 45 0) ∧ (0 : Int) = 0 then x1 else (K 2320 t 0)) = _
      simp only [true_and, and_true, tk]
    · intro t
      show (if 2321 = 2321 ∧ t = (K 2156 45 0) ∧ (0 : Int) = 0 then x2 else (K 2321 t 0)) = _
      simp only [true_and, and_true, tk])
end OPS
