/-! ===== the calls card, right ===== -/
section OPS
variable {M K : qm} {x1 x2 x3 x4 x5 : Int}
theorem op_card (h_built : R_built M K) (h_personn : R_personn M K) (h_portk : R_portk M K) (h_portr : R_portr M K) (h_cardn : R_cardn M K) (h_cards : R_cards M K) (hTL : TL M K) (hB : (M 824 12 0) < 512) : oK2 cI (qf_L_card 20000 x1 x2 M) (qf_X18_card 20000 x1 x2 K) (fun M' K' => R_portk M' K' ∧ R_portr M' K' ∧ R_cardn M' K' ∧ R_cards M' K' ∧ TL M' K') := by
  have s_built := h_built
  unfold R_built at s_built
  have s_personn := h_personn
  unfold R_personn at s_personn
  have s_cardn := h_cardn
  unfold R_cardn at s_cardn
  have s_telln := hTL.1
  unfold R_telln at s_telln
  have w1 : w32 ((M 756 7 0) - 1) = (M 756 7 0) - 1 := w32_id (by omega) (by omega)
  have tk : (K 2156 45 0) = (M 824 12 0) := s_telln.2.1
  have ck : (K 2156 36 0) = (M 824 8 0) := s_cardn.2.2
  unfold oK2
  unfold qf_L_card qf_X11_card qf_X11_card_J22 qf_X11_card_J23 qf_X11_card_J49 qf_X11_card_J50 qf_X0_addCard qf_X11_isPerson qf_X18_card qf_X18_isMinute qf_X18_card_J23 qf_X18_card_J24 qf_X18_card_J44 qf_X18_card_J45
  repeat' first
    | ((with_reducible refine qW_eq (tel1_r ?_ ?_) ?_); (show 0 ≤ (K 2156 45 0); omega); (show (K 2156 45 0) < 4100; omega))
    | with_reducible refine qW_within (fun _ => ?_) (fun _ _ => ?_)
    | with_reducible refine qW_isIn (fun _ => ?_) (fun _ _ => ?_)
    | with_reducible refine qW_na (fun _ => ?_) (fun _ => ?_)
    | with_reducible refine qW_ns (fun _ => ?_) (fun _ => ?_)
    | (with_reducible refine qW_goes (fun _ => ?_) (fun _ _ => ?_) (fun _ _ => ?_) <;> (try dsimp only) <;> (try simp only [qw_ap, qfl1_ap, qfl2_ap, qcp1_ap, qcp2_ap, false_and, true_and, and_true, and_false, and_self, if_false, if_true, reduceIte, Nat.reduceEqDiff, Int.reduceEq, Int.reduceNeg]))
    | (with_reducible refine qW_stays (by omega) (fun _ => ?_) (fun _ => ?_) <;> (try dsimp only) <;> (try simp only [qw_ap, qfl1_ap, qfl2_ap, qcp1_ap, qcp2_ap, false_and, true_and, and_true, and_false, and_self, if_false, if_true, reduceIte, Nat.reduceEqDiff, Int.reduceEq, Int.reduceNeg]))
    | (exfalso; omega)
    | with_reducible refine qW_bind ?_
    | (with_reducible refine qW_bnd ?_; try simp only [qw_ap, qfl1_ap, qfl2_ap, qcp1_ap, qcp2_ap, false_and, true_and, and_true, and_false, and_self, if_false, if_true, reduceIte, Nat.reduceEqDiff, Int.reduceEq, Int.reduceNeg])
    | (with_reducible refine qW_some ?_; (try dsimp only); try simp only [qw_ap, qfl1_ap, qfl2_ap, qcp1_ap, qcp2_ap, false_and, true_and, and_true, and_false, and_self, if_false, if_true, reduceIte, Nat.reduceEqDiff, Int.reduceEq, Int.reduceNeg])
    | ((with_reducible refine qW_no ?_); omega)
    | with_reducible refine qW_pos rfl ?_
    | ((with_reducible refine qW_pos ?_ ?_); omega)
    | ((with_reducible refine qW_neg ?_ ?_); (first | omega | decide))
    | with_reducible refine qW_ite (fun _ => ?_) (fun _ => ?_)
    | dsimp only
  all_goals first
    | exact ⟨fun x => absurd x (by decide), R_portk_x (M := M) (K := K) rfl rfl (fun _ _ => rfl) (fun _ _ => rfl) (fun _ _ => rfl) h_portk, R_portr_x (M := M) (K := K) rfl rfl (fun _ _ => rfl) (fun _ _ => rfl) (fun _ _ => rfl) (fun _ _ => rfl) (fun _ _ => rfl) (fun _ _ => rfl) (fun _ _ => rfl) h_portr, R_cardn_x (M := M) (K := K) rfl rfl h_cardn, R_cards_x (M := M) (K := K) rfl rfl (fun _ _ => rfl) (fun _ _ => rfl) (fun _ _ => rfl) h_cards, TL_E hTL⟩
    | skip
  all_goals (
    have e1 : w32 ((M 824 12 0) + 1) = (M 824 12 0) + 1 := w32_id (by omega) (by omega)
    have e2 : w32 ((M 824 8 0) + 1) = (M 824 8 0) + 1 := w32_id (by omega) (by omega)
    have e3 : w32 ((K 2156 36 0) + 1) = (K 2156 36 0) + 1 := w32_id (by omega) (by omega)
    have e4 : w32 ((M 824 8 0) + 1 - 1) = (M 824 8 0) := (w32_id (by omega) (by omega)).trans (by omega)
    have e5 : w32 ((K 2156 36 0) + 1 - 1) = (K 2156 36 0) := (w32_id (by omega) (by omega)).trans (by omega)
    simp only [e1, e2, e3, e4, e5]
    have fin : ∀ S T : qm, (S 824 12 0) = (M 824 12 0) + 1 → (S 824 8 0) = (M 824 8 0) + 1 → (S 824 10 0) = (M 824 10 0) → (S 824 13 0) = (M 824 13 0) → (S 824 3 0) = (M 824 3 0) → (S 756 7 0) = (M 756 7 0) → (∀ c i, (S 828 c i) = if c = (M 824 8 0) ∧ i = 2 then (M 824 12 0) else if c = (M 824 8 0) ∧ i = 1 then x2 else if c = (M 824 8 0) ∧ i = 0 then x1 else (M 828 c i)) → (∀ a i j, a = 889 ∨ a = 906 ∨ a = 825 ∨ a = 826 → S a i j = M a i j) → TW M K S T 0 (M 824 8 0) x2 → (T 2156 36 0) = (M 824 8 0) + 1 → (∀ c, (T 2312 c 0) = if c = (M 824 8 0) then x1 else (K 2312 c 0)) → (∀ c, (T 2313 c 0) = if c = (M 824 8 0) then x2 else (K 2313 c 0)) → (∀ a i j, a = 2297 ∨ a = 2298 ∨ a = 2299 ∨ a = 2300 ∨ a = 2301 ∨ a = 2289 ∨ a = 2290 → T a i j = K a i j) → R_portk S T ∧ R_portr S T ∧ R_cardn S T ∧ R_cards S T ∧ TL S T := by
      intro S T n1 n2 n3 n4 n5 n6 n7 n8 hT m1 m2 m3 m4
      obtain ⟨h1, h2, h3, h4, h5, h6, h7⟩ := hTL
      have t0 : 0 ≤ (M 824 12 0) := h1.1
      have g1 : ∀ c i, c ≠ (M 824 8 0) → (S 828 c i) = (M 828 c i) := fun c i h => by rw [n7, if_neg (fun x => h x.1), if_neg (fun x => h x.1), if_neg (fun x => h x.1)]
      have g2 : (S 828 (M 824 8 0) 2) = (M 824 12 0) := by rw [n7, if_pos ⟨rfl, rfl⟩]
      refine ⟨?_, ?_, ?_, ?_, ?_, ?_, ?_, ?_, ?_, ?_, ?_⟩
      · intro p p0 p1
        rw [n5] at p1
        have q := h_portk p p0 p1
        rw [n8 825 _ _ (by decide), n8 825 _ _ (by decide), n1, m4 2297 _ _ (by decide), m4 2298 _ _ (by decide)]
        omega
      · intro p k p0 p1 k0 k1
        rw [n5] at p1
        rw [m4 2298 _ _ (by decide)] at k1
        have q := h_portr p k p0 p1 k0 k1
        rw [n8 826 _ _ (by decide), n8 826 _ _ (by decide), n8 826 _ _ (by decide), m4 2299 _ _ (by decide), m4 2300 _ _ (by decide), m4 2301 _ _ (by decide), m4 2289 _ _ (by decide), m4 2290 _ _ (by decide), n2]
        omega
      · refine ⟨by rw [n2]; omega, ?_, by rw [m1, n2]⟩
        rw [n2]
        omega
      · intro c c0 c1
        rw [n2] at c1
        rw [n6, m2, m3]
        by_cases e : c = (M 824 8 0)
        · rw [if_pos e, if_pos e, n7, n7, if_neg (by omega), if_neg (by omega), if_pos ⟨e, rfl⟩, if_neg (by omega), if_pos ⟨e, rfl⟩]
          omega
        · rw [if_neg e, if_neg e, g1 c _ e, g1 c _ e]
          exact h_cards c c0 (by omega)
      · refine ⟨by rw [n1]; omega, by rw [n1, hT.2.1], by rw [n4]; exact h1.2.2.1, ?_⟩
        have q := h1.2.2.2
        rw [n1, n4]
        omega
      · refine tw_tellt hT h2 (by omega) (by omega) (by omega) (by omega) (fun _ => ⟨by omega, g2⟩) (fun x => by omega) (by omega) (fun c hc => g1 c 2 (by omega)) (by omega) (fun c _ => n8 889 c 5 (by decide))
      · refine tw_tellc hT h3 t0 (fun c c0 c1 => ?_)
        by_cases e : c = (M 824 8 0)
        · exact Or.inr ⟨rfl, e.symm, by rw [e]; exact g2⟩
        · exact Or.inl ⟨by omega, g1 c 2 e⟩
      · exact tw_tellr hT h4 t0 (fun c c0 c1 => Or.inl ⟨by omega, n8 889 c 5 (by decide)⟩)
      · exact tw_notek hT h5 t0 (by omega) (fun k k0 k1 => Or.inl ⟨by omega, n8 906 _ _ (by decide), n8 906 _ _ (by decide), n8 906 _ _ (by decide)⟩)
      · intro j k j0 jk k1
        rw [n8 906 _ _ (by decide), n8 906 _ _ (by decide)]
        exact h6 j k j0 jk (by omega)
      · exact tw_notex hT h7 (by omega) (fun k k0 k1 => n8 906 _ _ (by decide)) (fun x => by omega)
    refine ⟨fun _ => ck.symm, fin _ _ rfl rfl rfl rfl rfl rfl ?_ (fun a i j ha => by rcases ha with rfl | rfl | rfl | rfl <;> rfl) ⟨rfl, ?_, ?_, ?_, ?_⟩ ?_ ?_ ?_ (fun a i j ha => by rcases ha with rfl | rfl | rfl | rfl | rfl | rfl | rfl <;> rfl)⟩
    · intro c i
      simp only [qw_ap, false_and, true_and, and_true, and_false, and_self, if_false, if_true, reduceIte, Nat.reduceEqDiff, Int.reduceEq]
    · show (K 2156 45 0) + 1 = _
      rw [tk]
    · intro t
      simp only [qw_ap, false_and, true_and, and_true, and_false, and_self, if_false, if_true, reduceIte, Nat.reduceEqDiff, Int.reduceEq, tk]
    · intro t
      simp only [qw_ap, false_and, true_and, and_true, and_false, and_self, if_false, if_true, reduceIte, Nat.reduceEqDiff, Int.reduceEq, tk, ck]
    · intro t
      simp only [qw_ap, false_and, true_and, and_true, and_false, and_self, if_false, if_true, reduceIte, Nat.reduceEqDiff, Int.reduceEq, tk]
    · show (K 2156 36 0) + 1 = _
      rw [ck]
    · intro c
      simp only [qw_ap, false_and, true_and, and_true, and_false, and_self, if_false, if_true, reduceIte, Nat.reduceEqDiff, Int.reduceEq, ck]
    · intro c
      simp only [qw_ap, false_and, true_and, and_true, and_false, and_self, if_false, if_true, reduceIte, Nat.reduceEqDiff, Int.reduceEq, ck])
theorem op_right (h_built : R_built M K) (h_portk : R_portk M K) (h_rightn : R_rightn M K) (h_rights : R_rights M K) (hTL : TL M K) (hB : (M 824 12 0) < 512) : oK2 cI (qf_L_right 20000 x1 x2 x3 x4 x5 M) (qf_X18_right 20000 x1 x2 x3 x4 x5 K) (fun M' K' => R_portk M' K' ∧ R_rightn M' K' ∧ R_rights M' K' ∧ TL M' K') := by
  have s_built := h_built
  unfold R_built at s_built
  have s_rightn := h_rightn
  unfold R_rightn at s_rightn
  have s_telln := hTL.1
  unfold R_telln at s_telln
  have tk : (K 2156 45 0) = (M 824 12 0) := s_telln.2.1
  have ck : (K 2156 39 0) = (M 824 10 0) := s_rightn.2.2
  unfold oK2
  unfold qf_L_right qf_X11_right qf_X11_right_J35 qf_X11_right_J36 qf_X11_right_J66 qf_X11_right_J67 qf_X11_right_J93 qf_X11_right_J94 qf_X0_addRight qf_X18_right qf_X18_isMinute qf_X18_right_J51 qf_X18_right_J52 qf_X18_right_J77 qf_X18_right_J78
  repeat' first
    | ((with_reducible refine qW_eq (tel1_r ?_ ?_) ?_); (show 0 ≤ (K 2156 45 0); omega); (show (K 2156 45 0) < 4100; omega))
    | with_reducible refine qW_within (fun _ => ?_) (fun _ _ => ?_)
    | with_reducible refine qW_isIn (fun _ => ?_) (fun _ _ => ?_)
    | with_reducible refine qW_na (fun _ => ?_) (fun _ => ?_)
    | with_reducible refine qW_ns (fun _ => ?_) (fun _ => ?_)
    | (with_reducible refine qW_goes (fun _ => ?_) (fun _ _ => ?_) (fun _ _ => ?_) <;> (try dsimp only) <;> (try simp only [qw_ap, qfl1_ap, qfl2_ap, qcp1_ap, qcp2_ap, false_and, true_and, and_true, and_false, and_self, if_false, if_true, reduceIte, Nat.reduceEqDiff, Int.reduceEq, Int.reduceNeg]))
    | (with_reducible refine qW_stays (by omega) (fun _ => ?_) (fun _ => ?_) <;> (try dsimp only) <;> (try simp only [qw_ap, qfl1_ap, qfl2_ap, qcp1_ap, qcp2_ap, false_and, true_and, and_true, and_false, and_self, if_false, if_true, reduceIte, Nat.reduceEqDiff, Int.reduceEq, Int.reduceNeg]))
    | (exfalso; omega)
    | with_reducible refine qW_bind ?_
    | (with_reducible refine qW_bnd ?_; try simp only [qw_ap, qfl1_ap, qfl2_ap, qcp1_ap, qcp2_ap, false_and, true_and, and_true, and_false, and_self, if_false, if_true, reduceIte, Nat.reduceEqDiff, Int.reduceEq, Int.reduceNeg])
    | (with_reducible refine qW_some ?_; (try dsimp only); try simp only [qw_ap, qfl1_ap, qfl2_ap, qcp1_ap, qcp2_ap, false_and, true_and, and_true, and_false, and_self, if_false, if_true, reduceIte, Nat.reduceEqDiff, Int.reduceEq, Int.reduceNeg])
    | ((with_reducible refine qW_no ?_); omega)
    | with_reducible refine qW_pos rfl ?_
    | ((with_reducible refine qW_pos ?_ ?_); omega)
    | ((with_reducible refine qW_neg ?_ ?_); (first | omega | decide))
    | with_reducible refine qW_ite (fun _ => ?_) (fun _ => ?_)
    | dsimp only
  all_goals first
    | exact ⟨fun x => absurd x (by decide), R_portk_x (M := M) (K := K) rfl rfl (fun _ _ => rfl) (fun _ _ => rfl) (fun _ _ => rfl) h_portk, R_rightn_x (M := M) (K := K) rfl rfl h_rightn, R_rights_x (M := M) (K := K) rfl (fun _ _ => rfl) (fun _ _ => rfl) (fun _ _ => rfl) (fun _ _ => rfl) (fun _ _ => rfl) (fun _ _ => rfl) h_rights, TL_E hTL⟩
    | skip
  all_goals (
    have e1 : w32 ((M 824 12 0) + 1) = (M 824 12 0) + 1 := w32_id (by omega) (by omega)
    have e2 : w32 ((M 824 10 0) + 1) = (M 824 10 0) + 1 := w32_id (by omega) (by omega)
    have e3 : w32 ((K 2156 39 0) + 1) = (K 2156 39 0) + 1 := w32_id (by omega) (by omega)
    have e4 : w32 ((M 824 10 0) + 1 - 1) = (M 824 10 0) := (w32_id (by omega) (by omega)).trans (by omega)
    have e5 : w32 ((K 2156 39 0) + 1 - 1) = (K 2156 39 0) := (w32_id (by omega) (by omega)).trans (by omega)
    simp only [e1, e2, e3, e4, e5]
    have fin : ∀ S T : qm, (S 824 12 0) = (M 824 12 0) + 1 → (S 824 8 0) = (M 824 8 0) → (S 824 10 0) = (M 824 10 0) + 1 → (S 824 13 0) = (M 824 13 0) → (S 824 3 0) = (M 824 3 0) → (∀ c i, (S 889 c i) = if c = (M 824 10 0) ∧ i = 5 then (M 824 12 0) else if c = (M 824 10 0) ∧ i = 4 then x5 else if c = (M 824 10 0) ∧ i = 3 then x4 else if c = (M 824 10 0) ∧ i = 2 then x3 else if c = (M 824 10 0) ∧ i = 1 then x2 else if c = (M 824 10 0) ∧ i = 0 then x1 else (M 889 c i)) → (∀ a i j, a = 828 ∨ a = 906 ∨ a = 825 ∨ a = 826 → S a i j = M a i j) → TW M K S T 1 (M 824 10 0) x5 → (T 2156 39 0) = (M 824 10 0) + 1 → (∀ c, (T 2314 c 0) = if c = (M 824 10 0) then x1 else (K 2314 c 0)) → (∀ c, (T 2315 c 0) = if c = (M 824 10 0) then x2 else (K 2315 c 0)) → (∀ c, (T 2316 c 0) = if c = (M 824 10 0) then x3 else (K 2316 c 0)) → (∀ c, (T 2317 c 0) = if c = (M 824 10 0) then x4 else (K 2317 c 0)) → (∀ c, (T 2318 c 0) = if c = (M 824 10 0) then x5 else (K 2318 c 0)) → (∀ a i j, a = 2297 ∨ a = 2298 → T a i j = K a i j) → R_portk S T ∧ R_rightn S T ∧ R_rights S T ∧ TL S T := by
      intro S T n1 n2 n3 n4 n5 n7 n8 hT m1 m2 m3 m5 m6 m7 m4
      obtain ⟨h1, h2, h3, h4, h5, h6, h7⟩ := hTL
      have t0 : 0 ≤ (M 824 12 0) := h1.1
      have g1 : ∀ c i, c ≠ (M 824 10 0) → (S 889 c i) = (M 889 c i) := fun c i h => by rw [n7, if_neg (fun x => h x.1), if_neg (fun x => h x.1), if_neg (fun x => h x.1), if_neg (fun x => h x.1), if_neg (fun x => h x.1), if_neg (fun x => h x.1)]
      have g2 : (S 889 (M 824 10 0) 5) = (M 824 12 0) := by rw [n7, if_pos ⟨rfl, rfl⟩]
      refine ⟨?_, ?_, ?_, ?_, ?_, ?_, ?_, ?_, ?_, ?_⟩
      · intro p p0 p1
        rw [n5] at p1
        have q := h_portk p p0 p1
        rw [n8 825 _ _ (by decide), n8 825 _ _ (by decide), n1, m4 2297 _ _ (by decide), m4 2298 _ _ (by decide)]
        omega
      · refine ⟨by rw [n3]; omega, ?_, by rw [m1, n3]⟩
        rw [n3]
        omega
      · intro c c0 c1
        rw [n3] at c1
        rw [m2, m3, m5, m6, m7]
        by_cases e : c = (M 824 10 0)
        · rw [e, if_pos rfl, if_pos rfl, if_pos rfl, if_pos rfl, if_pos rfl]
          simp only [n7, true_and, Int.reduceEq, if_false, if_true, reduceIte]
          omega
        · rw [if_neg e, if_neg e, if_neg e, if_neg e, if_neg e, g1 c _ e, g1 c _ e, g1 c _ e, g1 c _ e, g1 c _ e]
          exact h_rights c c0 (by omega)
      · refine ⟨by rw [n1]; omega, by rw [n1, hT.2.1], by rw [n4]; exact h1.2.2.1, ?_⟩
        have q := h1.2.2.2
        rw [n1, n4]
        omega
      · refine tw_tellt hT h2 (by omega) (by omega) (by omega) (by omega) (fun x => by omega) (fun _ => ⟨by omega, g2⟩) (by omega) (fun c _ => n8 828 c 2 (by decide)) (by omega) (fun c hc => g1 c 5 (by omega))
      · exact tw_tellc hT h3 t0 (fun c c0 c1 => Or.inl ⟨by omega, n8 828 c 2 (by decide)⟩)
      · refine tw_tellr hT h4 t0 (fun c c0 c1 => ?_)
        by_cases e : c = (M 824 10 0)
        · exact Or.inr ⟨rfl, e.symm, by rw [e]; exact g2⟩
        · exact Or.inl ⟨by omega, g1 c 5 e⟩
      · exact tw_notek hT h5 t0 (by omega) (fun k k0 k1 => Or.inl ⟨by omega, n8 906 _ _ (by decide), n8 906 _ _ (by decide), n8 906 _ _ (by decide)⟩)
      · intro j k j0 jk k1
        rw [n8 906 _ _ (by decide), n8 906 _ _ (by decide)]
        exact h6 j k j0 jk (by omega)
      · exact tw_notex hT h7 (by omega) (fun k k0 k1 => n8 906 _ _ (by decide)) (fun x => by omega)
    refine ⟨fun _ => ck.symm, fin _ _ rfl rfl rfl rfl rfl ?_ (fun a i j ha => by rcases ha with rfl | rfl | rfl | rfl <;> rfl) ⟨rfl, ?_, ?_, ?_, ?_⟩ ?_ ?_ ?_ ?_ ?_ ?_ (fun a i j ha => by rcases ha with rfl | rfl <;> rfl)⟩
    · intro c i
      simp only [qw_ap, false_and, true_and, and_true, and_false, and_self, if_false, if_true, reduceIte, Nat.reduceEqDiff, Int.reduceEq]
    · show (K 2156 45 0) + 1 = _
      rw [tk]
    · intro t
      simp only [qw_ap, false_and, true_and, and_true, and_false, and_self, if_false, if_true, reduceIte, Nat.reduceEqDiff, Int.reduceEq, tk]
    · intro t
      simp only [qw_ap, false_and, true_and, and_true, and_false, and_self, if_false, if_true, reduceIte, Nat.reduceEqDiff, Int.reduceEq, tk, ck]
    · intro t
      simp only [qw_ap, false_and, true_and, and_true, and_false, and_self, if_false, if_true, reduceIte, Nat.reduceEqDiff, Int.reduceEq, tk]
    · show (K 2156 39 0) + 1 = _
      rw [ck]
    all_goals (
      intro c
      simp only [qw_ap, false_and, true_and, and_true, and_false, and_self, if_false, if_true, reduceIte, Nat.reduceEqDiff, Int.reduceEq, ck]))
end OPS
