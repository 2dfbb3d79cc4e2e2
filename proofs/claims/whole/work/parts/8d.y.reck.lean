section WDy
variable {M K A Z W M0 K0 : qm} {kd vl : Int → Int} {S F : Int → Int × Int × List (Int × Int)} {KK : Int → qm → Option (Unit × qm)} {row : List (Int × Int)} {a b c d s u v n p q k to e h x y : Int} {N m : Nat}
/-- a word is passed, wherever -/
theorem tw_any (c0 : 0 ≤ M 735 11 0) (c1 : M 735 11 0 ≤ 120) : ∃ e A, qf_X7_takeWord 20000 M = some (e, A) ∧ (∀ b x y, ¬ (b = 735 ∧ x = 11) → A b x y = M b x y) ∧ 0 ≤ A 735 11 0 ∧ A 735 11 0 ≤ 120 := by
  unfold qf_X7_takeWord qbnd
  rw [if_pos (show 0 ≤ M 735 11 0 ∧ M 735 11 0 < 121 by omega)]
  by_cases g : 120 ≤ M 735 11 0
  · rw [if_pos g]
    exact ⟨_, M, rfl, fun _ _ _ _ => rfl, c0, c1⟩
  · rw [if_neg g, w32_id (x := M 735 11 0 + 1) (by omega) (by omega)]
    refine ⟨_, qw M 735 11 0 (M 735 11 0 + 1), rfl, fun b x y z => by rw [qw_ap, if_neg (by omega)], ?_, ?_⟩
    · rw [qw_s]
      omega
    · rw [qw_s]
      omega
theorem rfact_both (hl : LSW kd n) (hS : ∀ c, 0 ≤ c → c ≤ n → ROK n c (S c)) (hK : d < 8 → RCK kd vl n S (KK (d + 1)) h) (d0 : 0 ≤ d) (d8 : d ≤ 8) (h0 : 0 ≤ h) : RCK kd vl n (pF kd vl S d) (qf_X7_reckonFactor 20000 KK d) h := fun c M K v k to bg h1 hv ra k0 kt t8 => by
  have n1 := hl.2.1
  have bg' := bg
  obtain ⟨kv, fc, hc, c0, c1, b6, b7, b8, b9, b10, b11⟩ := bg
  have kc := (kv.1 c c0 (by omega)).1
  unfold pF at h1 ra kt ⊢
  by_cases g : kd c = 48
  · rw [if_pos g] at h1 ra kt ⊢
    exact val_both hl bg' (by omega) (Or.inl ⟨g, rfl⟩) ⟨ra.1, ra.2.1⟩ k0 (by have kt : k + ((1 : Nat) : Int) ≤ to := kt; omega) t8
  · rw [if_neg g] at h1 ra kt ⊢
    by_cases g2 : kd c = 97
    · rw [if_pos g2] at h1 ra kt ⊢
      exact val_both hl bg' (by omega) (Or.inr ⟨g2, rfl⟩) ⟨ra.1, ra.2.1⟩ k0 (by have kt : k + ((1 : Nat) : Int) ≤ to := kt; omega) t8
    · rw [if_neg g2] at h1 ra kt ⊢
      by_cases g3 : 8 ≤ d
      · rw [if_pos g3] at h1
        have h1 : (0 : Int) = 1 := h1
        omega
      · rw [if_neg g3] at h1 ra kt ⊢
        by_cases g4 : kd c = 40
        · rw [if_pos g4] at h1 ra kt ⊢
          have cn := lst_lt hl c1 (by omega) (by omega)
          by_cases g5 : (S (c + 1)).1 = 0
          · rw [if_pos g5] at h1
            have h1 : (0 : Int) = 1 := h1
            omega
          · rw [if_neg g5] at h1 ra kt ⊢
            by_cases g6 : kd (S (c + 1)).2.1 = 41
            · rw [if_pos g6] at h1 ra kt ⊢
              have ok := hS (c + 1) (by omega) (by omega)
              have o1 := ok.1
              have o2 := ok.2.1
              have o3 := ok.2.2.1
              have ol := lst_lt hl o3 (by omega) (by omega)
              obtain ⟨M1, hM1⟩ : ∃ X, qw M 735 11 0 (c + 1) = X := ⟨_, rfl⟩
              have fM1 : ∀ b x y, ¬ (b = 735 ∧ x = 11) → M1 b x y = M b x y := fun b x y z => by rw [← hM1, qw_ap, if_neg (by omega)]
              have M111 : M1 735 11 0 = c + 1 := by rw [← hM1]; exact qw_s
              have frM1 : FRC M M1 := fun b x y z => fM1 b x y (by omega)
              have tw := tw_C (M := M) hc c0 (by omega) kc
              rw [hM1] at tw
              have bg1 : RBG kd vl n M1 K (c + 1) v := ⟨kdv_o kv frM1, fc3_o (v := 0) fc frM1 (fun _ _ _ _ _ => rfl), M111, by omega, by omega, (fM1 _ _ _ (by decide)).trans b6, (fM1 _ _ _ (by decide)).trans b7, b8, b9, b10, b11⟩
              obtain ⟨A1, W1, e1, fA1, fW1, hv1⟩ := hK (by omega) (c + 1) M1 K v k to bg1 (by omega) hv ra k0 kt t8
              have stp : qf_X7_reckonFactor 20000 KK d M = (qf_X7_takeWord 20000 A1).bind (fun r18 => some ((), r18.2)) := by
                unfold qf_X7_reckonFactor
                rw [hc, if_pos (show 0 ≤ c ∧ c < 121 by omega), tw]
                simp only [Option.bind_some]
                rw [if_pos g4, if_neg g3, w32_id (x := d + 1) (by omega) (by omega), show KK (d + 1) M1 = some ((), A1) from e1]
                rfl
              rcases hv1 with ⟨vg1, cA1, lp1⟩ | ⟨vb1, cb0, cb1, j, j1, lp1⟩
              · have kv1 := kdv_o (kdv_o kv frM1) fA1
                have tw2 := tw_C (M := A1) cA1 (by omega) (by omega) (kv1.1 _ (by omega) (by omega)).1
                have fA2 : ∀ b x y, ¬ (b = 735 ∧ x = 11) → qw A1 735 11 0 ((S (c + 1)).2.1 + 1) b x y = A1 b x y := fun b x y z => by rw [qw_ap, if_neg (by omega)]
                obtain ⟨g1, g2, g3, g4, g5, g6, g7, g8, g9, g10⟩ := vg1
                refine ⟨qw A1 735 11 0 ((S (c + 1)).2.1 + 1), W1, ?_, fun b x y z => ?_, fW1, Or.inl ⟨⟨?_, ?_, g3, g4, g5, ?_, ?_, ?_, ?_, ?_⟩, qw_s, lp1⟩⟩
                · show qf_X7_reckonFactor 20000 KK d M = _
                  rw [stp, tw2]
                  rfl
                · rw [fA2 b x y (by omega)]
                  exact frc_t frM1 fA1 b x y z
                · rw [fA2 _ _ _ (by decide)]
                  exact g1
                · rw [fA2 _ _ _ (by decide)]
                  exact g2
                · rw [fA2 _ _ _ (by decide)]
                  exact g6
                · rw [fA2 _ _ _ (by decide)]
                  exact g7
                · rw [fA2 _ _ _ (by decide)]
                  exact g8
                · rw [fA2 _ _ _ (by decide)]
                  exact g9
                · rw [fA2 _ _ _ (by decide)]
                  exact g10
              · obtain ⟨e, A2, e2, fA2, q0, q1⟩ := tw_any cb0 cb1
                have frA2 : FRC M A2 := fun b x y z => by
                  rw [fA2 b x y (by omega)]
                  exact frc_t frM1 fA1 b x y z
                obtain ⟨y1, y2, y3, y4⟩ := vb1
                have z12 : A2 735 12 0 = A1 735 12 0 := fA2 _ _ _ (by decide)
                have z13 : A2 735 13 0 = A1 735 13 0 := fA2 _ _ _ (by decide)
                refine ⟨A2, W1, ?_, frA2, fW1, Or.inr ⟨⟨by rw [z12]; exact y1, by rw [z12]; exact y2, by rw [z13]; exact y3, by rw [z12]; exact y4⟩, q0, q1, j, j1, lp1⟩⟩
                show qf_X7_reckonFactor 20000 KK d M = _
                rw [stp, e2]
                rfl
            · rw [if_neg g6] at h1
              have h1 : (0 : Int) = 1 := h1
              omega
        · rw [if_neg g4] at h1
          have h1 : (0 : Int) = 1 := h1
          omega
/-- behind the first part, the loop -/
theorem then_both {G : qm → Option (Unit × qm)} {G2 : qm → Option (Unit × qm)} {row row2 : List (Int × Int)} {c1 c2 : Int} (h1 : RC1 (fun A => G M = some ((), A)) M K row k to v c1) (hb : ∀ A, G M = some ((), A) → A 735 12 0 ≠ 0 → G2 M = some ((), A)) (h2 : ∀ A W, G M = some ((), A) → FRC M A → FRK K W v → VLG A W v → A 735 11 0 = c1 → RC1 (fun B => G2 M = some ((), B)) A W row2 (k + row.length) to v c2) : RC1 (fun A => G2 M = some ((), A)) M K (row ++ row2) k to v c2 := by
  obtain ⟨A1, W1, e1, fA1, fW1, hv1⟩ := h1
  rcases hv1 with ⟨vg1, cA1, lp1⟩ | ⟨vb1, cb0, cb1, j, j1, lp1⟩
  · obtain ⟨A2, W2, e2, fA2, fW2, hv2⟩ := h2 A1 W1 e1 fA1 fW1 vg1 cA1
    refine ⟨A2, W2, e2, frc_t fA1 fA2, frk_t fW1 fW2 (Int.le_refl _), ?_⟩
    rcases hv2 with ⟨vg2, cA2, lp2⟩ | ⟨vb2, cb0, cb1, j, j1, lp2⟩
    · refine Or.inl ⟨vg2, cA2, fun N => ?_⟩
      rw [List.length_append, show N + (row.length + row2.length) = N + row2.length + row.length by omega, lp1, lp2]
      congr 1
      omega
    · refine Or.inr ⟨vb2, cb0, cb1, j + row.length, by rw [List.length_append]; omega, fun N => ?_⟩
      rw [show N + (j + row.length) + 1 = N + j + 1 + row.length by omega, lp1]
      exact lp2 N
  · exact ⟨A1, W1, hb A1 e1 vb1.1, fA1, fW1, Or.inr ⟨vb1, cb0, cb1, j, by rw [List.length_append]; omega, lp1⟩⟩
theorem rterm_both (hl : LSW kd n) (hn : ∀ c, 0 ≤ c → c ≤ n → ROK n c (pF kd vl S d c)) (hF : RCK kd vl n (pF kd vl S d) (qf_X7_reckonFactor 20000 KK d) h) (h0 : 0 ≤ h) : RCK kd vl n (pT kd vl S d) (qf_X7_reckonTerm 20000 KK d) (h + 1) := fun c M K v k to bg h1 hv ra k0 kt t8 => by
  have n1 := hl.2.1
  have c0 := bg.2.2.2.1
  have c1 := bg.2.2.2.2.1
  have b11 := bg.2.2.2.2.2.2.2.2.2.2
  unfold pT at h1 ra kt ⊢
  have ok := hn c c0 c1
  have f1 : (pF kd vl S d c).1 = 1 := by
    rcases ok.1 with z | z
    · rw [pL_63 z] at h1
      omega
    · exact z
  obtain ⟨b, c2, rF, hp⟩ : ∃ b c2 rF, pF kd vl S d c = (b, c2, rF) := ⟨_, _, _, rfl⟩
  rw [hp] at f1 ok h1 ra kt ⊢
  have f1 : b = 1 := f1
  rw [f1] at h1 ra kt ⊢
  rw [pL_row] at h1 ra kt ⊢
  (try dsimp only at h1 ra kt ⊢)
  rw [rat_app] at ra
  rw [len_a] at kt
  have o2 : c ≤ c2 := ok.2.1
  have o3 : c2 ≤ n := ok.2.2.1
  have r1 := hF c M K v k to bg (by rw [hp]; exact f1) (by omega) (by rw [hp]; exact ra.1) k0 (by rw [hp]; show k + (rF.length : Int) ≤ to; omega) t8
  rw [hp] at r1
  have wr : ∀ A, qf_X7_reckonFactor 20000 KK d M = some ((), A) → qf_X7_reckonTerm 20000 KK d M = (qf_X7_reckonTerm_L7 20000 KK 20000 d 0 A).bind (fun r => (match r with | .inl o => some o | .inr (_, M16) => some ((), M16))) := fun A e => by
    unfold qf_X7_reckonTerm
    rw [e]
    rfl
  refine then_both (G := qf_X7_reckonFactor 20000 KK d) r1 (fun A e z => ?_) (fun A W e fA fW vg cA => ?_)
  · rw [wr A e]
    have : qf_X7_reckonTerm_L7 20000 KK 20000 d 0 A = some (.inr ((), A)) := by
      show qloop _ (19999 + 1) (d, 0, A) = _
      rw [qloop.eq_2]
      (try dsimp only)
      have : qf_X7_reckonTerm_L7_b 20000 KK d 0 A = some (.inl (.inr ((), A))) := by
        unfold qf_X7_reckonTerm_L7_b
        rw [if_neg (by decide), if_neg z]
      rw [this]
    rw [this]
    rfl
  · have l := rtermL_both (to := to) hl hF hn 120 20000 0 c2 A W v (k + (rF.length : Int)) (by decide) (by decide) (by decide) (kdv_o bg.1 fA) (fc3_o bg.2.1 fA fW) vg cA (by omega) o3 h1 b11 (by omega) h0 (frk_rat fW ra.2) (by omega) (by omega) t8
    obtain ⟨A2, W2, x1, x2, x3, x4⟩ := l
    refine ⟨A2, W2, ?_, x2, x3, x4⟩
    show qf_X7_reckonTerm 20000 KK d M = _
    rw [wr A e, x1]
    rfl
theorem rside_both (hl : LSW kd n) (hn : ∀ c, 0 ≤ c → c ≤ n → ROK n c (pT kd vl S d c)) (hF : RCK kd vl n (pT kd vl S d) (qf_X7_reckonTerm 20000 KK d) h) (h0 : 0 ≤ h) : RCK kd vl n (pS0 kd vl S d) (qf_X7_reckonSide_B 20000 KK d) (h + 1) := fun c M K v k to bg h1 hv ra k0 kt t8 => by
  have n1 := hl.2.1
  have bg' := bg
  obtain ⟨kv, fc, hc, c0, c1, b6, b7, b8, b9, b10, b11⟩ := bg
  have kc := (kv.1 c c0 (by omega)).1
  have cc : 0 ≤ c ∧ c < 121 := by omega
  -- behind the first term
  have wh : ∀ A, A 735 12 0 ≠ 0 → qf_X7_reckonSide_B_J50 20000 KK d A = some ((), A) := fun A z => by
    have : qf_X7_reckonSide_B_L52 20000 KK 20000 d 0 A = some (.inr ((), A)) := by
      show qloop _ (19999 + 1) (d, 0, A) = _
      rw [qloop.eq_2]
      (try dsimp only)
      have : qf_X7_reckonSide_B_L52_b 20000 KK d 0 A = some (.inl (.inr ((), A))) := by
        unfold qf_X7_reckonSide_B_L52_b
        rw [if_neg (by decide), if_neg z]
      rw [this]
    unfold qf_X7_reckonSide_B_J50
    rw [this]
    rfl
  have rest : ∀ (A W : qm) (c2 : Int) (row : List (Int × Int)), FRC M A → FRK K W v → VLG A W v → A 735 11 0 = c2 → 0 ≤ c2 → c2 ≤ n → (pL kd 43 45 (pT kd vl S d) 120 (1, c2, [])).1 = 1 → RAT K (k + row.length) (pL kd 43 45 (pT kd vl S d) 120 (1, c2, [])).2.2 → k + row.length + (pL kd 43 45 (pT kd vl S d) 120 (1, c2, [])).2.2.length ≤ to → RC1 (fun B => qf_X7_reckonSide_B_J50 20000 KK d A = some ((), B)) A W (pL kd 43 45 (pT kd vl S d) 120 (1, c2, [])).2.2 (k + row.length) to v (pL kd 43 45 (pT kd vl S d) 120 (1, c2, [])).2.1 := fun A W c2 row fA fW vg cA c20 c2n p1 pr pk => by
    obtain ⟨A2, W2, x1, x2, x3, x4⟩ := rsideL_both (to := to) hl hF hn 120 20000 0 c2 A W v (k + (row.length : Int)) (by decide) (by decide) (by decide) (kdv_o kv fA) (fc3_o fc fA fW) vg cA c20 c2n p1 b11 (by omega) h0 (frk_rat fW pr) (by omega) pk t8
    refine ⟨A2, W2, ?_, x2, x3, x4⟩
    show qf_X7_reckonSide_B_J50 20000 KK d A = _
    unfold qf_X7_reckonSide_B_J50
    rw [x1]
    rfl
  unfold pS0 at h1 ra kt ⊢
  by_cases g : kd c = 45
  · rw [if_pos g] at h1 ra kt ⊢
    have cn := lst_lt hl c1 (by omega) (by omega)
    have ok := hn (c + 1) (by omega) (by omega)
    obtain ⟨b, c2, rF, hp⟩ : ∃ b c2 rF, pT kd vl S d (c + 1) = (b, c2, rF) := ⟨_, _, _, rfl⟩
    rw [hp] at ok h1 ra kt ⊢
    (try dsimp only at h1 ra kt ⊢)
    have f1 : b = 1 := by
      rcases ok.1 with z | z
      · have z : b = 0 := z
        rw [pL_63 (r := (b, c2, (0, 0) :: (rF ++ [(3, 0)]))) z] at h1
        exact h1
      · exact z
    rw [f1] at h1 ra kt ⊢
    rw [pL_row] at h1 ra kt ⊢
    (try dsimp only at h1 ra kt ⊢)
    rw [show (0, 0) :: (rF ++ [(3, 0)]) = [((0 : Int), (0 : Int))] ++ (rF ++ [((3 : Int), (0 : Int))]) from rfl] at ra kt ⊢
    rw [rat_app, rat_app, rat_app] at ra
    obtain ⟨⟨ra0, ra1, ra2⟩, ra3⟩ := ra
    rw [len_a, len_a, len_a] at kt
    rw [List.length_singleton] at kt ra1 ra2
    rw [List.length_singleton] at kt
    have o2 : c + 1 ≤ c2 := ok.2.1
    have o3 : c2 ≤ n := ok.2.2.1
    -- a zero on the pile
    obtain ⟨W0, e0, p0, w0, hW0⟩ := push_e (K := K) (u := 0) (l := 1) b10 b11 (by omega) b8 (by decide) (by decide) (by decide) (by decide) (by decide)
    rw [lw_1] at hW0
    obtain ⟨p, q, l1, l2, l3, l4, l5⟩ : ∃ p q, some ((0 : Int), (1 : Int)) = some (p, q) ∧ W0 2184 40 0 = 0 ∧ W0 2184 41 0 = K 2184 41 0 ∧ W0 2206 v 0 = p ∧ W0 2207 v 0 = q := by
      rcases hW0 with h | ⟨h, _⟩
      · exact h
      · cases h
    obtain ⟨rfl, rfl⟩ := Prod.mk.inj (Option.some.inj l1)
    have fW0 := puf_k p0
    have ck : 0 ≤ k ∧ k < 800 := by omega
    have l7 : qf_X15_reckon_L7_b 20000 to k K = some (.inr (to, k + 1, W0)) := by
      unfold qf_X15_reckon_L7_b
      rw [if_neg (by omega), if_pos b8, if_pos ck, ra0.1, if_pos rfl, if_pos ck, ra0.2.1, e0, w32_id (x := k + 1) (by omega) (by omega)]
      rfl
    obtain ⟨M1, hM1⟩ : ∃ X, qw M 735 11 0 (c + 1) = X := ⟨_, rfl⟩
    have fM1 : ∀ b x y, ¬ (b = 735 ∧ x = 11) → M1 b x y = M b x y := fun b x y z => by rw [← hM1, qw_ap, if_neg (by omega)]
    have M111 : M1 735 11 0 = c + 1 := by rw [← hM1]; exact qw_s
    have frM1 : FRC M M1 := fun b x y z => fM1 b x y (by omega)
    have tw := tw_C (M := M) hc c0 (by omega) kc
    rw [hM1] at tw
    have bg1 : RBG kd vl n M1 W0 (c + 1) (v + 1) := ⟨kdv_o kv frM1, fc3_o fc frM1 fW0, M111, by omega, by omega, (fM1 _ _ _ (by decide)).trans b6, (fM1 _ _ _ (by decide)).trans b7, l2, l3.trans b9, w0, by omega⟩
    obtain ⟨A1, W1, e1, fA1, fW1, hv1⟩ := hF (c + 1) M1 W0 (v + 1) (k + 1) to bg1 (by rw [hp]; exact f1) (by omega) (by rw [hp]; exact frk_rat fW0 ra1) (by omega) (by rw [hp]; show k + 1 + (rF.length : Int) ≤ to; omega) t8
    rw [hp] at hv1
    have frA1 : FRC M A1 := frc_t frM1 fA1
    have frW1 : FRK K W1 v := frk_t fW0 fW1 (by omega)
    have stp : qf_X7_reckonSide_B 20000 KK d M = (qf_X7_combine 20000 45 0 1 A1).bind (fun r21 => (qf_X7_takeOutCommon 20000 r21.2).bind (fun r23 => qf_X7_reckonSide_B_J50 20000 KK d r23.2)) := by
      unfold qf_X7_reckonSide_B qf_X7_reckonSide_B_J19 qf_X7_reckonSide_B_J29
      rw [hc, if_pos cc, kc, if_pos g, if_neg (by decide), tw]
      simp only [Option.bind_some]
      rw [show qf_X7_reckonTerm 20000 KK d M1 = some ((), A1) from e1]
      simp only [Option.bind_some]
      rw [if_neg (by decide)]
    have lp0 : ∀ N, qf_X15_reckon_L7 20000 (N + 1) to k K = qf_X15_reckon_L7 20000 N to (k + 1) W0 := fun N => l7_go l7 N
    rcases hv1 with ⟨vg1, cA1, lp1⟩ | ⟨vb1, cb0, cb1, j, j1, lp1⟩
    · (try dsimp only at cA1 lp1)
      have ha : W1 2206 v 0 = 0 := (fW1 _ _ _ (by omega) (by omega)).trans l4
      have hb : W1 2207 v 0 = 1 := (fW1 _ _ _ (by omega) (by omega)).trans l5
      obtain ⟨A2, W2, e2, e3, fA2, cA2, fW2, hv2⟩ := oper_both (i := 3) (s := 45) (Or.inr (Or.inl ⟨rfl, rfl⟩)) vg1 b11 (by omega) ha hb (by unfold FIT; decide) (by unfold FIT; decide) (by decide)
      have frA2 : FRC M A2 := frc_t frA1 fA2
      have frW2 : FRK K W2 v := frk_t frW1 fW2 (Int.le_refl _)
      have w40 := vg1.2.2.1
      have rk : W1 2196 (k + 1 + rF.length) 0 = 3 := by
        rw [frW1 _ _ _ (by omega) (by omega)]
        have := ra2.1
        rw [show k + ((1 : Nat) : Int) + (rF.length : Int) = k + 1 + (rF.length : Int) by omega] at this
        exact this
      have l72 : qf_X15_reckon_L7_b 20000 to (k + 1 + rF.length) W1 = some (.inr (to, k + 1 + rF.length + 1, W2)) := by
        have ck : 0 ≤ k + 1 + (rF.length : Int) ∧ k + 1 + (rF.length : Int) < 800 := by omega
        unfold qf_X15_reckon_L7_b
        rw [if_neg (by omega), if_pos w40, if_pos ck, rk, if_neg (by decide), if_pos ck, if_neg (by decide), if_pos ck, e3, w32_id (x := k + 1 + (rF.length : Int) + 1) (by omega) (by omega)]
        rfl
      have lp2 : ∀ N, qf_X15_reckon_L7 20000 (N + (rF.length + 2)) to k K = qf_X15_reckon_L7 20000 N to (k + 1 + rF.length + 1) W2 := fun N => by
        rw [show N + (rF.length + 2) = N + 1 + rF.length + 1 by omega, lp0, lp1, l7_go l72]
      have stp2 : qf_X7_reckonSide_B 20000 KK d M = qf_X7_reckonSide_B_J50 20000 KK d A2 := by
        rw [stp]
        rcases hq : qf_X7_combine 20000 45 0 1 A1 with _ | q
        · rw [hq] at e2
          cases e2
        · rw [hq] at e2
          simp only [Option.bind_some] at e2 ⊢
          rw [e2]
          rfl
      have lr : ([((0 : Int), (0 : Int))] ++ (rF ++ [((3 : Int), (0 : Int))])).length = rF.length + 2 := by
        rw [List.length_append, List.length_append, List.length_singleton, List.length_singleton]
        omega
      have r1 : RC1 (fun A => A = A2) M K ([(0, 0)] ++ (rF ++ [(3, 0)])) k to v c2 := by
        refine ⟨A2, W2, rfl, frA2, frW2, ?_⟩
        rcases hv2 with vg2 | vb2
        · refine Or.inl ⟨vg2, cA2.trans cA1, fun N => ?_⟩
          rw [lr, lp2]
          congr 1
          omega
        · refine Or.inr ⟨vb2, by omega, by omega, rF.length + 2, by rw [lr]; exact Nat.le_refl _, fun N => ?_⟩
          rw [show N + (rF.length + 2) + 1 = N + 1 + (rF.length + 2) by omega, lp2]
          exact l7_stop (Or.inr (by rw [vb2.2.1]; exact vb2.1)) N
      refine then_both (G := fun _ => some ((), A2)) (c1 := c2) ?_ (fun A e z => ?_) (fun A W e fA fW vg cA => ?_)
      · obtain ⟨A, W, rfl, x⟩ := r1
        exact ⟨A, W, rfl, x⟩
      · have : A2 = A := (Prod.mk.inj (Option.some.inj e)).2
        rw [stp2, this]
        exact wh A z
      · have eA : A2 = A := (Prod.mk.inj (Option.some.inj e)).2
        rw [← eA] at fA vg cA ⊢
        have q := rest A2 W c2 ([((0 : Int), (0 : Int))] ++ (rF ++ [((3 : Int), (0 : Int))])) fA fW vg cA (by omega) o3 h1 ra3 (by rw [lr]; omega)
        obtain ⟨B, W', x1, x2⟩ := q
        exact ⟨B, W', stp2.trans x1, x2⟩
    · have e2 : qf_X7_reckonSide_B 20000 KK d M = some ((), A1) := by
        rw [stp, comb_skip vb1.1]
        simp only [Option.bind_some]
        rw [toc_skip vb1.1]
        simp only [Option.bind_some]
        exact wh A1 vb1.1
      refine ⟨A1, W1, e2, frA1, frW1, Or.inr ⟨vb1, cb0, cb1, j + 1, ?_, fun N => ?_⟩⟩
      · (try dsimp only at j1)
        rw [List.length_append, List.length_append, List.length_append, List.length_singleton]
        omega
      · rw [show N + (j + 1) + 1 = N + j + 1 + 1 by omega, lp0]
        exact lp1 N
  · rw [if_neg g] at h1 ra kt ⊢
    have ok := hn c c0 c1
    obtain ⟨b, c2, rF, hp⟩ : ∃ b c2 rF, pT kd vl S d c = (b, c2, rF) := ⟨_, _, _, rfl⟩
    rw [hp] at ok h1 ra kt ⊢
    have f1 : b = 1 := by
      rcases ok.1 with z | z
      · have z : b = 0 := z
        rw [pL_63 (r := (b, c2, rF)) z] at h1
        exact h1
      · exact z
    rw [f1] at h1 ra kt ⊢
    rw [pL_row] at h1 ra kt ⊢
    (try dsimp only at h1 ra kt ⊢)
    rw [rat_app] at ra
    rw [len_a] at kt
    have o2 : c ≤ c2 := ok.2.1
    have o3 : c2 ≤ n := ok.2.2.1
    have r1 := hF c M K v k to bg' (by rw [hp]; exact f1) (by omega) (by rw [hp]; exact ra.1) k0 (by rw [hp]; show k + (rF.length : Int) ≤ to; omega) t8
    rw [hp] at r1
    have wr : ∀ A, qf_X7_reckonTerm 20000 KK d M = some ((), A) → qf_X7_reckonSide_B 20000 KK d M = qf_X7_reckonSide_B_J50 20000 KK d A := fun A e => by
      unfold qf_X7_reckonSide_B qf_X7_reckonSide_B_J19 qf_X7_reckonSide_B_J29
      rw [hc, if_pos cc, kc, if_neg g, if_pos rfl, e]
      simp only [Option.bind_some]
      (first | rw [if_pos trivial] | rw [if_pos rfl])
    refine then_both (G := qf_X7_reckonTerm 20000 KK d) r1 (fun A e z => ?_) (fun A W e fA fW vg cA => ?_)
    · rw [wr A e]
      exact wh A z
    · obtain ⟨B, W', x1, x2⟩ := rest A W c2 rF fA fW vg cA (by omega) o3 h1 ra.2 (by omega)
      exact ⟨B, W', (wr A e).trans x1, x2⟩
theorem rsides_all (hl : LSW kd n) : ∀ (m : Nat) (d : Int), 0 ≤ d → d ≤ 8 → 9 ≤ d + m → RCK kd vl n (fun c => pS kd vl m d c) (qr_X7_reckonSide 20000 m d) (2 * (8 - d) + 2) := by
  intro m
  induction m with
  | zero => intro d d0 d1 d2; omega
  | succ m ih =>
    intro d d0 d1 d2
    have hS : ∀ c, 0 ≤ c → c ≤ n → ROK n c (pS kd vl m (d + 1) c) := fun c c0 c1 => pS_ok hl m (d + 1) c c0 c1
    have f := rfact_both (KK := qr_X7_reckonSide 20000 m) (vl := vl) (h := 2 * (8 - d)) hl hS (fun d7 => by
      have := ih (d + 1) (by omega) (by omega) (by omega)
      rw [show 2 * (8 - (d + 1)) + 2 = 2 * (8 - d) by omega] at this
      exact this) d0 d1 (by omega)
    have t := rterm_both hl (fun c c0 c1 => pF_ok hl hS c0 c1) f (by omega)
    have s := rside_both hl (fun c c0 c1 => pT_ok hl hS c0 c1) t (by omega)
    rw [show 2 * (8 - d) + 1 + 1 = 2 * (8 - d) + 2 by omega] at s
    exact s
end WDy
