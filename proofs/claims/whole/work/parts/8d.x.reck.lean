/-! ===== rules: terms and sides are reckoned alike ===== -/
section WDx
variable {M K A Z W M0 K0 : qm} {kd vl : Int → Int} {S F : Int → Int × Int × List (Int × Int)} {KK : Int → qm → Option (Unit × qm)} {row : List (Int × Int)} {a b c d s u v n p q k to e h x y : Int} {N m : Nat}
theorem pL_row : ∀ {m : Nat} {b c : Int} {row : List (Int × Int)}, pL kd x y F m (b, c, row) = ((pL kd x y F m (b, c, [])).1, (pL kd x y F m (b, c, [])).2.1, row ++ (pL kd x y F m (b, c, [])).2.2) := by
  intro m
  induction m with
  | zero =>
    intro b c row
    show (b, c, row) = (b, c, row ++ [])
    rw [List.append_nil]
  | succ m ih =>
    intro b c row
    show (if b = 0 then (b, c, row) else if kd c = x ∨ kd c = y then pL kd x y F m ((F (c + 1)).1, (F (c + 1)).2.1, row ++ ((F (c + 1)).2.2 ++ [(opn (kd c), 0)])) else (b, c, row)) = ((if b = 0 then (b, c, []) else if kd c = x ∨ kd c = y then pL kd x y F m ((F (c + 1)).1, (F (c + 1)).2.1, [] ++ ((F (c + 1)).2.2 ++ [(opn (kd c), 0)])) else (b, c, [])).1, (if b = 0 then (b, c, []) else if kd c = x ∨ kd c = y then pL kd x y F m ((F (c + 1)).1, (F (c + 1)).2.1, [] ++ ((F (c + 1)).2.2 ++ [(opn (kd c), 0)])) else (b, c, [])).2.1, row ++ (if b = 0 then (b, c, []) else if kd c = x ∨ kd c = y then pL kd x y F m ((F (c + 1)).1, (F (c + 1)).2.1, [] ++ ((F (c + 1)).2.2 ++ [(opn (kd c), 0)])) else (b, c, [])).2.2)
    by_cases g : b = 0
    · rw [if_pos g, if_pos g, List.append_nil]
    · rw [if_neg g, if_neg g]
      by_cases g2 : kd c = x ∨ kd c = y
      · rw [if_pos g2, if_pos g2, ih (row := row ++ ((F (c + 1)).2.2 ++ [(opn (kd c), 0)])), ih (row := [] ++ ((F (c + 1)).2.2 ++ [(opn (kd c), 0)])), List.nil_append, List.append_assoc row]
      · rw [if_neg g2, if_neg g2, List.append_nil]
theorem rtermL_both (hl : LSW kd n) (hF : RCK kd vl n F (qf_X7_reckonFactor 20000 KK d) h) (hn : ∀ c, 0 ≤ c → c ≤ n → ROK n c (F c)) : ∀ (m N : Nat) (i c : Int) (M K : qm) (v k : Int), 0 ≤ i → i + m = 120 → m < N → KDV M kd vl n → FC3 M K → VLG M K v → M 735 11 0 = c → 0 ≤ c → c ≤ n → (pL kd 42 47 F m (1, c, [])).1 = 1 → 0 ≤ v → v + 1 + h ≤ 128 → 0 ≤ h → RAT K k (pL kd 42 47 F m (1, c, [])).2.2 → 0 ≤ k → k + (pL kd 42 47 F m (1, c, [])).2.2.length ≤ to → to ≤ 800 → RC1 (fun A => qf_X7_reckonTerm_L7 20000 KK N d i M = some (.inr ((), A))) M K (pL kd 42 47 F m (1, c, [])).2.2 k to v (pL kd 42 47 F m (1, c, [])).2.1 := by
  have n1 := hl.2.1
  have wh : ∀ (N : Nat) (i : Int) (X : qm), X 735 12 0 ≠ 0 → qf_X7_reckonTerm_L7 20000 KK (N + 1) d i X = some (.inr ((), X)) := fun N i X hx => by
    show qloop _ (N + 1) (d, i, X) = _
    rw [qloop.eq_2]
    (try dsimp only)
    have : qf_X7_reckonTerm_L7_b 20000 KK d i X = some (.inl (.inr ((), X))) := by
      unfold qf_X7_reckonTerm_L7_b
      by_cases g : 120 ≤ i
      · rw [if_pos g]
      · rw [if_neg g, if_neg hx]
    rw [this]
  intro m
  induction m with
  | zero =>
    intro N i c M K v k i0 i1 hN kv fc vg hc c0 c1 h1 v0 v1 hh ra k0 kt t8
    obtain ⟨N, rfl⟩ : ∃ N', N = N' + 1 := ⟨N - 1, by omega⟩
    refine ⟨M, K, ?_, fun _ _ _ _ => rfl, fun _ _ _ _ _ => rfl, Or.inl ⟨vg, hc, fun N => ?_⟩⟩
    · show qloop _ (N + 1) (d, i, M) = _
      rw [qloop.eq_2]
      (try dsimp only)
      have : qf_X7_reckonTerm_L7_b 20000 KK d i M = some (.inl (.inr ((), M))) := by
        unfold qf_X7_reckonTerm_L7_b
        rw [if_pos (by omega)]
      rw [this]
    · show qf_X15_reckon_L7 20000 N to k K = qf_X15_reckon_L7 20000 N to (k + ((0 : Nat) : Int)) K
      rw [show k + ((0 : Nat) : Int) = k by omega]
  | succ m ih =>
    intro N i c M K v k i0 i1 hN kv fc vg hc c0 c1 h1 v0 v1 hh ra k0 kt t8
    obtain ⟨N, rfl⟩ : ∃ N', N = N' + 1 := ⟨N - 1, by omega⟩
    have vg' := vg
    obtain ⟨g1, g2, g3, g4, g5, g6, g7, g8, g9, g10⟩ := vg
    have kc := (kv.1 c c0 (by omega)).1
    have cc : 0 ≤ M 735 11 0 ∧ M 735 11 0 < 121 := by omega
    have sg : qf_X7_isSign 20000 42 47 M = some (if kd c = 42 ∨ kd c = 47 then 1 else 0) := by
      unfold qf_X7_isSign
      rw [if_pos cc, hc, kc]
      by_cases q1 : kd c = 42
      · rw [if_pos q1, if_pos (Or.inl q1)]
      · rw [if_neg q1, if_pos (show 0 ≤ c ∧ c < 121 by omega)]
        by_cases q2 : kd c = 47
        · rw [if_pos q2, if_pos (Or.inr q2)]
        · rw [if_neg q2, if_neg (by omega)]
    by_cases g : kd c = 42 ∨ kd c = 47
    · rw [if_pos g] at sg
      have cn := lst_lt hl c1 (by omega) (by omega)
      have up : pL kd 42 47 F (m + 1) (1, c, []) = pL kd 42 47 F m ((F (c + 1)).1, (F (c + 1)).2.1, (F (c + 1)).2.2 ++ [(opn (kd c), 0)]) := by
        show (if (1 : Int) = 0 then _ else if kd c = 42 ∨ kd c = 47 then pL kd 42 47 F m ((F (c + 1)).1, (F (c + 1)).2.1, [] ++ ((F (c + 1)).2.2 ++ [(opn (kd c), 0)])) else _) = _
        rw [if_neg (by decide), if_pos g, List.nil_append]
      rw [up] at h1 ra kt ⊢
      have ok := hn (c + 1) (by omega) (by omega)
      have f1 : (F (c + 1)).1 = 1 := by
        rcases ok.1 with z | z
        · rw [pL_63 (r := ((F (c + 1)).1, (F (c + 1)).2.1, (F (c + 1)).2.2 ++ [(opn (kd c), 0)])) z] at h1
          exact h1
        · exact z
      rw [f1] at h1 ra kt ⊢
      rw [pL_row] at h1 ra kt ⊢
      obtain ⟨c2, hc2⟩ : ∃ c2, (F (c + 1)).2.1 = c2 := ⟨_, rfl⟩
      obtain ⟨rF, hrF⟩ : ∃ rF, (F (c + 1)).2.2 = rF := ⟨_, rfl⟩
      obtain ⟨R, hR⟩ : ∃ R, pL kd 42 47 F m (1, c2, []) = R := ⟨_, rfl⟩
      obtain ⟨ia, hia⟩ : ∃ ia, opn (kd c) = ia := ⟨_, rfl⟩
      have oc := opn_c (k := kd c)
      rw [hc2, hrF, hR, hia] at ra kt ⊢
      rw [hc2, hR] at h1
      (try dsimp only at h1 ra kt ⊢)
      rw [rat_app, rat_app] at ra
      obtain ⟨⟨ra1, ra2⟩, ra3⟩ := ra
      rw [len_a, len_a, List.length_singleton] at kt
      rw [len_a, List.length_singleton] at ra3
      -- the class passes the sign
      obtain ⟨M1, hM1⟩ : ∃ X, qw M 735 11 0 (c + 1) = X := ⟨_, rfl⟩
      have fM1 : ∀ b x y, ¬ (b = 735 ∧ x = 11) → M1 b x y = M b x y := fun b x y z => by rw [← hM1, qw_ap, if_neg (by omega)]
      have M111 : M1 735 11 0 = c + 1 := by rw [← hM1]; exact qw_s
      have frM1 : FRC M M1 := fun b x y z => fM1 b x y (by omega)
      have tw := tw_C (M := M) hc c0 (by omega) kc
      rw [hM1] at tw
      have bg : RBG kd vl n M1 K (c + 1) (v + 1) := ⟨kdv_o kv frM1, fc3_o (v := 0) fc frM1 (fun _ _ _ _ _ => rfl), M111, by omega, by omega, (fM1 _ _ _ (by decide)).trans g1, (fM1 _ _ _ (by decide)).trans g2, g3, g4, g5, by omega⟩
      obtain ⟨A1, W1, e1, fA1, fW1, hv1⟩ := hF (c + 1) M1 K (v + 1) k to bg f1 (by omega) (by rw [hrF]; exact ra1) k0 (by rw [hrF]; omega) t8
      rw [hrF, hc2] at hv1
      have frA1 : FRC M A1 := frc_t frM1 fA1
      -- one turn of the class's loop
      have turn : ∀ B, (qf_X7_combine 20000 (kd c) (M 735 14 0) (M 735 15 0) A1).bind (fun r => qf_X7_takeOutCommon 20000 r.2) = some ((), B) → qf_X7_reckonTerm_L7 20000 KK (N + 1) d i M = qf_X7_reckonTerm_L7 20000 KK N d (i + 1) B := fun B hB => by
        have : qf_X7_reckonTerm_L7_b 20000 KK d i M = some (.inr (d, i + 1, B)) := by
          unfold qf_X7_reckonTerm_L7_b
          rw [if_neg (by omega), if_pos g1, sg]
          simp only [Option.bind_some]
          rw [if_neg (by decide), tw]
          simp only [Option.bind_some]
          rw [show qf_X7_reckonFactor 20000 KK d M1 = some ((), A1) from e1]
          simp only [Option.bind_some]
          rw [w32_id (x := i + 1) (by omega) (by omega)]
          rcases hq : qf_X7_combine 20000 (kd c) (M 735 14 0) (M 735 15 0) A1 with _ | q
          · rw [hq] at hB
            cases hB
          · rw [hq] at hB
            simp only [Option.bind_some] at hB ⊢
            rw [hB]
            rfl
        show qloop _ (N + 1) (d, i, M) = _
        rw [qloop.eq_2]
        (try dsimp only)
        rw [this]
        rfl
      obtain ⟨N, rfl⟩ : ∃ N', N = N' + 1 := ⟨N - 1, by omega⟩
      rcases hv1 with ⟨vg1, cA1, lp1⟩ | ⟨vb1, cb0, cb1, j, j1, lp1⟩
      · have ha : W1 2206 v 0 = M 735 14 0 := (fW1 _ _ _ (by omega) (by omega)).trans g6
        have hb : W1 2207 v 0 = M 735 15 0 := (fW1 _ _ _ (by omega) (by omega)).trans g7
        obtain ⟨A2, W2, e2, e3, fA2, cA2, fW2, hv2⟩ := oper_both (i := ia) (s := kd c) (by omega) vg1 v0 (by omega) ha hb g8 g9 g10
        have frA2 : FRC M A2 := frc_t frA1 fA2
        have frW2 : FRK K W2 v := frk_t (fun b i j z1 z2 => fW1 b i j (by omega) z2) fW2 (Int.le_refl _)
        have w40 := vg1.2.2.1
        have rk : W1 2196 (k + rF.length) 0 = ia := by
          rw [fW1 _ _ _ (by omega) (by omega)]
          exact ra2.1
        have l7 : qf_X15_reckon_L7_b 20000 to (k + rF.length) W1 = some (.inr (to, k + rF.length + 1, W2)) := by
          have ck : 0 ≤ k + (rF.length : Int) ∧ k + (rF.length : Int) < 800 := by omega
          unfold qf_X15_reckon_L7_b
          rw [if_neg (by omega), if_pos w40, if_pos ck, rk, if_neg (by omega), if_pos ck, if_neg (by omega), if_pos ck, e3, w32_id (x := k + (rF.length : Int) + 1) (by omega) (by omega)]
          rfl
        have lp2 : ∀ N, qf_X15_reckon_L7 20000 (N + (rF.length + 1)) to k K = qf_X15_reckon_L7 20000 N to (k + rF.length + 1) W2 := fun N => by
          rw [show N + (rF.length + 1) = N + 1 + rF.length by omega, lp1, l7_go l7]
        rcases hv2 with vg2 | vb2
        · obtain ⟨A3, W3, e4, fA3, fW3, hv3⟩ := ih (N + 1) (i + 1) c2 A2 W2 v (k + rF.length + 1) (by omega) (by omega) (by omega) (kdv_o kv frA2) (fc3_o fc frA2 frW2) vg2 (cA2.trans cA1) (by have := ok.2.1; omega) (by have := ok.2.2.1; omega) (by rw [hR]; exact h1) v0 v1 hh (by
            rw [hR]
            refine frk_rat frW2 ?_
            rw [show k + (rF.length : Int) + 1 = k + ((rF.length : Int) + ((1 : Nat) : Int)) by omega]
            exact ra3) (by omega) (by rw [hR]; omega) t8
          rw [hR] at hv3
          refine ⟨A3, W3, (turn A2 e2).trans e4, frc_t frA2 fA3, frk_t frW2 fW3 (Int.le_refl _), ?_⟩
          rcases hv3 with ⟨vg3, cA3, lp3⟩ | ⟨vb3, cb0, cb1, j, j1, lp3⟩
          · refine Or.inl ⟨vg3, cA3, fun N => ?_⟩
            have ll : (rF ++ [(ia, (0 : Int))] ++ R.2.2).length = R.2.2.length + (rF.length + 1) := by
              rw [List.length_append, List.length_append, List.length_singleton]
              omega
            rw [ll, ← Nat.add_assoc, lp2, lp3]
            congr 1
            omega
          · refine Or.inr ⟨vb3, cb0, cb1, j + (rF.length + 1), ?_, fun N => ?_⟩
            · rw [List.length_append, List.length_append, List.length_singleton]
              omega
            · rw [show N + (j + (rF.length + 1)) + 1 = N + j + 1 + (rF.length + 1) by omega, lp2]
              exact lp3 N
        · refine ⟨A2, W2, (turn A2 e2).trans (wh N _ A2 vb2.1), frA2, frW2, Or.inr ⟨vb2, ?_, ?_, rF.length + 1, ?_, fun N => ?_⟩⟩
          · rw [cA2, cA1]
            have := ok.2.1
            omega
          · rw [cA2, cA1]
            have := ok.2.2.1
            omega
          · rw [List.length_append, List.length_append, List.length_singleton]
            omega
          · rw [show N + (rF.length + 1) + 1 = N + 1 + (rF.length + 1) by omega, lp2]
            exact l7_stop (Or.inr (by rw [vb2.2.1]; exact vb2.1)) N
      · have e2 : (qf_X7_combine 20000 (kd c) (M 735 14 0) (M 735 15 0) A1).bind (fun r => qf_X7_takeOutCommon 20000 r.2) = some ((), A1) := by
          rw [comb_skip vb1.1]
          simp only [Option.bind_some]
          exact toc_skip vb1.1
        refine ⟨A1, W1, (turn A1 e2).trans (wh N _ A1 vb1.1), frA1, fun b i j z1 z2 => fW1 b i j (by omega) z2, Or.inr ⟨vb1, cb0, cb1, j, ?_, lp1⟩⟩
        rw [List.length_append, List.length_append, List.length_singleton]
        omega
    · rw [if_neg g] at sg
      have up : pL kd 42 47 F (m + 1) (1, c, []) = (1, c, []) := by
        show (if (1 : Int) = 0 then _ else if kd c = 42 ∨ kd c = 47 then _ else _) = _
        rw [if_neg (by decide), if_neg g]
      rw [up]
      refine ⟨M, K, ?_, fun _ _ _ _ => rfl, fun _ _ _ _ _ => rfl, Or.inl ⟨vg', hc, fun N => ?_⟩⟩
      · show qloop _ (N + 1) (d, i, M) = _
        rw [qloop.eq_2]
        (try dsimp only)
        have : qf_X7_reckonTerm_L7_b 20000 KK d i M = some (.inl (.inr ((), M))) := by
          unfold qf_X7_reckonTerm_L7_b
          rw [if_neg (by omega), if_pos g1, sg]
          simp only [Option.bind_some]
          (first | rw [if_pos trivial] | rw [if_pos rfl])
        rw [this]
      · show qf_X15_reckon_L7 20000 N to k K = qf_X15_reckon_L7 20000 N to (k + ((0 : Nat) : Int)) K
        rw [show k + ((0 : Nat) : Int) = k by omega]
theorem rsideL_both (hl : LSW kd n) (hF : RCK kd vl n F (qf_X7_reckonTerm 20000 KK d) h) (hn : ∀ c, 0 ≤ c → c ≤ n → ROK n c (F c)) : ∀ (m N : Nat) (i c : Int) (M K : qm) (v k : Int), 0 ≤ i → i + m = 120 → m < N → KDV M kd vl n → FC3 M K → VLG M K v → M 735 11 0 = c → 0 ≤ c → c ≤ n → (pL kd 43 45 F m (1, c, [])).1 = 1 → 0 ≤ v → v + 1 + h ≤ 128 → 0 ≤ h → RAT K k (pL kd 43 45 F m (1, c, [])).2.2 → 0 ≤ k → k + (pL kd 43 45 F m (1, c, [])).2.2.length ≤ to → to ≤ 800 → RC1 (fun A => qf_X7_reckonSide_B_L52 20000 KK N d i M = some (.inr ((), A))) M K (pL kd 43 45 F m (1, c, [])).2.2 k to v (pL kd 43 45 F m (1, c, [])).2.1 := by
  have n1 := hl.2.1
  have wh : ∀ (N : Nat) (i : Int) (X : qm), X 735 12 0 ≠ 0 → qf_X7_reckonSide_B_L52 20000 KK (N + 1) d i X = some (.inr ((), X)) := fun N i X hx => by
    show qloop _ (N + 1) (d, i, X) = _
    rw [qloop.eq_2]
    (try dsimp only)
    have : qf_X7_reckonSide_B_L52_b 20000 KK d i X = some (.inl (.inr ((), X))) := by
      unfold qf_X7_reckonSide_B_L52_b
      by_cases g : 120 ≤ i
      · rw [if_pos g]
      · rw [if_neg g, if_neg hx]
    rw [this]
  intro m
  induction m with
  | zero =>
    intro N i c M K v k i0 i1 hN kv fc vg hc c0 c1 h1 v0 v1 hh ra k0 kt t8
    obtain ⟨N, rfl⟩ : ∃ N', N = N' + 1 := ⟨N - 1, by omega⟩
    refine ⟨M, K, ?_, fun _ _ _ _ => rfl, fun _ _ _ _ _ => rfl, Or.inl ⟨vg, hc, fun N => ?_⟩⟩
    · show qloop _ (N + 1) (d, i, M) = _
      rw [qloop.eq_2]
      (try dsimp only)
      have : qf_X7_reckonSide_B_L52_b 20000 KK d i M = some (.inl (.inr ((), M))) := by
        unfold qf_X7_reckonSide_B_L52_b
        rw [if_pos (by omega)]
      rw [this]
    · show qf_X15_reckon_L7 20000 N to k K = qf_X15_reckon_L7 20000 N to (k + ((0 : Nat) : Int)) K
      rw [show k + ((0 : Nat) : Int) = k by omega]
  | succ m ih =>
    intro N i c M K v k i0 i1 hN kv fc vg hc c0 c1 h1 v0 v1 hh ra k0 kt t8
    obtain ⟨N, rfl⟩ : ∃ N', N = N' + 1 := ⟨N - 1, by omega⟩
    have vg' := vg
    obtain ⟨g1, g2, g3, g4, g5, g6, g7, g8, g9, g10⟩ := vg
    have kc := (kv.1 c c0 (by omega)).1
    have cc : 0 ≤ M 735 11 0 ∧ M 735 11 0 < 121 := by omega
    have sg : qf_X7_isSign 20000 43 45 M = some (if kd c = 43 ∨ kd c = 45 then 1 else 0) := by
      unfold qf_X7_isSign
      rw [if_pos cc, hc, kc]
      by_cases q1 : kd c = 43
      · rw [if_pos q1, if_pos (Or.inl q1)]
      · rw [if_neg q1, if_pos (show 0 ≤ c ∧ c < 121 by omega)]
        by_cases q2 : kd c = 45
        · rw [if_pos q2, if_pos (Or.inr q2)]
        · rw [if_neg q2, if_neg (by omega)]
    by_cases g : kd c = 43 ∨ kd c = 45
    · rw [if_pos g] at sg
      have cn := lst_lt hl c1 (by omega) (by omega)
      have up : pL kd 43 45 F (m + 1) (1, c, []) = pL kd 43 45 F m ((F (c + 1)).1, (F (c + 1)).2.1, (F (c + 1)).2.2 ++ [(opn (kd c), 0)]) := by
        show (if (1 : Int) = 0 then _ else if kd c = 43 ∨ kd c = 45 then pL kd 43 45 F m ((F (c + 1)).1, (F (c + 1)).2.1, [] ++ ((F (c + 1)).2.2 ++ [(opn (kd c), 0)])) else _) = _
        rw [if_neg (by decide), if_pos g, List.nil_append]
      rw [up] at h1 ra kt ⊢
      have ok := hn (c + 1) (by omega) (by omega)
      have f1 : (F (c + 1)).1 = 1 := by
        rcases ok.1 with z | z
        · rw [pL_63 (r := ((F (c + 1)).1, (F (c + 1)).2.1, (F (c + 1)).2.2 ++ [(opn (kd c), 0)])) z] at h1
          exact h1
        · exact z
      rw [f1] at h1 ra kt ⊢
      rw [pL_row] at h1 ra kt ⊢
      obtain ⟨c2, hc2⟩ : ∃ c2, (F (c + 1)).2.1 = c2 := ⟨_, rfl⟩
      obtain ⟨rF, hrF⟩ : ∃ rF, (F (c + 1)).2.2 = rF := ⟨_, rfl⟩
      obtain ⟨R, hR⟩ : ∃ R, pL kd 43 45 F m (1, c2, []) = R := ⟨_, rfl⟩
      obtain ⟨ia, hia⟩ : ∃ ia, opn (kd c) = ia := ⟨_, rfl⟩
      have oc := opn_c (k := kd c)
      rw [hc2, hrF, hR, hia] at ra kt ⊢
      rw [hc2, hR] at h1
      (try dsimp only at h1 ra kt ⊢)
      rw [rat_app, rat_app] at ra
      obtain ⟨⟨ra1, ra2⟩, ra3⟩ := ra
      rw [len_a, len_a, List.length_singleton] at kt
      rw [len_a, List.length_singleton] at ra3
      -- the class passes the sign
      obtain ⟨M1, hM1⟩ : ∃ X, qw M 735 11 0 (c + 1) = X := ⟨_, rfl⟩
      have fM1 : ∀ b x y, ¬ (b = 735 ∧ x = 11) → M1 b x y = M b x y := fun b x y z => by rw [← hM1, qw_ap, if_neg (by omega)]
      have M111 : M1 735 11 0 = c + 1 := by rw [← hM1]; exact qw_s
      have frM1 : FRC M M1 := fun b x y z => fM1 b x y (by omega)
      have tw := tw_C (M := M) hc c0 (by omega) kc
      rw [hM1] at tw
      have bg : RBG kd vl n M1 K (c + 1) (v + 1) := ⟨kdv_o kv frM1, fc3_o (v := 0) fc frM1 (fun _ _ _ _ _ => rfl), M111, by omega, by omega, (fM1 _ _ _ (by decide)).trans g1, (fM1 _ _ _ (by decide)).trans g2, g3, g4, g5, by omega⟩
      obtain ⟨A1, W1, e1, fA1, fW1, hv1⟩ := hF (c + 1) M1 K (v + 1) k to bg f1 (by omega) (by rw [hrF]; exact ra1) k0 (by rw [hrF]; omega) t8
      rw [hrF, hc2] at hv1
      have frA1 : FRC M A1 := frc_t frM1 fA1
      -- one turn of the class's loop
      have turn : ∀ B, (qf_X7_combine 20000 (kd c) (M 735 14 0) (M 735 15 0) A1).bind (fun r => qf_X7_takeOutCommon 20000 r.2) = some ((), B) → qf_X7_reckonSide_B_L52 20000 KK (N + 1) d i M = qf_X7_reckonSide_B_L52 20000 KK N d (i + 1) B := fun B hB => by
        have : qf_X7_reckonSide_B_L52_b 20000 KK d i M = some (.inr (d, i + 1, B)) := by
          unfold qf_X7_reckonSide_B_L52_b
          rw [if_neg (by omega), if_pos g1, sg]
          simp only [Option.bind_some]
          rw [if_neg (by decide), tw]
          simp only [Option.bind_some]
          rw [show qf_X7_reckonTerm 20000 KK d M1 = some ((), A1) from e1]
          simp only [Option.bind_some]
          rw [w32_id (x := i + 1) (by omega) (by omega)]
          rcases hq : qf_X7_combine 20000 (kd c) (M 735 14 0) (M 735 15 0) A1 with _ | q
          · rw [hq] at hB
            cases hB
          · rw [hq] at hB
            simp only [Option.bind_some] at hB ⊢
            rw [hB]
            rfl
        show qloop _ (N + 1) (d, i, M) = _
        rw [qloop.eq_2]
        (try dsimp only)
        rw [this]
        rfl
      obtain ⟨N, rfl⟩ : ∃ N', N = N' + 1 := ⟨N - 1, by omega⟩
      rcases hv1 with ⟨vg1, cA1, lp1⟩ | ⟨vb1, cb0, cb1, j, j1, lp1⟩
      · have ha : W1 2206 v 0 = M 735 14 0 := (fW1 _ _ _ (by omega) (by omega)).trans g6
        have hb : W1 2207 v 0 = M 735 15 0 := (fW1 _ _ _ (by omega) (by omega)).trans g7
        obtain ⟨A2, W2, e2, e3, fA2, cA2, fW2, hv2⟩ := oper_both (i := ia) (s := kd c) (by omega) vg1 v0 (by omega) ha hb g8 g9 g10
        have frA2 : FRC M A2 := frc_t frA1 fA2
        have frW2 : FRK K W2 v := frk_t (fun b i j z1 z2 => fW1 b i j (by omega) z2) fW2 (Int.le_refl _)
        have w40 := vg1.2.2.1
        have rk : W1 2196 (k + rF.length) 0 = ia := by
          rw [fW1 _ _ _ (by omega) (by omega)]
          exact ra2.1
        have l7 : qf_X15_reckon_L7_b 20000 to (k + rF.length) W1 = some (.inr (to, k + rF.length + 1, W2)) := by
          have ck : 0 ≤ k + (rF.length : Int) ∧ k + (rF.length : Int) < 800 := by omega
          unfold qf_X15_reckon_L7_b
          rw [if_neg (by omega), if_pos w40, if_pos ck, rk, if_neg (by omega), if_pos ck, if_neg (by omega), if_pos ck, e3, w32_id (x := k + (rF.length : Int) + 1) (by omega) (by omega)]
          rfl
        have lp2 : ∀ N, qf_X15_reckon_L7 20000 (N + (rF.length + 1)) to k K = qf_X15_reckon_L7 20000 N to (k + rF.length + 1) W2 := fun N => by
          rw [show N + (rF.length + 1) = N + 1 + rF.length by omega, lp1, l7_go l7]
        rcases hv2 with vg2 | vb2
        · obtain ⟨A3, W3, e4, fA3, fW3, hv3⟩ := ih (N + 1) (i + 1) c2 A2 W2 v (k + rF.length + 1) (by omega) (by omega) (by omega) (kdv_o kv frA2) (fc3_o fc frA2 frW2) vg2 (cA2.trans cA1) (by have := ok.2.1; omega) (by have := ok.2.2.1; omega) (by rw [hR]; exact h1) v0 v1 hh (by
            rw [hR]
            refine frk_rat frW2 ?_
            rw [show k + (rF.length : Int) + 1 = k + ((rF.length : Int) + ((1 : Nat) : Int)) by omega]
            exact ra3) (by omega) (by rw [hR]; omega) t8
          rw [hR] at hv3
          refine ⟨A3, W3, (turn A2 e2).trans e4, frc_t frA2 fA3, frk_t frW2 fW3 (Int.le_refl _), ?_⟩
          rcases hv3 with ⟨vg3, cA3, lp3⟩ | ⟨vb3, cb0, cb1, j, j1, lp3⟩
          · refine Or.inl ⟨vg3, cA3, fun N => ?_⟩
            have ll : (rF ++ [(ia, (0 : Int))] ++ R.2.2).length = R.2.2.length + (rF.length + 1) := by
              rw [List.length_append, List.length_append, List.length_singleton]
              omega
            rw [ll, ← Nat.add_assoc, lp2, lp3]
            congr 1
            omega
          · refine Or.inr ⟨vb3, cb0, cb1, j + (rF.length + 1), ?_, fun N => ?_⟩
            · rw [List.length_append, List.length_append, List.length_singleton]
              omega
            · rw [show N + (j + (rF.length + 1)) + 1 = N + j + 1 + (rF.length + 1) by omega, lp2]
              exact lp3 N
        · refine ⟨A2, W2, (turn A2 e2).trans (wh N _ A2 vb2.1), frA2, frW2, Or.inr ⟨vb2, ?_, ?_, rF.length + 1, ?_, fun N => ?_⟩⟩
          · rw [cA2, cA1]
            have := ok.2.1
            omega
          · rw [cA2, cA1]
            have := ok.2.2.1
            omega
          · rw [List.length_append, List.length_append, List.length_singleton]
            omega
          · rw [show N + (rF.length + 1) + 1 = N + 1 + (rF.length + 1) by omega, lp2]
            exact l7_stop (Or.inr (by rw [vb2.2.1]; exact vb2.1)) N
      · have e2 : (qf_X7_combine 20000 (kd c) (M 735 14 0) (M 735 15 0) A1).bind (fun r => qf_X7_takeOutCommon 20000 r.2) = some ((), A1) := by
          rw [comb_skip vb1.1]
          simp only [Option.bind_some]
          exact toc_skip vb1.1
        refine ⟨A1, W1, (turn A1 e2).trans (wh N _ A1 vb1.1), frA1, fun b i j z1 z2 => fW1 b i j (by omega) z2, Or.inr ⟨vb1, cb0, cb1, j, ?_, lp1⟩⟩
        rw [List.length_append, List.length_append, List.length_singleton]
        omega
    · rw [if_neg g] at sg
      have up : pL kd 43 45 F (m + 1) (1, c, []) = (1, c, []) := by
        show (if (1 : Int) = 0 then _ else if kd c = 43 ∨ kd c = 45 then _ else _) = _
        rw [if_neg (by decide), if_neg g]
      rw [up]
      refine ⟨M, K, ?_, fun _ _ _ _ => rfl, fun _ _ _ _ _ => rfl, Or.inl ⟨vg', hc, fun N => ?_⟩⟩
      · show qloop _ (N + 1) (d, i, M) = _
        rw [qloop.eq_2]
        (try dsimp only)
        have : qf_X7_reckonSide_B_L52_b 20000 KK d i M = some (.inl (.inr ((), M))) := by
          unfold qf_X7_reckonSide_B_L52_b
          rw [if_neg (by omega), if_pos g1, sg]
          simp only [Option.bind_some]
          (first | rw [if_pos trivial] | rw [if_pos rfl])
        rw [this]
      · show qf_X15_reckon_L7 20000 N to k K = qf_X15_reckon_L7 20000 N to (k + ((0 : Nat) : Int)) K
        rw [show k + ((0 : Nat) : Int) = k by omega]
end WDx
