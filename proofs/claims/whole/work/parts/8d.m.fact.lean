section WDm
variable {M K A Z D W W' Z2 : qm} {T kd vl pl : Int → Int} {F S : Int → Int × Int × List (Int × Int)} {r : Int × Int × List (Int × Int)} {L p q e k v i j x y z c d f n w t s a u ns d' f' w' t' : Int} {N m : Nat}
/-- a factor, where sides inside brackets are known -/
theorem simf (hW : WDS T L kd vl pl n) (hl : LSW kd n) (hS : ∀ c, 0 ≤ c → c ≤ n → ROK n c (S c)) (h63S : ∀ c, kd c = 63 → (S c).1 = 0 ∧ (S c).2.1 = c) (hSS : d < 8 → SIMS T L kd vl pl n (d + 1) S) (hSE : d < 8 → ∀ c, 0 ≤ c → c ≤ n → (S c).1 = 1 → opn (kd (S c).2.1) = 0) (d0 : 0 ≤ d) (d8 : d ≤ 8) : SIMF T L kd vl pl n d (pF kd vl S d) := fun c f W c0 c1 hr h63 hf hi => by
  have n1 := hW.2.2.2.1
  obtain ⟨b1, b2, b3, b4⟩ := rwd_k hr h63
  have ks := kr_small b3
  have k40 := kr_iff b3 (s := 40) (by unfold isG; decide)
  have wb := want_b (d := d) b1 b2 b3 hf
  have hi' := hi
  obtain ⟨i1, i2, i3, i4⟩ := hi
  -- no value at all
  have bad : qf_X15_side_L14_b 20000 d f 1 1 W = qf_X15_side_J167 20000 d f 1 1 W → kd c ≠ 48 → kd c ≠ 97 → BADO pl d f 1 W c c := fun e1 h1 h2 => by
    obtain ⟨Z5, e5, z1, z2⟩ := noval_step (d := d) (f := f) hr h63 h1 h2 hi' n1
    refine ⟨1, Z5, by omega, fun N => ?_, z1, z2⟩
    rw [sl_s (e1.trans e5)]
    exact sl_bad z1.1 N
  -- a value
  have val : ∀ t, ((kd c = 48 ∧ t = 0) ∨ (kd c = 97 ∧ t = 1)) → qf_X15_side_L14_b 20000 d f 1 1 W = qf_X15_side_J167 20000 d f 1 t W → GFK T L kd vl pl n d f W c (1, c + 1, [(t, vl c)]) ∨ BDO kd pl d f 1 W c (1, c + 1, [(t, vl c)]) := fun t ht e1 => by
    obtain ⟨Z5, e5, r5, p5, n5, cl, ra5, sf5⟩ := val_step (d := d) (f := f) hW hr ht hi'
    by_cases w63 : kd (c + 1) = 63
    · right
      have ba := bad_at r5 w63 (by omega) (by omega) (by omega) (by omega)
      refine ⟨Or.inr w63, 1, Z5, ?_, fun N => ?_, ba.1, sf5⟩
      · show ((1 : Nat) : Int) ≤ c + 1 - c + 1
        omega
      · rw [sl_s (e1.trans e5)]
        exact ba.2 _ _ _ N
    · left
      refine ⟨rfl, w63, 1, f, Z5, ?_, fun N => sl_s (e1.trans e5) N, r5, ⟨by omega, by rw [p5]; show W 2184 36 0 ≤ c + 1; omega, by omega, by rw [n5, p5]; show W 2184 34 0 + 1 + W 2184 36 0 ≤ 2 * (c + 1); omega⟩, p5, n5, ra5, sf5⟩
      show ((1 : Nat) : Int) ≤ c + 1 - c
      omega
  unfold pF
  by_cases g : kd c = 48
  · rw [if_pos g]
    exact val 0 (Or.inl ⟨g, rfl⟩) (by rw [wb, if_neg (fun z => by have := k40.mp z; omega), if_pos (ks.1.mpr g)])
  · rw [if_neg g]
    by_cases g2 : kd c = 97
    · rw [if_pos g2]
      exact val 1 (Or.inr ⟨g2, rfl⟩) (by rw [wb, if_neg (fun z => by have := k40.mp z; omega), if_neg (fun z => g (ks.1.mp z))])
    · rw [if_neg g2]
      by_cases g4 : kd c = 40
      · by_cases g3 : 8 ≤ d
        · have de : d = 8 := by omega
          rw [if_pos g3]
          right
          obtain ⟨Z5, e5, z1, z2⟩ := deep_step hr h63 hi' n1
          rw [de] at wb ⊢
          refine ⟨Or.inl rfl, 1, Z5, ?_, fun N => ?_, z1, z2⟩
          · show ((1 : Nat) : Int) ≤ c - c + 1
            omega
          · rw [sl_s (wb.trans (by rw [if_pos (k40.mpr g4), if_pos rfl]; exact e5))]
            exact sl_bad z1.1 N
        · rw [if_neg g3, if_pos g4]
          have d7 : d < 8 := by omega
          obtain ⟨Z5, e5, r5, p5, n5, v5, cl, f5⟩ := open_step hW hr g4 d0 d7 hi'
          have st : qf_X15_side_L14_b 20000 d f 1 1 W = some (.inr (d + 1, 1, 1, 1, Z5)) := by
            rw [wb, if_pos (k40.mpr g4), if_neg (by omega)]
            exact e5
          have lp5 : ∀ N, qf_X15_side_L14 20000 (N + 1) d f 1 1 W = qf_X15_side_L14 20000 N (d + 1) 1 1 1 Z5 := fun N => sl_s st N
          have sf5 : SFR W Z5 (W 2184 34 0) (W 2184 36 0) := fun b x y h1 h2 h3 => f5 b x y (by omega) (by omega)
          have ok := hS (c + 1) (by omega) (by omega)
          have ok1 := ok.2.1
          have ok2 := ok.2.2.1
          by_cases w63 : kd (c + 1) = 63
          · have hf := h63S _ w63
            have ba := bad_at r5 w63 (by omega) (by omega) (by omega) (by omega)
            rw [if_pos hf.1, hf.2]
            right
            refine ⟨Or.inl rfl, 1, Z5, ?_, fun N => ?_, ba.1, sf5⟩
            · show ((1 : Nat) : Int) ≤ c + 1 - c + 1
              omega
            · rw [lp5]
              exact ba.2 _ _ _ N
          · have iv5 : INV (c + 1) Z5 := ⟨by omega, by omega, by omega, by omega⟩
            have t5 : TOP1 Z5 := by
              right
              rw [p5, show W 2184 36 0 + 1 - 1 = W 2184 36 0 by omega, v5]
              omega
            rcases hSS d7 (c + 1) Z5 (by omega) (by omega) r5 w63 iv5 t5 with hh | hh
            · obtain ⟨t1, t2, k', f'', Z6, pa, pm, e6, t3, t4, t6, t7, pd, te, t8, t9, t10⟩ := hh
              rw [if_neg (by omega)]
              obtain ⟨c1', hc1⟩ : ∃ c1', (S (c + 1)).2.1 = c1' := ⟨_, rfl⟩
              have ho := hSE d7 (c + 1) (by omega) (by omega) t1
              rw [hc1] at t2 t3 t6 t7 ho ok1 ok2 ⊢
              obtain ⟨j1, j2, j3, j4⟩ := t7
              have ob := on1_b (x := pm)
              have oa := on1_b (x := pa)
              have z36 := pd.2.2.2.1
              have l22 : ((S (c + 1)).2.2.length : Int) = e6.length + (on1 pm + on1 pa) := by
                rw [te, len_a, len_a, opl_l, opl_l]
              have sfW6 : SFR W Z6 (W 2184 34 0) (W 2184 36 0) := sfr_t sf5 t10 (by omega) (by omega)
              have lp6 : ∀ N, qf_X15_side_L14 20000 (N + (k' + 1)) d f 1 1 W = qf_X15_side_L14 20000 N (d + 1) f'' 0 1 Z6 := fun N => by
                rw [show N + (k' + 1) = N + k' + 1 by omega, lp5, t4]
              by_cases g41 : kd c1' = 41
              · rw [if_pos g41]
                obtain ⟨Z2, e2, u2, z2a, z2r, q2⟩ := un1_K pd (by omega) rfl j3 (by omega) (by
                  right
                  rw [p5, show W 2184 36 0 + 1 - 1 = W 2184 36 0 by omega, t10 _ _ _ (by omega) (by omega) (by omega), v5]
                  omega)
                obtain ⟨Z7, e7, r7, p7, n7, cl7, f7⟩ := close_step (d := d + 1) (f := f'') hW t6 g41 (by omega) (by omega) e2 u2 (q2.trans p5) i1 (by omega)
                rw [show d + 1 - 1 = d by omega] at e7
                have sf27 : SFR Z2 Z7 (Z6 2184 34 0) (W 2184 36 0) := fun b x y h1 h2 h3 => f7 b x y (by omega)
                have sf67 : SFR Z6 Z7 (Z6 2184 34 0) (W 2184 36 0) := sfr_t (ufr_s (p0 := W 2184 36 0) u2) sf27 (by omega) (Int.le_refl _)
                have sfW7 : SFR W Z7 (W 2184 34 0) (W 2184 36 0) := sfr_t sfW6 sf67 (by omega) (Int.le_refl _)
                have lp7 : ∀ N, qf_X15_side_L14 20000 (N + (k' + 2)) d f 1 1 W = qf_X15_side_L14 20000 N d f'' 0 1 Z7 := fun N => by
                  rw [show N + (k' + 2) = N + 1 + (k' + 1) by omega, lp6, sl_s e7]
                by_cases w7 : kd (c1' + 1) = 63
                · right
                  have ba := bad_at r7 w7 (by omega) (by omega) (by omega) (by omega)
                  refine ⟨Or.inr w7, k' + 2, Z7, ?_, fun N => ?_, ba.1, sfW7⟩
                  · show ((k' + 2 : Nat) : Int) ≤ c1' + 1 - c + 1
                    omega
                  · rw [show N + (k' + 2) + 1 = N + 1 + (k' + 2) by omega, lp7]
                    exact ba.2 _ _ _ N
                · left
                  refine ⟨rfl, w7, k' + 2, f'', Z7, ?_, lp7, r7, ⟨by omega, ?_, by omega, ?_⟩, p7, ?_, ?_, sfW7⟩
                  · show ((k' + 2 : Nat) : Int) ≤ c1' + 1 - c
                    omega
                  · show Z7 2184 36 0 ≤ c1' + 1
                    omega
                  · show Z7 2184 34 0 + Z7 2184 36 0 ≤ 2 * (c1' + 1)
                    omega
                  · show Z7 2184 34 0 = W 2184 34 0 + ((S (c + 1)).2.2.length : Int)
                    omega
                  · show RAT Z7 (400 + W 2184 34 0) (S (c + 1)).2.2
                    rw [te, rat_app, ← n5]
                    refine ⟨sfr_r sf67 t9 (by omega), ?_⟩
                    refine rat_fr (fun i _ _ => ⟨f7 _ _ _ (by omega), f7 _ _ _ (by omega)⟩) ?_
                    rw [show 400 + Z5 2184 34 0 + (e6.length : Int) = 400 + Z6 2184 34 0 by omega]
                    exact z2r
              · rw [if_neg g41]
                have sp := stop_step (d := d + 1) (f := f'') t6 t2 ho (Or.inl g41)
                rw [if_neg (show ¬ d + 1 ≤ 0 by omega)] at sp
                have o : ∀ b x y, ¬ (b = 2184 ∧ x = 31) → qw Z6 2184 31 0 1 b x y = Z6 b x y := fun b x y h => by rw [qw_ap, if_neg (by omega)]
                right
                refine ⟨Or.inl rfl, k' + 2, qw Z6 2184 31 0 1, ?_, fun N => ?_, ⟨qw_s, (o _ _ _ (by decide)).trans t6.2.2.2.2.1, ?_, ?_, ?_, ?_⟩, fun b x y h1 h2 h3 => ?_⟩
                · show ((k' + 2 : Nat) : Int) ≤ c1' - c + 1
                  omega
                · rw [show N + (k' + 2) + 1 = N + 1 + 1 + (k' + 1) by omega, lp6, sl_s sp]
                  exact sl_no N
                · rw [o _ _ _ (by decide)]
                  exact j1
                · rw [o _ _ _ (by decide)]
                  omega
                · rw [o _ _ _ (by decide)]
                  exact j3
                · rw [o _ _ _ (by decide), o _ _ _ (by decide)]
                  omega
                · rw [o b x y (by omega)]
                  exact sfW6 b x y h1 h2 h3
            · have hb : BADO pl d f 1 W c (S (c + 1)).2.1 := bad_more (k := 1) (c1 := c + 1) (by omega) lp5 hh.2 sf5 (by omega) (by omega)
              by_cases g5 : (S (c + 1)).1 = 0
              · rw [if_pos g5]
                exact Or.inr ⟨Or.inl rfl, hb⟩
              · have k63 : kd (S (c + 1)).2.1 = 63 := by
                  rcases hh.1 with z | z
                  · exact absurd z g5
                  · exact z
                rw [if_neg g5, if_neg (by omega)]
                exact Or.inr ⟨Or.inl rfl, hb⟩
      · have e1 : qf_X15_side_L14_b 20000 d f 1 1 W = qf_X15_side_J167 20000 d f 1 1 W := by
          rw [wb, if_neg (fun z => g4 (k40.mp z)), if_neg (fun z => g (ks.1.mp z))]
        have b := bad e1 g g2
        by_cases g3 : 8 ≤ d
        · rw [if_pos g3]
          exact Or.inr ⟨Or.inl rfl, b⟩
        · rw [if_neg g3, if_neg g4]
          exact Or.inr ⟨Or.inl rfl, b⟩
theorem pS_end (hl : LSW kd n) (c0 : 0 ≤ c) (c1 : c ≤ n) (h1 : (pS kd vl m d c).1 = 1) : opn (kd (pS kd vl m d c).2.1) = 0 := by
  cases m with
  | zero =>
    have h1 : (0 : Int) = 1 := h1
    omega
  | succ m => exact pS0_end hl (fun c c0 c1 => pS_ok hl m (d + 1) c c0 c1) c0 c1 h1
theorem sims_all (hW : WDS T L kd vl pl n) (hl : LSW kd n) : ∀ (m : Nat) (d : Int), 0 ≤ d → d ≤ 8 → 9 ≤ d + m → SIMS T L kd vl pl n d (fun c => pS kd vl m d c) := by
  intro m
  induction m with
  | zero => intro d d0 d1 d2; omega
  | succ m ih =>
    intro d d0 d1 d2
    have hS : ∀ c, 0 ≤ c → c ≤ n → ROK n c (pS kd vl m (d + 1) c) := fun c c0 c1 => pS_ok hl m (d + 1) c c0 c1
    exact sims hW hl hS (simf hW hl hS (fun c h => pS_63 h) (fun d7 => ih (d + 1) (by omega) (by omega) (by omega)) (fun d7 c c0 c1 h => pS_end hl c0 c1 h) d0 d1)
end WDm
