section WDk
variable {M K A Z D W W' Z2 : qm} {T kd vl pl : Int → Int} {F S : Int → Int × Int × List (Int × Int)} {r : Int × Int × List (Int × Int)} {L p q e k v i j x y z c d f n w t s a u ns d' f' w' t' : Int} {N m : Nat}
/-- a side so far -/
def GSK (T : Int → Int) (L : Int) (kd vl pl : Int → Int) (n d f : Int) (W : qm) (c : Int) (r : Int × Int × List (Int × Int)) : Prop := r.1 = 1 ∧ kd r.2.1 ≠ 63 ∧ ∃ (k : Nat) (f' : Int) (Z : qm) (pa pm : Int) (e : List (Int × Int)), (k : Int) ≤ r.2.1 - c ∧ (∀ N, qf_X15_side_L14 20000 (N + k) d f 1 1 W = qf_X15_side_L14 20000 N d f' 0 1 Z) ∧ RWD T L kd vl pl n r.2.1 Z ∧ INV r.2.1 Z ∧ PND Z (W 2184 36 0) pa pm ∧ r.2.2 = e ++ (opl pm ++ opl pa) ∧ Z 2184 34 0 = W 2184 34 0 + e.length ∧ RAT Z (400 + W 2184 34 0) e ∧ SFR W Z (W 2184 34 0) (W 2184 36 0)
def SIMT (T : Int → Int) (L : Int) (kd vl pl : Int → Int) (n d : Int) (F : Int → Int × Int × List (Int × Int)) : Prop := ∀ c f W, 0 ≤ c → c ≤ n → RWD T L kd vl pl n c W → kd c ≠ 63 → (f = 0 ∨ (f = 1 ∧ kd c ≠ 45)) → INV c W → TOP3 W → GTK T L kd vl pl n d f W c (F c) ∨ BDO kd pl d f 1 W c (F c)
def TOP1 (W : qm) : Prop := W 2184 36 0 = 0 ∨ W 2205 (W 2184 36 0 - 1) 0 ≤ 1
def SIMS (T : Int → Int) (L : Int) (kd vl pl : Int → Int) (n d : Int) (S : Int → Int × Int × List (Int × Int)) : Prop := ∀ c W, 0 ≤ c → c ≤ n → RWD T L kd vl pl n c W → kd c ≠ 63 → INV c W → TOP1 W → GSK T L kd vl pl n d 1 W c (S c) ∨ BDO kd pl d 1 1 W c (S c)
/-- a factor is a term -/
theorem gt_of_gf (h : GFK T L kd vl pl n d f W c r) : GTK T L kd vl pl n d f W c r := by
  obtain ⟨g1, g2, k, f', Z, k1, lp, rw_, iv, z36, z34, ra, sf⟩ := h
  exact ⟨g1, g2, k, f', Z, 0, r.2.2, k1, lp, rw_, iv, Or.inl rfl, by rw [on1_0]; omega, fun z => absurd rfl z, by rw [opl_0, List.append_nil], z34, ra, sf⟩
theorem simt (hW : WDS T L kd vl pl n) (hl : LSW kd n) (hS : ∀ c, 0 ≤ c → c ≤ n → ROK n c (S c)) (hF : SIMF T L kd vl pl n d (pF kd vl S d)) : SIMT T L kd vl pl n d (pT kd vl S d) := fun c f W c0 c1 hr h63 hf hi ht => by
  refine termL_K hW hF (fun c h => pF_63 h) (fun c c0 c1 => pF_ok hl hS c0 c1) c0 hi ht 120 _ ?_
  rcases hF c f W c0 c1 hr h63 hf hi with h | h
  · exact Or.inl (gt_of_gf h)
  · exact Or.inr h
/-- sides: the loop -/
theorem sideL_K (hW : WDS T L kd vl pl n) (hF : SIMT T L kd vl pl n d F) (h63 : ∀ c, kd c = 63 → (F c).1 = 0 ∧ (F c).2.1 = c) (hn : ∀ c, 0 ≤ c → c ≤ n → ROK n c (F c)) (c0 : 0 ≤ c) (i0 : INV c W) (ht : TOP1 W) : ∀ (m : Nat) (r : Int × Int × List (Int × Int)), GSK T L kd vl pl n d f W c r ∨ BDO kd pl d f 1 W c r → GSK T L kd vl pl n d f W c (pL kd 43 45 F m r) ∨ BDO kd pl d f 1 W c (pL kd 43 45 F m r) := by
  have n1 := hW.2.2.2.1
  intro m
  induction m with
  | zero => exact fun r h => h
  | succ m ih =>
    intro r h
    unfold pL
    rcases h with h | h
    · obtain ⟨g1, g2, k, f', Z, pa, pm, e, k1, lp, rw_, iv, pd, re, z34, ra, sf⟩ := h
      rw [if_neg (by omega)]
      by_cases g : kd r.2.1 = 43 ∨ kd r.2.1 = 45
      · rw [if_pos g]
        apply ih
        have oc := opn_c (k := kd r.2.1)
        obtain ⟨a, ha⟩ : ∃ a, opn (kd r.2.1) = a := ⟨_, rfl⟩
        have a45 : a = 2 ∨ a = 3 := by omega
        obtain ⟨i1, i2, i3, i4⟩ := i0
        obtain ⟨j1, j2, j3, j4⟩ := iv
        have cn : r.2.1 ≤ n := rw_.2.2.2.1
        have ob := on1_b (x := pm)
        have oa := on1_b (x := pa)
        have z36 := pd.2.2.2.1
        have tz : W 2184 36 0 = 0 ∨ Z 2205 (W 2184 36 0 - 1) 0 ≤ 1 := by
          rcases ht with t | t
          · exact Or.inl t
          · right
            rw [sf _ _ _ (by omega) (by omega) (by omega)]
            exact t
        obtain ⟨Z2, e2, u2, z2a, z2r, q2⟩ := un1_K pd (by omega) rfl j3 (by omega) tz
        obtain ⟨Z5, b5, r5, p5, n5, v5, cl, f5⟩ := op_step (d := d) (f := f') hW rw_ g2 ha (by omega) (by rw [if_pos (by omega)]; exact e2) u2 q2 (by omega) (by omega)
        have sfZ2 : SFR W Z2 (W 2184 34 0) (W 2184 36 0) := sfr_t sf (ufr_s (p0 := W 2184 36 0) u2) (by omega) (Int.le_refl _)
        have sf25 : SFR Z2 Z5 (Z 2184 34 0) (W 2184 36 0) := fun b x y h1 h2 h3 => f5 b x y (by omega) (by omega)
        have sfZ5 : SFR W Z5 (W 2184 34 0) (W 2184 36 0) := sfr_t sfZ2 sf25 (by omega) (Int.le_refl _)
        have lp5 : ∀ N, qf_X15_side_L14 20000 (N + (k + 1)) d f 1 1 W = qf_X15_side_L14 20000 N d 0 1 1 Z5 := fun N => by
          rw [show N + (k + 1) = N + 1 + k by omega, lp, sl_s b5]
        have k5 : ((k + 1 : Nat) : Int) ≤ (r.2.1 + 1) - c := by omega
        have ok := hn (r.2.1 + 1) (by omega) (by omega)
        have oc1 := ok.2.1
        have l22 : (r.2.2.length : Int) = e.length + (on1 pm + on1 pa) := by
          rw [re, len_a, len_a, opl_l, opl_l]
        -- what was read stands
        have ra5 : RAT Z5 (400 + W 2184 34 0) r.2.2 := by
          rw [re, rat_app]
          refine ⟨sfr_r (sfr_t (ufr_s (p0 := W 2184 36 0) u2) sf25 (Int.le_refl _) (Int.le_refl _)) ra (by omega), ?_⟩
          refine rat_fr (fun i _ _ => ⟨f5 _ _ _ (by omega) (by omega), f5 _ _ _ (by omega) (by omega)⟩) ?_
          rw [show 400 + W 2184 34 0 + (e.length : Int) = 400 + Z 2184 34 0 by omega]
          exact z2r
        by_cases w63 : kd (r.2.1 + 1) = 63
        · right
          have hf := h63 _ w63
          have ba := bad_at r5 w63 (by omega) (by omega) (by omega) (by omega)
          refine ⟨Or.inl hf.1, ?_⟩
          show BADO pl d f 1 W c (F (r.2.1 + 1)).2.1
          rw [hf.2]
          exact ⟨k + 1, Z5, by omega, fun N => by rw [show N + (k + 1) + 1 = N + 1 + (k + 1) by omega, lp5, ba.2], ba.1, sfZ5⟩
        · have iv5 : INV (r.2.1 + 1) Z5 := ⟨by omega, by omega, by omega, by omega⟩
          have t5 : TOP3 Z5 := by
            right
            rw [p5, show W 2184 36 0 + 1 - 1 = W 2184 36 0 by omega, v5]
            omega
          rcases hF (r.2.1 + 1) 0 Z5 (by omega) (by omega) r5 w63 (Or.inl rfl) iv5 t5 with hh | hh
          · obtain ⟨t1, t2, k', f'', Z6, pm2, e6, t3, t4, t5, t6, tm, t7, tv, te, t8, t9, t10⟩ := hh
            left
            refine ⟨t1, t2, k + 1 + k', f'', Z6, a, pm2, r.2.2 ++ e6, ?_, fun N => ?_, t5, t6, ⟨by omega, tm, i1, ?_, fun _ => ?_, fun z => ?_⟩, ?_, ?_, ?_, ?_⟩
            · show ((k + 1 + k' : Nat) : Int) ≤ (F (r.2.1 + 1)).2.1 - c
              omega
            · rw [show N + (k + 1 + k') = N + k' + (k + 1) by omega, lp5, t4]
            · rw [t7, p5, on1_1 (x := a) (by omega)]
            · rw [t10 _ _ _ (by omega) (by omega) (by omega)]
              exact v5
            · rw [on1_1 (x := a) (by omega), ← p5]
              exact tv z
            · show r.2.2 ++ ((F (r.2.1 + 1)).2.2 ++ [(opn (kd r.2.1), 0)]) = _
              rw [te, ha, opl_1 (x := a) (by omega), List.append_assoc, List.append_assoc]
            · rw [t8, n5, z2a, z34, len_a]
              omega
            · rw [rat_app]
              refine ⟨sfr_r t10 ra5 (by omega), ?_⟩
              rw [show 400 + W 2184 34 0 + (r.2.2.length : Int) = 400 + Z5 2184 34 0 by omega]
              exact t9
            · exact sfr_t sfZ5 t10 (by omega) (by omega)
          · right
            refine ⟨hh.1, ?_⟩
            exact bad_more k5 lp5 hh.2 sfZ5 (by omega) (by omega)
      · rw [if_neg g]
        exact Or.inl ⟨g1, g2, k, f', Z, pa, pm, e, k1, lp, rw_, iv, pd, re, z34, ra, sf⟩
    · have h' := h
      obtain ⟨b1, b2⟩ := h
      by_cases g : r.1 = 0
      · rw [if_pos g]
        exact Or.inr h'
      · rw [if_neg g, if_neg (by omega)]
        exact Or.inr h'
/-- the row goes on by a value; a sign goes on the pile; the next word -/
theorem push_step (hW : WDS T L kd vl pl n) (h : RWD T L kd vl pl n c W) (h63 : kd c ≠ 63) (h101 : kd c ≠ 101) (hq : W 2184 36 0 = q) (q0 : 0 ≤ q) (q1 : q < 200) : ∃ Z5, (qf_X15_take 20000 1 (qw (qw W 2205 q 0 a) 2184 36 0 (q + 1))) = some ((), Z5) ∧ RWD T L kd vl pl n (c + 1) Z5 ∧ Z5 2184 36 0 = q + 1 ∧ Z5 2184 34 0 = W 2184 34 0 ∧ Z5 2205 q 0 = a ∧ c < n ∧ (∀ b x y, ¬ (b = 2184 ∧ ((26 ≤ x ∧ x ≤ 31) ∨ x = 36)) → ¬ (b = 2205 ∧ x = q) → Z5 b x y = W b x y) := by
  obtain ⟨X, hX⟩ : ∃ X, qw (qw W 2205 q 0 a) 2184 36 0 (q + 1) = X := ⟨_, rfl⟩
  rw [hX]
  have fX : ∀ b x y, ¬ (b = 2184 ∧ x = 36) → ¬ (b = 2205 ∧ x = q) → X b x y = W b x y := fun b x y h1 h2 => by
    rw [← hX, qw_ap, if_neg (by omega), qw_ap, if_neg (by omega)]
  have wX : RWD T L kd vl pl n c X := rwd_fr h (fun b x y z => fX b x y (by omega) (by omega))
  obtain ⟨Z5, e5, f5, r5, cn⟩ := take1_K hW wX h63 h101
  refine ⟨Z5, e5, r5, ?_, ?_, ?_, cn, fun b x y h1 h2 => ?_⟩
  · rw [f5 _ _ _ (by omega), ← hX]
    exact qw_s
  · rw [f5 _ _ _ (by omega)]
    exact fX _ _ _ (by omega) (by omega)
  · rw [f5 _ _ _ (by omega), ← hX, qw_a (by decide)]
    exact qw_s
  · rw [f5 b x y (by omega)]
    exact fX b x y (by omega) (by omega)
/-- a sign below zero at the begin of a side -/
theorem neg_step (hW : WDS T L kd vl pl n) (hr : RWD T L kd vl pl n c W) (h45 : kd c = 45) (hi : INV c W) : ∃ Z5, qf_X15_side_L14_b 20000 d 1 1 1 W = some (.inr (d, 0, 1, 1, Z5)) ∧ RWD T L kd vl pl n (c + 1) Z5 ∧ Z5 2184 36 0 = W 2184 36 0 + 1 ∧ Z5 2184 34 0 = W 2184 34 0 + 1 ∧ Z5 2205 (W 2184 36 0) 0 = 3 ∧ c < n ∧ RAT Z5 (400 + W 2184 34 0) [(0, 0)] ∧ SFR W Z5 (W 2184 34 0) (W 2184 36 0) := by
  obtain ⟨i1, i2, i3, i4⟩ := hi
  have n1 := hW.2.2.2.1
  have cn := hr.2.2.2.1
  obtain ⟨b1, b2, b3, b4⟩ := rwd_k hr (by omega)
  obtain ⟨X, hX⟩ : ∃ X, EMT W (W 2184 34 0) 0 0 = X := ⟨_, rfl⟩
  have fX : ∀ b x y, ¬ (b = 2184 ∧ x = 34) → ¬ ((b = 2196 ∨ b = 2197) ∧ x = 400 + W 2184 34 0) → X b x y = W b x y := fun b x y h1 h2 => by
    rw [← hX]
    exact emt_o h1 h2
  have X36 : X 2184 36 0 = W 2184 36 0 := fX _ _ _ (by omega) (by omega)
  have X34 : X 2184 34 0 = W 2184 34 0 + 1 := by rw [← hX]; exact emt_34
  have wX : RWD T L kd vl pl n c X := rwd_fr hr (fun b x y z => fX b x y (by omega) (by omega))
  obtain ⟨Z5, e5, r5, p5, n5, v5, cl, f5⟩ := push_step (a := 3) hW wX (by omega) (by omega) X36 i1 (by omega)
  refine ⟨Z5, ?_, r5, p5, by omega, v5, cl, ?_, fun b x y h1 h2 h3 => ?_⟩
  · have k45 := (kr_iff b3 (s := 45) (by unfold isG; decide)).mpr h45
    unfold qf_X15_side_L14_b
    rw [if_neg (by decide), if_pos b1, b2, opr_K b3]
    simp only [Option.bind_some]
    rw [if_neg (show ¬ (1 : Int) = 0 by decide), if_neg (show ¬ (1 : Int) = 0 by decide), if_pos k45, emit_K rfl i3 (by omega), hX]
    simp only [Option.bind_some]
    unfold qbnd
    rw [X36, if_pos (show 0 ≤ W 2184 36 0 ∧ W 2184 36 0 < 200 by omega)]
    (try dsimp only)
    rw [show qw X 2205 (W 2184 36 0) 0 3 2184 36 0 = W 2184 36 0 from (qw_a (by decide)).trans X36, w32_id (x := W 2184 36 0 + 1) (by omega) (by omega), e5]
    rfl
  · refine rat_fr (fun i i0 i1 => ⟨f5 _ _ _ (by omega) (by omega), f5 _ _ _ (by omega) (by omega)⟩) ?_
    rw [← hX]
    exact emt_r
  · rw [f5 b x y (by omega) (by omega)]
    exact fX b x y (by omega) (by omega)
theorem sims (hW : WDS T L kd vl pl n) (hl : LSW kd n) (hS : ∀ c, 0 ≤ c → c ≤ n → ROK n c (S c)) (hF : SIMF T L kd vl pl n d (pF kd vl S d)) : SIMS T L kd vl pl n d (pS0 kd vl S d) := fun c W c0 c1 hr h63 hi ht => by
  have hT := simt hW hl hS hF
  have n1 := hW.2.2.2.1
  have lp := fun r => sideL_K (f := 1) hW hT (fun c h => pT_63 h) (fun c c0 c1 => pT_ok hl hS c0 c1) c0 hi ht 120 r
  unfold pS0
  by_cases g : kd c = 45
  · rw [if_pos g]
    apply lp
    obtain ⟨Z5, b5, r5, p5, n5, v5, cl, ra5, sf5⟩ := neg_step (d := d) hW hr g hi
    obtain ⟨i1, i2, i3, i4⟩ := hi
    have lp5 : ∀ N, qf_X15_side_L14 20000 (N + 1) d 1 1 1 W = qf_X15_side_L14 20000 N d 0 1 1 Z5 := fun N => sl_s b5 N
    by_cases w63 : kd (c + 1) = 63
    · right
      have hf := pT_63 (S := S) (vl := vl) (d := d) w63
      have ba := bad_at r5 w63 (by omega) (by omega) (by omega) (by omega)
      refine ⟨Or.inl hf.1, ?_⟩
      show BADO pl d 1 1 W c (pT kd vl S d (c + 1)).2.1
      rw [hf.2]
      exact ⟨1, Z5, by omega, fun N => by rw [lp5, ba.2], ba.1, sf5⟩
    · have iv5 : INV (c + 1) Z5 := ⟨by omega, by omega, by omega, by omega⟩
      have t5 : TOP3 Z5 := by
        right
        rw [p5, show W 2184 36 0 + 1 - 1 = W 2184 36 0 by omega, v5]
        omega
      rcases hT (c + 1) 0 Z5 (by omega) (by omega) r5 w63 (Or.inl rfl) iv5 t5 with hh | hh
      · obtain ⟨t1, t2, k', f'', Z6, pm2, e6, t3, t4, t5, t6, tm, t7, tv, te, t8, t9, t10⟩ := hh
        left
        refine ⟨t1, t2, 1 + k', f'', Z6, 3, pm2, (0, 0) :: e6, ?_, fun N => ?_, t5, t6, ⟨by omega, tm, i1, ?_, fun _ => ?_, fun z => ?_⟩, ?_, ?_, ?_, ?_⟩
        · show ((1 + k' : Nat) : Int) ≤ (pT kd vl S d (c + 1)).2.1 - c
          omega
        · rw [show N + (1 + k') = N + k' + 1 by omega, lp5, t4]
        · rw [t7, p5, on1_1 (x := 3) (by decide)]
        · rw [t10 _ _ _ (by omega) (by omega) (by omega)]
          exact v5
        · rw [on1_1 (x := 3) (by decide), ← p5]
          exact tv z
        · show (0, 0) :: ((pT kd vl S d (c + 1)).2.2 ++ [(3, 0)]) = _
          rw [te, opl_1 (x := 3) (by decide), List.append_assoc]
          rfl
        · rw [t8, n5, len1]
          omega
        · show RAT Z6 (400 + W 2184 34 0) ([(0, 0)] ++ e6)
          rw [rat_app]
          refine ⟨sfr_r t10 ra5 (by rw [List.length_singleton]; omega), ?_⟩
          rw [List.length_singleton, show 400 + W 2184 34 0 + ((1 : Nat) : Int) = 400 + Z5 2184 34 0 by omega]
          exact t9
        · exact sfr_t sf5 t10 (by omega) (by omega)
      · right
        refine ⟨hh.1, ?_⟩
        exact bad_more (k := 1) (c1 := c + 1) (by omega) lp5 hh.2 sf5 (by omega) (by omega)
  · rw [if_neg g]
    apply lp
    have t3 : TOP3 W := by
      rcases ht with t | t
      · exact Or.inl t
      · exact Or.inr (by omega)
    rcases hT c 1 W c0 c1 hr h63 (Or.inr ⟨rfl, g⟩) hi t3 with hh | hh
    · obtain ⟨t1, t2, k', f'', Z6, pm2, e6, t3, t4, t5, t6, tm, t7, tv, te, t8, t9, t10⟩ := hh
      left
      refine ⟨t1, t2, k', f'', Z6, 0, pm2, e6, t3, t4, t5, t6, ⟨Or.inl rfl, tm, hi.1, ?_, fun z => absurd rfl z, fun z => ?_⟩, ?_, t8, t9, t10⟩
      · rw [on1_0, Int.add_zero]
        exact t7
      · rw [on1_0, Int.add_zero]
        exact tv z
      · rw [opl_0, List.append_nil]
        exact te
    · exact Or.inr hh
end WDk
