section WDj
variable {M K A Z D W W' Z2 : qm} {T kd vl pl : Int → Int} {F S : Int → Int × Int × List (Int × Int)} {r : Int × Int × List (Int × Int)} {L p q e k v i j x y z c d f n w t s a u ns d' f' w' t' : Int} {N m : Nat}
theorem len1 {x : Int × Int} {l : List (Int × Int)} : (((x :: l).length : Nat) : Int) = l.length + 1 := by
  rw [List.length_cons]
  omega
theorem len_a {l l' : List (Int × Int)} : (((l ++ l').length : Nat) : Int) = l.length + l'.length := by
  rw [List.length_append]
  omega
/-- terms: the loop -/
theorem termL_K (hW : WDS T L kd vl pl n) (hF : SIMF T L kd vl pl n d F) (h63 : ∀ c, kd c = 63 → (F c).1 = 0 ∧ (F c).2.1 = c) (hn : ∀ c, 0 ≤ c → c ≤ n → ROK n c (F c)) (c0 : 0 ≤ c) (i0 : INV c W) (ht : TOP3 W) : ∀ (m : Nat) (r : Int × Int × List (Int × Int)), GTK T L kd vl pl n d f W c r ∨ BDO kd pl d f 1 W c r → GTK T L kd vl pl n d f W c (pL kd 42 47 F m r) ∨ BDO kd pl d f 1 W c (pL kd 42 47 F m r) := by
  have n1 := hW.2.2.2.1
  intro m
  induction m with
  | zero => exact fun r h => h
  | succ m ih =>
    intro r h
    unfold pL
    rcases h with h | h
    · obtain ⟨g1, g2, k, f', Z, pm, e, k1, lp, rw_, iv, pm1, z36, zp, re, z34, ra, sf⟩ := h
      rw [if_neg (by omega)]
      by_cases g : kd r.2.1 = 42 ∨ kd r.2.1 = 47
      · rw [if_pos g]
        apply ih
        have oc := opn_c (k := kd r.2.1)
        obtain ⟨a, ha⟩ : ∃ a, opn (kd r.2.1) = a := ⟨_, rfl⟩
        have a45 : a = 4 ∨ a = 5 := by omega
        obtain ⟨i1, i2, i3, i4⟩ := i0
        obtain ⟨j1, j2, j3, j4⟩ := iv
        have cn : r.2.1 ≤ n := rw_.2.2.2.1
        have ob := on1_b (x := pm)
        have pd : PND Z (W 2184 36 0) 0 pm := ⟨Or.inl rfl, pm1, i1, by rw [on1_0, Int.add_zero]; exact z36, fun z => absurd rfl z, fun z => by rw [on1_0, Int.add_zero]; exact zp z⟩
        have tz : (0 : Int) ≠ 0 ∨ W 2184 36 0 = 0 ∨ Z 2205 (W 2184 36 0 - 1) 0 ≤ 3 := by
          rcases ht with t | t
          · exact Or.inr (Or.inl t)
          · right
            right
            rw [sf _ _ _ (by omega) (by omega) (by omega)]
            exact t
        obtain ⟨Z2, e2, u2, z2a, z2r, z2p⟩ := un2_K pd (by omega) rfl j3 (by omega) tz
        have q2 : Z2 2184 36 0 = W 2184 36 0 := by
          have := z2p.2.2.2.1
          rw [on1_0] at this
          omega
        obtain ⟨Z5, b5, r5, p5, n5, v5, cl, f5⟩ := op_step (d := d) (f := f') hW rw_ g2 ha (by omega) (by rw [if_neg (by omega)]; exact e2) u2 q2 (by omega) (by omega)
        have sfZ2 : SFR W Z2 (W 2184 34 0) (W 2184 36 0) := sfr_t sf (ufr_s (p0 := W 2184 36 0) u2) (by omega) (Int.le_refl _)
        have sf25 : SFR Z2 Z5 (Z 2184 34 0) (W 2184 36 0) := fun b x y h1 h2 h3 => f5 b x y (by omega) (by omega)
        have sfZ5 : SFR W Z5 (W 2184 34 0) (W 2184 36 0) := sfr_t sfZ2 sf25 (by omega) (Int.le_refl _)
        have lp5 : ∀ N, qf_X15_side_L14 20000 (N + (k + 1)) d f 1 1 W = qf_X15_side_L14 20000 N d 0 1 1 Z5 := fun N => by
          rw [show N + (k + 1) = N + 1 + k by omega, lp, sl_s b5]
        have el : (0 : Int) ≤ e.length := by omega
        have k5 : ((k + 1 : Nat) : Int) ≤ (r.2.1 + 1) - c := by omega
        have ok := hn (r.2.1 + 1) (by omega) (by omega)
        have oc1 := ok.2.1
        by_cases w63 : kd (r.2.1 + 1) = 63
        · right
          have hf := h63 _ w63
          have ba := bad_at r5 w63 (by omega) (by omega) (by omega) (by omega)
          refine ⟨Or.inl hf.1, ?_⟩
          show BADO pl d f 1 W c (F (r.2.1 + 1)).2.1
          rw [hf.2]
          exact ⟨k + 1, Z5, by omega, fun N => by rw [show N + (k + 1) + 1 = N + 1 + (k + 1) by omega, lp5, ba.2], ba.1, sfZ5⟩
        · have iv5 : INV (r.2.1 + 1) Z5 := ⟨by omega, by omega, by omega, by omega⟩
          rcases hF (r.2.1 + 1) 0 Z5 (by omega) (by omega) r5 w63 (Or.inl rfl) iv5 with hh | hh
          · obtain ⟨t1, t2, k', f'', Z6, t3, t4, t5, t6, t7, t8, t9, t10⟩ := hh
            left
            refine ⟨t1, t2, k + 1 + k', f'', Z6, a, (e ++ opl pm) ++ (F (r.2.1 + 1)).2.2, ?_, fun N => ?_, t5, t6, Or.inr a45, ?_, fun _ => ?_, ?_, ?_, ?_, ?_⟩
            · show ((k + 1 + k' : Nat) : Int) ≤ (F (r.2.1 + 1)).2.1 - c
              omega
            · rw [show N + (k + 1 + k') = N + k' + (k + 1) by omega, lp5, t4]
            · rw [t7, p5, on1_1 (by omega)]
            · rw [t10 _ _ _ (by omega) (by omega) (by omega)]
              exact v5
            · show r.2.2 ++ ((F (r.2.1 + 1)).2.2 ++ [(opn (kd r.2.1), 0)]) = _
              rw [re, ha, opl_1 (x := a) (by omega), List.append_assoc, List.append_assoc, List.append_assoc]
            · rw [t8, n5, z2a, z34, len_a, len_a, opl_l]
              omega
            · rw [rat_app, rat_app]
              refine ⟨⟨?_, ?_⟩, ?_⟩
              · exact sfr_r t10 (sfr_r (sfr_t (ufr_s (p0 := W 2184 36 0) u2) sf25 (Int.le_refl _) (Int.le_refl _)) ra (by omega)) (by omega)
              · refine sfr_r t10 (rat_fr (fun i _ _ => ⟨f5 _ _ _ (by omega) (by omega), f5 _ _ _ (by omega) (by omega)⟩) ?_) (by rw [opl_l]; omega)
                rw [show 400 + W 2184 34 0 + (e.length : Int) = 400 + Z 2184 34 0 by omega]
                exact z2r
              · rw [show 400 + W 2184 34 0 + (((e ++ opl pm).length : Nat) : Int) = 400 + Z5 2184 34 0 by rw [len_a, opl_l]; omega]
                exact t9
            · exact sfr_t sfZ5 t10 (by omega) (by omega)
          · right
            refine ⟨hh.1, ?_⟩
            exact bad_more k5 lp5 hh.2 sfZ5 (by omega) (by omega)
      · rw [if_neg g]
        exact Or.inl ⟨g1, g2, k, f', Z, pm, e, k1, lp, rw_, iv, pm1, z36, zp, re, z34, ra, sf⟩
    · have h' := h
      obtain ⟨b1, b2⟩ := h
      by_cases g : r.1 = 0
      · rw [if_pos g]
        exact Or.inr h'
      · rw [if_neg g, if_neg (by omega)]
        exact Or.inr h'
theorem pL_63 (h63 : r.1 = 0) : ∀ m, pL kd x y F m r = r := by
  intro m
  cases m with
  | zero => rfl
  | succ m =>
    unfold pL
    rw [if_pos h63]
theorem pF_63 (h : kd c = 63) : (pF kd vl S d c).1 = 0 ∧ (pF kd vl S d c).2.1 = c := by
  unfold pF
  rw [if_neg (by omega), if_neg (by omega), if_neg (show ¬ kd c = 40 by omega)]
  by_cases g : 8 ≤ d
  · rw [if_pos g]
    exact ⟨rfl, rfl⟩
  · rw [if_neg g]
    exact ⟨rfl, rfl⟩
theorem pT_63 (h : kd c = 63) : (pT kd vl S d c).1 = 0 ∧ (pT kd vl S d c).2.1 = c := by
  unfold pT
  rw [pL_63 (pF_63 h).1]
  exact pF_63 h
theorem pS0_63 (h : kd c = 63) : (pS0 kd vl S d c).1 = 0 ∧ (pS0 kd vl S d c).2.1 = c := by
  unfold pS0
  rw [if_neg (by omega), pL_63 (pT_63 h).1]
  exact pT_63 h
theorem pS_63 (h : kd c = 63) : (pS kd vl m d c).1 = 0 ∧ (pS kd vl m d c).2.1 = c := by
  cases m with
  | zero => exact ⟨rfl, rfl⟩
  | succ m => exact pS0_63 h
/-- where a loop stops -/
theorem pL_end (h : LSW kd n) (hF : ∀ c, 0 ≤ c → c ≤ n → ROK n c (F c)) (hx : (x = 42 ∧ y = 47) ∨ (x = 43 ∧ y = 45)) : ∀ (m : Nat) (r : Int × Int × List (Int × Int)), 0 ≤ r.2.1 → r.2.1 ≤ n → 120 < r.2.1 + m → (pL kd x y F m r).1 = 1 → kd (pL kd x y F m r).2.1 ≠ x ∧ kd (pL kd x y F m r).2.1 ≠ y := by
  have n1 := h.2.1
  intro m
  induction m with
  | zero => intro r r0 r1 r2; omega
  | succ m ih =>
    intro r r0 r1 r2 h1
    unfold pL at h1 ⊢
    by_cases g : r.1 = 0
    · rw [if_pos g] at h1
      omega
    · rw [if_neg g] at h1 ⊢
      by_cases g2 : kd r.2.1 = x ∨ kd r.2.1 = y
      · rw [if_pos g2] at h1 ⊢
        have cn := lst_lt h r1 (by omega) (by omega)
        have o := hF (r.2.1 + 1) (by omega) (by omega)
        have o1 := o.2.1
        exact ih _ (by show 0 ≤ (F (r.2.1 + 1)).2.1; omega) o.2.2.1 (by show 120 < (F (r.2.1 + 1)).2.1 + (m : Int); omega) h1
      · rw [if_neg g2]
        exact ⟨fun z => g2 (Or.inl z), fun z => g2 (Or.inr z)⟩
theorem pL_keep (P : Int → Prop) (hF : ∀ c, 0 ≤ c → c ≤ n → ROK n c (F c)) (hP : ∀ c, 0 ≤ c → c ≤ n → (F c).1 = 1 → P (F c).2.1) (h : LSW kd n) (hx : (x = 42 ∧ y = 47) ∨ (x = 43 ∧ y = 45)) : ∀ (m : Nat) (r : Int × Int × List (Int × Int)), 0 ≤ r.2.1 → r.2.1 ≤ n → (r.1 = 1 → P r.2.1) → (pL kd x y F m r).1 = 1 → P (pL kd x y F m r).2.1 := by
  intro m
  induction m with
  | zero => exact fun r _ _ p q => p q
  | succ m ih =>
    intro r r0 r1 p h1
    unfold pL at h1 ⊢
    by_cases g : r.1 = 0
    · rw [if_pos g] at h1
      omega
    · rw [if_neg g] at h1 ⊢
      by_cases g2 : kd r.2.1 = x ∨ kd r.2.1 = y
      · rw [if_pos g2] at h1 ⊢
        have cn := lst_lt h r1 (by omega) (by omega)
        have o := hF (r.2.1 + 1) (by omega) (by omega)
        have o1 := o.2.1
        exact ih _ (by show 0 ≤ (F (r.2.1 + 1)).2.1; omega) o.2.2.1 (fun z => hP _ (by omega) (by omega) z) h1
      · rw [if_neg g2] at h1 ⊢
        exact p h1
theorem pT_end (h : LSW kd n) (hS : ∀ c, 0 ≤ c → c ≤ n → ROK n c (S c)) (c0 : 0 ≤ c) (c1 : c ≤ n) (h1 : (pT kd vl S d c).1 = 1) : kd (pT kd vl S d c).2.1 ≠ 42 ∧ kd (pT kd vl S d c).2.1 ≠ 47 := by
  have o := pF_ok (vl := vl) (d := d) h hS c0 c1
  have o1 := o.2.1
  have o2 := o.2.2.2
  have hF := fun c c0 c1 => pF_ok (vl := vl) (d := d) (c := c) h hS c0 c1
  by_cases g : (pF kd vl S d c).1 = 0
  · unfold pT at h1
    rw [pL_63 g] at h1
    omega
  · have := o2 (by have := o.1; omega)
    exact pL_end h hF (Or.inl ⟨rfl, rfl⟩) 120 _ (by omega) o.2.2.1 (by omega) h1
theorem pS0_end (h : LSW kd n) (hS : ∀ c, 0 ≤ c → c ≤ n → ROK n c (S c)) (c0 : 0 ≤ c) (c1 : c ≤ n) (h1 : (pS0 kd vl S d c).1 = 1) : opn (kd (pS0 kd vl S d c).2.1) = 0 := by
  have hF := fun c c0 c1 => pT_ok (vl := vl) (d := d) (c := c) h hS c0 c1
  have lp : ∀ r : Int × Int × List (Int × Int), 0 < r.2.1 → r.2.1 ≤ n → (r.1 = 1 → kd r.2.1 ≠ 42 ∧ kd r.2.1 ≠ 47) → (pL kd 43 45 (pT kd vl S d) 120 r).1 = 1 → opn (kd (pL kd 43 45 (pT kd vl S d) 120 r).2.1) = 0 := fun r r0 r1 hr h1 => by
    have a := pL_end h hF (Or.inr ⟨rfl, rfl⟩) 120 r (by omega) r1 (by omega) h1
    have b := pL_keep (fun c => kd c ≠ 42 ∧ kd c ≠ 47) hF (fun c c0 c1 z => pT_end h hS c0 c1 z) h (Or.inr ⟨rfl, rfl⟩) 120 r (by omega) r1 hr h1
    have oc := opn_c (k := kd (pL kd 43 45 (pT kd vl S d) 120 r).2.1)
    omega
  unfold pS0 at h1 ⊢
  by_cases g : kd c = 45
  · rw [if_pos g] at h1 ⊢
    have cn := lst_lt h c1 (by omega) (by omega)
    have o := hF (c + 1) (by omega) (by omega)
    have o1 := o.2.1
    exact lp _ (by show 0 < (pT kd vl S d (c + 1)).2.1; omega) o.2.2.1 (fun z => pT_end h hS (by omega) (by omega) z) h1
  · rw [if_neg g] at h1 ⊢
    have o := hF c c0 c1
    have o1 := o.2.1
    by_cases g2 : (pT kd vl S d c).1 = 0
    · rw [pL_63 g2] at h1
      omega
    · have := o.2.2.2 (by have := o.1; omega)
      exact lp _ (by omega) o.2.2.1 (fun z => pT_end h hS c0 c1 z) h1
end WDj
