/-! ===== passing: what points detect ===== -/
section PSa
variable {M K M' K' : qm} {i j k v w x y s t u : Int} {m n : Nat}
theorem rooms_both (hb : M 6 11 0 ≠ 0) (h_rooms : R_rooms M K) (h_sroom : R_sroom M K) (h_mvalue : R_mvalue M K) : ∃ M' K', qf_X11_passSecond_L23 20000 20000 0 M = some (.inr ((), M')) ∧ qf_X18_detect_L2 20000 20000 0 K = some (.inr ((), K')) ∧ R_mvalue M' K' ∧ (∀ e x y, e ≠ 1173 → M' e x y = M e x y) ∧ (∀ e x y, e ≠ 2209 → K' e x y = K e x y) := by
  obtain ⟨g1, g2, g3⟩ := h_rooms hb
  obtain ⟨n, hn⟩ : ∃ n : Nat, M 51 3 0 = n := ⟨(M 51 3 0).toNat, by omega⟩
  obtain ⟨r, r', e1, e2, M', K', rfl, rfl, h1, h2, h3⟩ := two_loop (f := fun s => qf_X11_passSecond_L23_b 20000 s.1 s.2) (g := fun s => qf_X18_detect_L2_b 20000 s.1 s.2) (Q := fun (r : (Unit × qm) ⊕ (Unit × qm)) (r' : (Unit × qm) ⊕ (Unit × qm)) => ∃ M' K', r = .inr ((), M') ∧ r' = .inr ((), K') ∧ R_mvalue M' K' ∧ (∀ e x y, e ≠ 1173 → M' e x y = M e x y) ∧ (∀ e x y, e ≠ 2209 → K' e x y = K e x y)) n (fun i a b => ∃ (p : Int) (Z W : qm), p = i ∧ a = (p, Z) ∧ b = (p, W) ∧ R_mvalue Z W ∧ (∀ e x y, e ≠ 1173 → Z e x y = M e x y) ∧ (∀ e x y, e ≠ 2209 → W e x y = K e x y)) (fun i a b i8 hI => by
      obtain ⟨p, Z, W, hp, rfl, rfl, h1, h2, h3⟩ := hI
      have p0 : 0 ≤ p := by omega
      have p8 : p < n := by omega
      obtain ⟨r, er, hr⟩ := smokes_r (M := W) (x := p)
      have ec : r = M 758 p 0 := by
        rw [hr, h_sroom p p0 (by omega)]
        refine sI_c (fun c _ _ => ?_)
        rw [h3 2326 _ _ (by decide), h3 2329 _ _ (by decide)]
        by_cases g : K 2326 c 0 ≠ 0 ∧ K 2329 c 0 = p
        · rw [if_pos g, if_pos ⟨g.1, Or.inr g.2⟩]
        · rw [if_neg g, if_neg (fun z => g ⟨z.1, z.2.resolve_left (by omega)⟩)]
      have rb : 0 ≤ r ∧ r ≤ 576 := by
        rw [hr]
        refine sI_b (by decide) (fun c _ _ => ?_)
        by_cases g : W 2326 c 0 ≠ 0 ∧ (p < 0 ∨ W 2329 c 0 = p)
        · rw [if_pos g]
          decide
        · rw [if_neg g]
          decide
      obtain ⟨val, hv⟩ : ∃ val, (if 10 * r ≤ 100 then 10 * r else 100) = val := ⟨_, rfl⟩
      have mn : min (10 * r) 100 = val := by
        rw [← hv]
        by_cases g : 10 * r ≤ 100
        · rw [if_pos g]
          omega
        · rw [if_neg g]
          omega
      refine ⟨(p + 1, qw Z 1173 p 0 val), (p + 1, qw W 2209 p 0 val), ?_, ?_, p + 1, _, _, by omega, rfl, rfl, fun j j0 j1 => ?_, fun e x y z => (qw_a z).trans (h2 e x y z), fun e x y z => (qw_a z).trans (h3 e x y z)⟩
      · show qf_X11_passSecond_L23_b 20000 p Z = _
        unfold qf_X11_passSecond_L23_b qbnd
        rw [if_neg (show ¬ Z 51 3 0 ≤ p by rw [h2 _ _ _ (by decide)]; omega), if_neg (show ¬ (40 : Int) ≤ p by omega), if_pos (show 0 ≤ p ∧ p < 40 by omega), if_pos (show 0 ≤ p ∧ p < 50 by omega), h2 758 p 0 (by decide), ← ec, w32_id (x := 10 * r) (by omega) (by omega), mn, w32_id (x := p + 1) (by omega) (by omega)]
      · show qf_X18_detect_L2_b 20000 p W = _
        unfold qf_X18_detect_L2_b qbnd
        rw [if_neg (show ¬ W 2156 9 0 ≤ p by rw [h3 _ _ _ (by decide)]; omega), er]
        simp only [Option.bind_some]
        rw [w32_id (x := 10 * r) (by omega) (by omega), if_pos (show 0 ≤ p ∧ p < 50 by omega), if_pos (show 0 ≤ p ∧ p < 50 by omega), w32_id (x := p + 1) (by omega) (by omega)]
        by_cases g : 10 * r ≤ 100
        · rw [if_pos g] at hv ⊢
          rw [hv]
        · rw [if_neg g] at hv ⊢
          rw [hv]
      · by_cases e : j = p
        · rw [e]
          exact qw_s.trans qw_s.symm
        · rw [qw_i e, qw_i e]
          exact h1 j j0 j1) (fun a b hI => by
      obtain ⟨p, Z, W, hp, rfl, rfl, h1, h2, h3⟩ := hI
      refine ⟨.inr ((), Z), .inr ((), W), ?_, ?_, Z, W, rfl, rfl, h1, h2, h3⟩
      · show qf_X11_passSecond_L23_b 20000 p Z = _
        unfold qf_X11_passSecond_L23_b
        rw [if_pos (show Z 51 3 0 ≤ p by rw [h2 _ _ _ (by decide)]; omega)]
      · show qf_X18_detect_L2_b 20000 p W = _
        unfold qf_X18_detect_L2_b
        rw [if_pos (show W 2156 9 0 ≤ p by rw [h3 _ _ _ (by decide)]; omega)]) n 0 20000 20000 (0, M) (0, K) (by omega) (by omega) (by omega) ⟨0, M, K, rfl, rfl, rfl, h_mvalue, fun _ _ _ _ => rfl, fun _ _ _ _ => rfl⟩
  exact ⟨M', K', e1, e2, h1, h2, h3⟩
theorem switch_both (hb : M 6 11 0 ≠ 0) (h_rooms : R_rooms M K) (h_mpoints : R_mpoints M K) (h_mvalue : R_mvalue M K) (h_outs : R_outs M K) (h_bound : R_bound M K) (h_blocks : R_blocks M K) : ∃ M' K', qf_X11_passSecond_L74 20000 20000 0 M = some (.inr ((), M')) ∧ qf_X18_detect_L48 20000 20000 0 K = some (.inr ((), K')) ∧ R_mvalue M' K' ∧ (∀ e x y, e ≠ 1173 → M' e x y = M e x y) ∧ (∀ e x y, e ≠ 2209 → K' e x y = K e x y) := by
  obtain ⟨g1, g2, g3⟩ := h_rooms hb
  obtain ⟨q1, q2, q3⟩ := h_blocks
  obtain ⟨o1, o2, o3, o4⟩ := h_mpoints
  have o5 := o4 hb
  obtain ⟨R, hR⟩ : ∃ R, M 51 3 0 = R := ⟨_, rfl⟩
  rw [hR] at g1 g2 g3
  rw [g1] at o5
  obtain ⟨n, hn⟩ : ∃ n : Nat, M 1003 0 0 = n := ⟨(M 1003 0 0).toNat, by omega⟩
  obtain ⟨r, r', e1, e2, M', K', rfl, rfl, h1, h2, h3⟩ := two_loop (f := fun s => qf_X11_passSecond_L74_b 20000 s.1 s.2) (g := fun s => qf_X18_detect_L48_b 20000 s.1 s.2) (Q := fun (r : (Unit × qm) ⊕ (Unit × qm)) (r' : (Unit × qm) ⊕ (Unit × qm)) => ∃ M' K', r = .inr ((), M') ∧ r' = .inr ((), K') ∧ R_mvalue M' K' ∧ (∀ e x y, e ≠ 1173 → M' e x y = M e x y) ∧ (∀ e x y, e ≠ 2209 → K' e x y = K e x y)) n (fun i a b => ∃ (p : Int) (Z W : qm), p = i ∧ a = (p, Z) ∧ b = (p, W) ∧ R_mvalue Z W ∧ (∀ e x y, e ≠ 1173 → Z e x y = M e x y) ∧ (∀ e x y, e ≠ 2209 → W e x y = K e x y)) (fun i a b i8 hI => by
      obtain ⟨p, Z, W, hp, rfl, rfl, h1, h2, h3⟩ := hI
      have p0 : 0 ≤ p := by omega
      have p8 : p < n := by omega
      obtain ⟨b1, b2, b3⟩ := h_bound p p0 (by omega)
      obtain ⟨c1, _, _, c4, c5, _⟩ := h_outs p p0 (by omega)
      obtain ⟨B, hB⟩ : ∃ B, M 1134 p 0 = B := ⟨_, rfl⟩
      obtain ⟨O, hO⟩ : ∃ O, M 1049 p 0 = O := ⟨_, rfl⟩
      rw [hB] at b1 b2 b3
      rw [hO] at c1 c4 c5
      have wp : w32 (p + 1) = p + 1 := w32_id (by omega) (by omega)
      have eC : qf_X11_passSecond_L74_b 20000 p Z = (qf_X4_setSwitch 20000 B O Z).bind (fun r26 => some (.inr (p + 1, r26.2))) := by
        unfold qf_X11_passSecond_L74_b
        rw [if_neg (show ¬ Z 1003 0 0 ≤ p by rw [h2 _ _ _ (by decide)]; omega), if_pos (show 0 ≤ p ∧ p < 40 by omega), if_pos (show 0 ≤ p ∧ p < 40 by omega), h2 1134 p 0 (by decide), h2 1049 p 0 (by decide), hB, hO, wp]
      by_cases g : B = -1
      · refine ⟨(p + 1, Z), (p + 1, W), ?_, ?_, p + 1, Z, W, by omega, rfl, rfl, h1, h2, h3⟩
        · show qf_X11_passSecond_L74_b 20000 p Z = _
          rw [eC]
          unfold qf_X4_setSwitch
          rw [if_pos g]
          rfl
        · show qf_X18_detect_L48_b 20000 p W = _
          unfold qf_X18_detect_L48_b
          rw [if_neg (show ¬ W 2235 0 0 ≤ p by rw [h3 _ _ _ (by decide)]; omega), if_pos (show 0 ≤ p ∧ p < 40 by omega), h3 2248 p 0 (by decide), b1, if_pos (show B + 1 ≤ 0 by omega), wp]
      · obtain ⟨val, hv⟩ : ∃ val, max 0 (min O 100) = val := ⟨_, rfl⟩
        have pl : 0 ≤ R + B ∧ R + B < 50 := by omega
        refine ⟨(p + 1, qw Z 1173 (R + B) 0 val), (p + 1, qw W 2209 (R + B) 0 val), ?_, ?_, p + 1, _, _, by omega, rfl, rfl, fun j j0 j1 => ?_, fun e x y z => (qw_a z).trans (h2 e x y z), fun e x y z => (qw_a z).trans (h3 e x y z)⟩
        · show qf_X11_passSecond_L74_b 20000 p Z = _
          rw [eC]
          unfold qf_X4_setSwitch qbnd
          rw [if_neg g, h2 1172 2 0 (by decide), o5, w32_id (x := R + 10 - 10) (by omega) (by omega), w32_id (x := R + 10 - 10 + B) (by omega) (by omega), show R + 10 - 10 + B = R + B by omega, if_neg (show ¬ R + B < 0 by omega), if_neg (show ¬ R + 10 ≤ R + B by omega), if_pos pl, hv]
          rfl
        · show qf_X18_detect_L48_b 20000 p W = _
          unfold qf_X18_detect_L48_b qbnd
          rw [if_neg (show ¬ W 2235 0 0 ≤ p by rw [h3 _ _ _ (by decide)]; omega)]
          simp only [if_pos (show 0 ≤ p ∧ p < 40 by omega)]
          rw [h3 2248 p 0 (by decide), b1, if_neg (show ¬ B + 1 ≤ 0 by omega), h3 2242 p 0 (by decide), c1, h3 2156 9 0 (by decide), g1, w32_id (x := R + (B + 1)) (by omega) (by omega), w32_id (x := R + (B + 1) - 1) (by omega) (by omega), show R + (B + 1) - 1 = R + B by omega, wp]
          simp only [if_pos pl]
          by_cases z0 : 0 ≤ O
          · rw [if_pos z0]
            by_cases z1 : O ≤ 100
            · rw [if_pos z1, ← hv, show max 0 (min O 100) = O by omega]
            · rw [if_neg z1, ← hv, show max 0 (min O 100) = 100 by omega]
          · rw [if_neg z0, ← hv, show max 0 (min O 100) = 0 by omega]
        · by_cases e : j = R + B
          · rw [e]
            exact qw_s.trans qw_s.symm
          · rw [qw_i e, qw_i e]
            exact h1 j j0 j1) (fun a b hI => by
      obtain ⟨p, Z, W, hp, rfl, rfl, h1, h2, h3⟩ := hI
      refine ⟨.inr ((), Z), .inr ((), W), ?_, ?_, Z, W, rfl, rfl, h1, h2, h3⟩
      · show qf_X11_passSecond_L74_b 20000 p Z = _
        unfold qf_X11_passSecond_L74_b
        rw [if_pos (show Z 1003 0 0 ≤ p by rw [h2 _ _ _ (by decide)]; omega)]
      · show qf_X18_detect_L48_b 20000 p W = _
        unfold qf_X18_detect_L48_b
        rw [if_pos (show W 2235 0 0 ≤ p by rw [h3 _ _ _ (by decide)]; omega)]) n 0 20000 20000 (0, M) (0, K) (by omega) (by omega) (by omega) ⟨0, M, K, rfl, rfl, rfl, h_mvalue, fun _ _ _ _ => rfl, fun _ _ _ _ => rfl⟩
  exact ⟨M', K', e1, e2, h1, h2, h3⟩
end PSa
