/-! ===== passing: who is caught ===== -/
section PSb
variable {M K M' K' : qm} {i j k v w x y s t u T : Int} {m n : Nat}
theorem catch_both (hb : M 6 11 0 ≠ 0) (hT : K 2156 2 0 = T) (T0 : 0 ≤ T) (h_personn : R_personn M K) (h_persons : R_persons M K) (h_personb : R_personb M K) (h_smoke : R_smoke M K) : ∃ M' K', qf_X10_catchPersons 20000 T M = some ((), M') ∧ qf_X18_second_L186 20000 20000 0 K = some (.inr ((), K')) ∧ R_persons M' K' ∧ R_personb M' K' ∧ (∀ e x y, ¬ (e = 761 ∧ y = 3) → M' e x y = M e x y) ∧ (∀ e x y, e ≠ 2309 → K' e x y = K e x y) := by
  have ps := psC_of h_personn h_persons h_personb
  obtain ⟨n0, n1, n2⟩ := h_personn
  obtain ⟨n, hn⟩ : ∃ n : Nat, M 756 7 0 = n := ⟨(M 756 7 0).toNat, by omega⟩
  obtain ⟨r, r', e1, e2, M', K', rfl, rfl, h1, h2, h3, h4⟩ := two_loop (f := fun s => qf_X10_catchPersons_L2_b 20000 s.1 s.2.1 s.2.2) (g := fun s => qf_X18_second_L186_b 20000 s.1 s.2) (Q := fun (r : (Unit × qm) ⊕ (Unit × qm)) (r' : (Unit × qm) ⊕ (Unit × qm)) => ∃ M' K', r = .inr ((), M') ∧ r' = .inr ((), K') ∧ R_persons M' K' ∧ R_personb M' K' ∧ (∀ e x y, ¬ (e = 761 ∧ y = 3) → M' e x y = M e x y) ∧ (∀ e x y, e ≠ 2309 → K' e x y = K e x y)) n (fun i a b => ∃ (p : Int) (Z W : qm), p = i ∧ a = (T, p, Z) ∧ b = (p, W) ∧ R_persons Z W ∧ R_personb Z W ∧ (∀ e x y, ¬ (e = 761 ∧ y = 3) → Z e x y = M e x y) ∧ (∀ e x y, e ≠ 2309 → W e x y = K e x y)) (fun i a b i8 hI => by
      obtain ⟨p, Z, W, hp, rfl, rfl, h1, h2, h3, h4⟩ := hI
      have p0 : 0 ≤ p := by omega
      have p8 : p < n := by omega
      have z7 : Z 756 7 0 = n := (h3 _ _ _ (by omega)).trans hn
      have psZ : psC Z := by
        refine ⟨by omega, by omega, fun q q0 q1 => ?_⟩
        rw [h3 761 q 1 (by omega), h3 761 q 2 (by omega)]
        exact ps.2.2 q q0 (by omega)
      have fz := isFreeInside_r psZ p0 (by omega)
      have cz := cellOf_r psZ p0 (by omega)
      obtain ⟨a0, a1, a2, a3, _⟩ := h1 p p0 (by omega)
      obtain ⟨b0, b1, b2, _, _, b5⟩ := h2 p p0 (by omega)
      have wp : w32 (p + 1) = p + 1 := w32_id (by omega) (by omega)
      have pr : 0 ≤ p ∧ p < 40 := by omega
      have stay : qf_X10_catchPersons_L2_b 20000 T p Z = some (.inr (T, p + 1, Z)) → qf_X18_second_L186_b 20000 p W = some (.inr (p + 1, W)) → ∃ a' b', qf_X10_catchPersons_L2_b 20000 T p Z = some (.inr a') ∧ qf_X18_second_L186_b 20000 p W = some (.inr b') ∧ ∃ (q : Int) (Z W : qm), q = ((i + 1 : Nat) : Int) ∧ a' = (T, q, Z) ∧ b' = (q, W) ∧ R_persons Z W ∧ R_personb Z W ∧ (∀ e x y, ¬ (e = 761 ∧ y = 3) → Z e x y = M e x y) ∧ (∀ e x y, e ≠ 2309 → W e x y = K e x y) := fun x1 x2 => ⟨_, _, x1, x2, p + 1, Z, W, by omega, rfl, rfl, h1, h2, h3, h4⟩
      have c29 : W 2156 9 0 = K 2156 9 0 := h4 _ _ _ (by decide)
      by_cases g1 : Z 761 p 1 ≠ -1 ∧ Z 761 p 3 = -1
      · rw [if_pos g1] at fz
        have nr : ¬ W 2306 p 0 = W 2156 9 0 := fun z => by
          rw [if_pos z] at b5
          omega
        rw [if_neg nr] at b5
        obtain ⟨X, hX⟩ : ∃ X, Z 761 p 1 = X := ⟨_, rfl⟩
        obtain ⟨Y, hY⟩ : ∃ Y, Z 761 p 2 = Y := ⟨_, rfl⟩
        rw [hX] at a1 g1
        rw [hY] at a2
        rw [a1, a2] at b5
        have ce : celP Z p = 24 * X + Y := by
          unfold celP
          rw [hX, hY, if_neg g1.1]
        rw [ce] at cz
        obtain ⟨s1, s2⟩ := h_smoke X Y (by omega) (by omega) (by omega) (by omega)
        have eC : qf_X10_catchPersons_L2_b 20000 T p Z = (if M 757 (24 * X + Y) 0 = 0 then some (.inr (T, p + 1, Z)) else some (.inr (T, p + 1, qw Z 761 p 3 T))) := by
          unfold qf_X10_catchPersons_L2_b qbnd
          rw [if_neg (show ¬ Z 756 7 0 ≤ p by omega), fz]
          simp only [Option.bind_some]
          rw [if_neg (by decide), cz]
          simp only [Option.bind_some]
          rw [if_pos (show 0 ≤ 24 * X + Y ∧ 24 * X + Y < 576 by omega), h3 757 _ 0 (by omega), if_pos pr, wp]
        have eK : qf_X18_second_L186_b 20000 p W = (if K 2326 (24 * Y + X) 0 = 0 then some (.inr (p + 1, W)) else some (.inr (p + 1, qw W 2309 p 0 T))) := by
          unfold qf_X18_second_L186_b qbnd
          rw [if_neg (show ¬ W 2156 27 0 ≤ p by rw [h4 _ _ _ (by decide)]; omega)]
          simp only [if_pos pr]
          rw [if_neg (show ¬ W 2156 9 0 ≤ W 2306 p 0 by omega), if_neg (show ¬ 0 ≤ W 2309 p 0 by omega), a1, a2, w32_id (x := 24 * Y) (by omega) (by omega), w32_id (x := 24 * Y + X) (by omega) (by omega), if_pos (show 0 ≤ 24 * Y + X ∧ 24 * Y + X < 576 by omega), h4 2326 _ 0 (by decide), h4 2156 2 0 (by decide), hT, wp]
        by_cases g2 : M 757 (24 * X + Y) 0 = 0
        · rw [if_pos g2] at eC
          rw [if_pos (by omega)] at eK
          exact stay eC eK
        · rw [if_neg g2] at eC
          rw [if_neg (by omega)] at eK
          refine ⟨_, _, eC, eK, p + 1, _, _, by omega, rfl, rfl, fun q q0 q1 => ?_, fun q q0 q1 => ?_, fun e x y z => ?_, fun e x y z => (qw_a z).trans (h4 e x y z)⟩
          · have q1' : q < Z 756 7 0 := by
              rw [qw_a (by decide)] at q1
              exact q1
            have w := h1 q q0 q1'
            rw [qw_a (show (2306 : Nat) ≠ 2309 by decide), qw_a (show (2307 : Nat) ≠ 2309 by decide), qw_a (show (2308 : Nat) ≠ 2309 by decide), qw_a (show (2310 : Nat) ≠ 2309 by decide), qw_a (show (2311 : Nat) ≠ 2309 by decide), qw_a (show (2304 : Nat) ≠ 2309 by decide), qw_a (show (2305 : Nat) ≠ 2309 by decide)]
            have o : ∀ j, j ≠ 3 → qw Z 761 p 3 T 761 q j = Z 761 q j := fun j z => by rw [qw_ap, if_neg (by omega)]
            rw [o 0 (by decide), o 1 (by decide), o 2 (by decide), o 4 (by decide), o 5 (by decide), o 6 (by decide), o 7 (by decide)]
            refine ⟨w.1, w.2.1, w.2.2.1, ?_, w.2.2.2.2⟩
            by_cases e : q = p
            · rw [e]
              exact qw_s.trans qw_s.symm
            · rw [qw_i e, qw_i e]
              exact w.2.2.2.1
          · have q1' : q < Z 756 7 0 := by
              rw [qw_a (by decide)] at q1
              exact q1
            have w := h2 q q0 q1'
            rw [qw_a (show (2306 : Nat) ≠ 2309 by decide), qw_a (show (2307 : Nat) ≠ 2309 by decide), qw_a (show (2308 : Nat) ≠ 2309 by decide), qw_a (show (2311 : Nat) ≠ 2309 by decide), qw_a (show (2156 : Nat) ≠ 2309 by decide), qw_a (show (6 : Nat) ≠ 761 by decide), qw_a (show (56 : Nat) ≠ 761 by decide)]
            refine ⟨w.1, w.2.1, ?_, w.2.2.2⟩
            by_cases e : q = p
            · rw [e]
              exact Int.le_trans (by omega) (Int.le_of_eq (Eq.symm qw_s) : T ≤ _)
            · rw [qw_i e]
              exact w.2.2.1
          · rw [qw_ap, if_neg (by omega)]
            exact h3 e x y z
      · rw [if_neg g1] at fz
        refine stay ?_ ?_
        · unfold qf_X10_catchPersons_L2_b
          rw [if_neg (show ¬ Z 756 7 0 ≤ p by omega), fz]
          simp only [Option.bind_some]
          rw [if_pos trivial, wp]
        · unfold qf_X18_second_L186_b
          rw [if_neg (show ¬ W 2156 27 0 ≤ p by rw [h4 _ _ _ (by decide)]; omega)]
          simp only [if_pos pr]
          rw [wp]
          by_cases g2 : W 2156 9 0 ≤ W 2306 p 0
          · rw [if_pos g2]
          · rw [if_neg g2, if_pos ?_]
            rw [if_neg (show ¬ W 2306 p 0 = W 2156 9 0 by omega)] at b5
            have : ¬ Z 761 p 3 = -1 := fun z => g1 ⟨by omega, z⟩
            omega) (fun a b hI => by
      obtain ⟨p, Z, W, hp, rfl, rfl, h1, h2, h3, h4⟩ := hI
      refine ⟨.inr ((), Z), .inr ((), W), ?_, ?_, Z, W, rfl, rfl, h1, h2, h3, h4⟩
      · show qf_X10_catchPersons_L2_b 20000 T p Z = _
        unfold qf_X10_catchPersons_L2_b
        rw [if_pos (show Z 756 7 0 ≤ p by rw [h3 _ _ _ (by omega)]; omega)]
      · show qf_X18_second_L186_b 20000 p W = _
        unfold qf_X18_second_L186_b
        rw [if_pos (show W 2156 27 0 ≤ p by rw [h4 _ _ _ (by decide)]; omega)]) n 0 20000 20000 (T, 0, M) (0, K) (by omega) (by omega) (by omega) ⟨0, M, K, rfl, rfl, rfl, h_persons, h_personb, fun _ _ _ _ => rfl, fun _ _ _ _ => rfl⟩
  refine ⟨M', K', ?_, e2, h1, h2, h3, h4⟩
  unfold qf_X10_catchPersons
  have e1' : qf_X10_catchPersons_L2 20000 20000 T 0 M = some (.inr ((), M')) := e1
  rw [e1']
  rfl
end PSb
