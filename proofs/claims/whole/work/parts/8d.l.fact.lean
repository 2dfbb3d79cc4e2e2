section WDl
variable {M K A Z D W W' Z2 : qm} {T kd vl pl : Int → Int} {F S : Int → Int × Int × List (Int × Int)} {r : Int × Int × List (Int × Int)} {L p q e k v i j x y z c d f n w t s a u ns d' f' w' t' : Int} {N m : Nat}
/-- a value is wanted, and no sign below zero stands there -/
theorem want_b (h1 : W 2184 31 0 = 0) (h2 : W 2184 28 0 = kr (kd c)) (h3 : VKD (kd c)) (hf : f = 0 ∨ (f = 1 ∧ kd c ≠ 45)) : qf_X15_side_L14_b 20000 d f 1 1 W = if kr (kd c) = 40 then (if d = 8 then qf_X15_side_J113 20000 d 1 1 1 W else qf_X15_side_J113 20000 d 1 1 0 W) else if kr (kd c) = 1 then qf_X15_side_J167 20000 d f 1 0 W else qf_X15_side_J167 20000 d f 1 1 W := by
  have j88 : qf_X15_side_J88 20000 d f 1 1 (opn (kd c)) W = if kr (kd c) = 40 then (if d = 8 then qf_X15_side_J113 20000 d 1 1 1 W else qf_X15_side_J113 20000 d 1 1 0 W) else if kr (kd c) = 1 then qf_X15_side_J167 20000 d f 1 0 W else qf_X15_side_J167 20000 d f 1 1 W := by
    unfold qf_X15_side_J88 qf_X15_side_J149
    rw [if_neg (show ¬ (1 : Int) = 0 by decide), if_neg (show ¬ (1 : Int) = 0 by decide), h2]
  unfold qf_X15_side_L14_b
  rw [if_neg (show ¬ (1 : Int) = 0 by decide), if_pos h1, h2, opr_K h3]
  simp only [Option.bind_some]
  rw [if_neg (show ¬ (1 : Int) = 0 by decide), j88]
  rcases hf with g | ⟨g, g2⟩
  · rw [if_pos g]
  · rw [if_neg (by omega), if_neg (fun z => g2 ((kr_iff h3 (s := 45) (by unfold isG; decide)).mp z))]
/-- a number or a name -/
theorem val_step (hW : WDS T L kd vl pl n) (hr : RWD T L kd vl pl n c W) (hk : (kd c = 48 ∧ t = 0) ∨ (kd c = 97 ∧ t = 1)) (hi : INV c W) : ∃ Z5, qf_X15_side_J167 20000 d f 1 t W = some (.inr (d, f, 0, 1, Z5)) ∧ RWD T L kd vl pl n (c + 1) Z5 ∧ Z5 2184 36 0 = W 2184 36 0 ∧ Z5 2184 34 0 = W 2184 34 0 + 1 ∧ c < n ∧ RAT Z5 (400 + W 2184 34 0) [(t, vl c)] ∧ SFR W Z5 (W 2184 34 0) (W 2184 36 0) := by
  obtain ⟨i1, i2, i3, i4⟩ := hi
  have n1 := hW.2.2.2.1
  have cn := hr.2.2.2.1
  obtain ⟨b1, b2, b3, b4⟩ := rwd_k hr (by omega)
  have ks := kr_small b3
  obtain ⟨X, hX⟩ : ∃ X, EMT W (W 2184 34 0) t (vl c) = X := ⟨_, rfl⟩
  have fX : ∀ b x y, ¬ (b = 2184 ∧ x = 34) → ¬ ((b = 2196 ∨ b = 2197) ∧ x = 400 + W 2184 34 0) → X b x y = W b x y := fun b x y h1 h2 => by
    rw [← hX]
    exact emt_o h1 h2
  have X34 : X 2184 34 0 = W 2184 34 0 + 1 := by rw [← hX]; exact emt_34
  have wX : RWD T L kd vl pl n c X := rwd_fr hr (fun b x y z => fX b x y (by omega) (by omega))
  obtain ⟨Z5, e5, f5, r5, cl⟩ := take1_K hW wX (by omega) (by omega)
  refine ⟨Z5, ?_, r5, (f5 _ _ _ (by omega)).trans (fX _ _ _ (by omega) (by omega)), (f5 _ _ _ (by omega)).trans X34, cl, ?_, fun b x y h1 h2 h3 => ?_⟩
  · have X28 : X 2184 28 0 = kr (kd c) := (fX _ _ _ (by omega) (by omega)).trans b2
    unfold qf_X15_side_J167 qf_X15_side_J193
    rw [b4 (by omega), emit_K rfl i3 (by omega), hX]
    simp only [Option.bind_some]
    rw [X28, e5]
    rcases hk with ⟨g, _⟩ | ⟨g, _⟩
    · rw [if_pos (ks.1.mpr g)]
      rfl
    · rw [if_neg (fun z => by have := ks.1.mp z; omega), if_pos (ks.2.1.mpr g)]
      rfl
  · refine rat_fr (fun i i0 i1 => ⟨f5 _ _ _ (by omega), f5 _ _ _ (by omega)⟩) ?_
    rw [← hX]
    exact emt_r
  · rw [f5 b x y (by omega)]
    exact fX b x y (by omega) (by omega)
/-- no value -/
theorem noval_step (hr : RWD T L kd vl pl n c W) (h63 : kd c ≠ 63) (h1 : kd c ≠ 48) (h2 : kd c ≠ 97) (hi : INV c W) (n1 : n ≤ 120) : ∃ Z5, qf_X15_side_J167 20000 d f 1 1 W = some (.inr (d, f, 0, 1, Z5)) ∧ BDS pl Z5 c ∧ SFR W Z5 (W 2184 34 0) (W 2184 36 0) := by
  obtain ⟨i1, i2, i3, i4⟩ := hi
  have cn := hr.2.2.2.1
  obtain ⟨b1, b2, b3, b4⟩ := rwd_k hr h63
  have ks := kr_small b3
  obtain ⟨X, hX⟩ : ∃ X, EMT W (W 2184 34 0) 1 (W 2184 29 0) = X := ⟨_, rfl⟩
  have fX : ∀ b x y, ¬ (b = 2184 ∧ x = 34) → ¬ ((b = 2196 ∨ b = 2197) ∧ x = 400 + W 2184 34 0) → X b x y = W b x y := fun b x y h1 h2 => by
    rw [← hX]
    exact emt_o h1 h2
  have X34 : X 2184 34 0 = W 2184 34 0 + 1 := by rw [← hX]; exact emt_34
  have X28 : X 2184 28 0 = kr (kd c) := (fX _ _ _ (by omega) (by omega)).trans b2
  have X31 : X 2184 31 0 = 0 := (fX _ _ _ (by omega) (by omega)).trans b1
  have X26 : X 2184 26 0 = pl c := (fX _ _ _ (by omega) (by omega)).trans hr.2.2.2.2.1
  have X36 : X 2184 36 0 = W 2184 36 0 := fX _ _ _ (by omega) (by omega)
  have o : ∀ b x y, ¬ (b = 2184 ∧ x = 31) → qw X 2184 31 0 1 b x y = X b x y := fun b x y h => by rw [qw_ap, if_neg (by omega)]
  refine ⟨qw X 2184 31 0 1, ?_, ⟨qw_s, (o _ _ _ (by decide)).trans X26, ?_, ?_, ?_, ?_⟩, fun b x y h1 h2 h3 => ?_⟩
  · unfold qf_X15_side_J167 qf_X15_side_J193
    rw [emit_K rfl i3 (by omega), hX]
    simp only [Option.bind_some]
    rw [X28, if_neg (fun z => h1 (ks.1.mp z)), if_neg (fun z => h2 (ks.2.1.mp z)), take0_K (Or.inl X31)]
    rfl
  · rw [o _ _ _ (by decide), X36]
    exact i1
  · rw [o _ _ _ (by decide), X36]
    omega
  · rw [o _ _ _ (by decide), X34]
    omega
  · rw [o _ _ _ (by decide), o _ _ _ (by decide), X34, X36]
    omega
  · rw [o b x y (by omega)]
    exact fX b x y (by omega) (by omega)
/-- a bracket is opened -/
theorem open_step (hW : WDS T L kd vl pl n) (hr : RWD T L kd vl pl n c W) (h40 : kd c = 40) (d0 : 0 ≤ d) (d8 : d < 8) (hi : INV c W) : ∃ Z5, qf_X15_side_J113 20000 d 1 1 0 W = some (.inr (d + 1, 1, 1, 1, Z5)) ∧ RWD T L kd vl pl n (c + 1) Z5 ∧ Z5 2184 36 0 = W 2184 36 0 + 1 ∧ Z5 2184 34 0 = W 2184 34 0 ∧ Z5 2205 (W 2184 36 0) 0 = 1 ∧ c < n ∧ (∀ b x y, ¬ (b = 2184 ∧ ((26 ≤ x ∧ x ≤ 31) ∨ x = 36)) → ¬ (b = 2205 ∧ x = W 2184 36 0) → Z5 b x y = W b x y) := by
  obtain ⟨i1, i2, i3, i4⟩ := hi
  have n1 := hW.2.2.2.1
  have cn := hr.2.2.2.1
  obtain ⟨b1, b2, b3, b4⟩ := rwd_k hr (by omega)
  obtain ⟨Z5, e5, r5, p5, n5, v5, cl, f5⟩ := push_step (a := 1) hW hr (by omega) (by omega) rfl i1 (by omega)
  refine ⟨Z5, ?_, r5, p5, n5, v5, cl, f5⟩
  unfold qf_X15_side_J113 qbnd
  rw [if_pos (Or.inl rfl : (0 : Int) = 0 ∨ (0 : Int) = 1), qw_eqv b1]
  (try dsimp only)
  rw [if_pos (show 0 ≤ W 2184 36 0 ∧ W 2184 36 0 < 200 by omega), show qw W 2205 (W 2184 36 0) 0 1 2184 36 0 = W 2184 36 0 from qw_a (by decide), w32_id (x := W 2184 36 0 + 1) (by omega) (by omega), e5, w32_id (x := d + 1) (by omega) (by omega)]
  rfl
theorem deep_step (hr : RWD T L kd vl pl n c W) (h63 : kd c ≠ 63) (hi : INV c W) (n1 : n ≤ 120) : ∃ Z5, qf_X15_side_J113 20000 8 1 1 1 W = some (.inr (9, 1, 1, 1, Z5)) ∧ BDS pl Z5 c ∧ SFR W Z5 (W 2184 34 0) (W 2184 36 0) := by
  obtain ⟨i1, i2, i3, i4⟩ := hi
  have cn := hr.2.2.2.1
  obtain ⟨b1, b2, b3, b4⟩ := rwd_k hr h63
  obtain ⟨X, hX⟩ : ∃ X, qw (qw (qw W 2184 31 0 1) 2205 (W 2184 36 0) 0 1) 2184 36 0 (W 2184 36 0 + 1) = X := ⟨_, rfl⟩
  have fX : ∀ b x y, ¬ (b = 2184 ∧ (x = 31 ∨ x = 36)) → ¬ (b = 2205 ∧ x = W 2184 36 0) → X b x y = W b x y := fun b x y h1 h2 => by
    rw [← hX, qw_ap, if_neg (by omega), qw_ap, if_neg (by omega), qw_ap, if_neg (by omega)]
  have X31 : X 2184 31 0 = 1 := by rw [← hX, qw_i (by decide), qw_a (by decide)]; exact qw_s
  have X36 : X 2184 36 0 = W 2184 36 0 + 1 := by rw [← hX]; exact qw_s
  have X34 : X 2184 34 0 = W 2184 34 0 := fX _ _ _ (by omega) (by omega)
  refine ⟨X, ?_, ⟨X31, (fX _ _ _ (by omega) (by omega)).trans hr.2.2.2.2.1, by omega, by omega, by omega, by omega⟩, fun b x y h1 h2 h3 => fX b x y (by omega) (by omega)⟩
  unfold qf_X15_side_J113 qbnd
  rw [if_pos (Or.inr rfl : (1 : Int) = 0 ∨ (1 : Int) = 1)]
  (try dsimp only)
  rw [show qw W 2184 31 0 1 2184 36 0 = W 2184 36 0 from qw_i (by decide), if_pos (show 0 ≤ W 2184 36 0 ∧ W 2184 36 0 < 200 by omega), show qw (qw W 2184 31 0 1) 2205 (W 2184 36 0) 0 1 2184 36 0 = W 2184 36 0 from (qw_a (by decide)).trans (qw_i (by decide)), w32_id (x := W 2184 36 0 + 1) (by omega) (by omega), hX, takew_K X31]
  rfl
/-- a bracket is closed, or the side ends -/
theorem close_step (hW : WDS T L kd vl pl n) (h : RWD T L kd vl pl n c Z) (h41 : kd c = 41) (d0 : 0 < d) (d9 : d ≤ 9) (hu : qf_X15_unpile 20000 1 Z = some ((), Z2)) (uf : UFR Z Z2 ns) (hq : Z2 2184 36 0 = q + 1) (q0 : 0 ≤ q) (q1 : q < 200) : ∃ Z5, qf_X15_side_L14_b 20000 d f 0 1 Z = some (.inr (d - 1, f, 0, 1, Z5)) ∧ RWD T L kd vl pl n (c + 1) Z5 ∧ Z5 2184 36 0 = q ∧ Z5 2184 34 0 = Z2 2184 34 0 ∧ c < n ∧ (∀ b x y, ¬ (b = 2184 ∧ ((26 ≤ x ∧ x ≤ 31) ∨ x = 36)) → Z5 b x y = Z2 b x y) := by
  obtain ⟨b1, b2, b3, b4⟩ := rwd_k h (by omega)
  have oc := opn_c (k := kd c)
  obtain ⟨X, hX⟩ : ∃ X, qw Z2 2184 36 0 q = X := ⟨_, rfl⟩
  have fX : ∀ b x y, ¬ (b = 2184 ∧ x = 36) → X b x y = Z2 b x y := fun b x y h1 => by
    rw [← hX, qw_ap, if_neg (by omega)]
  have wX : RWD T L kd vl pl n c X := rwd_fr (ufr_wd uf h) (fun b x y z => fX b x y (by omega))
  obtain ⟨Z5, e5, f5, r5, cn⟩ := take1_K hW wX (by omega) (by omega)
  refine ⟨Z5, ?_, r5, ?_, (f5 _ _ _ (by omega)).trans (fX _ _ _ (by omega)), cn, fun b x y h1 => ?_⟩
  · unfold qf_X15_side_L14_b qf_X15_side_J88 qf_X15_side_J149
    rw [if_neg (show ¬ (1 : Int) = 0 by decide), if_pos b1, b2, opr_K b3]
    simp only [Option.bind_some]
    rw [if_pos trivial, if_pos trivial, if_pos trivial, if_pos (show opn (kd c) ≤ 0 by omega), if_pos ((kr_iff b3 (s := 41) (by unfold isG; decide)).mpr h41), if_neg (by omega), hu]
    simp only [Option.bind_some]
    unfold qbnd
    rw [hq, show q + 1 - 1 = q by omega, w32_id (x := q) (by omega) (by omega), hX]
    (try dsimp only)
    rw [e5, w32_id (x := d - 1) (by omega) (by omega)]
    rfl
  · rw [f5 _ _ _ (by omega), ← hX]
    exact qw_s
  · rw [f5 b x y (by omega)]
    exact fX b x y (by omega)
theorem stop_step (h : RWD T L kd vl pl n c Z) (h63 : kd c ≠ 63) (ho : opn (kd c) = 0) (h41 : kd c ≠ 41 ∨ d ≤ 0) : qf_X15_side_L14_b 20000 d f 0 1 Z = some (.inr (d, f, 0, 0, qw Z 2184 31 0 (if d ≤ 0 then 0 else 1))) := by
  obtain ⟨b1, b2, b3, b4⟩ := rwd_k h h63
  have j296 : qf_X15_side_J296 20000 d f 0 Z = some (.inr (d, f, 0, 0, qw Z 2184 31 0 (if d ≤ 0 then 0 else 1))) := by
    unfold qf_X15_side_J296 qf_X15_side_J306 qbnd
    by_cases g : d ≤ 0
    · rw [if_pos g, if_pos g, if_pos (Or.inl rfl : (0 : Int) = 0 ∨ (0 : Int) = 1)]
    · rw [if_neg g, if_neg g, if_pos (Or.inr rfl : (1 : Int) = 0 ∨ (1 : Int) = 1)]
  unfold qf_X15_side_L14_b qf_X15_side_J88 qf_X15_side_J149
  rw [if_neg (show ¬ (1 : Int) = 0 by decide), if_pos b1, b2, opr_K b3]
  simp only [Option.bind_some]
  rw [if_pos trivial, if_pos trivial, if_pos trivial, if_pos (show opn (kd c) ≤ 0 by omega), j296]
  by_cases g : kr (kd c) = 41
  · have g41 := (kr_iff b3 (s := 41) (by unfold isG; decide)).mp g
    rw [if_pos g, if_pos (by omega)]
  · rw [if_neg g]
end WDl
