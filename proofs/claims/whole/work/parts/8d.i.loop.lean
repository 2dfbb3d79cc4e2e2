/-! ===== rules: the reference reads a side ===== -/
section WDi
variable {M K A Z D W W' Z2 : qm} {T kd vl pl : Int → Int} {F S : Int → Int × Int × List (Int × Int)} {r : Int × Int × List (Int × Int)} {L p q e k v i j x y z c d f n w t s a u ns d' f' w' t' : Int} {N m : Nat}
def VKD (k : Int) : Prop := k = 48 ∨ k = 97 ∨ k = 101 ∨ k = 108 ∨ k = 103 ∨ isG k
theorem kr_iff (hv : VKD k) (hs : isG s) : kr k = s ↔ k = s := by
  unfold kr
  unfold VKD isG at hv
  unfold isG at hs
  by_cases g1 : k = 48
  · rw [if_pos g1]
    constructor <;> intro h <;> omega
  · rw [if_neg g1]
    by_cases g2 : k = 97
    · rw [if_pos g2]
      constructor <;> intro h <;> omega
    · rw [if_neg g2]
      by_cases g3 : k = 101
      · rw [if_pos g3]
        constructor <;> intro h <;> omega
      · rw [if_neg g3]
        by_cases g4 : k = 108
        · rw [if_pos g4]
          constructor <;> intro h <;> omega
        · rw [if_neg g4]
          by_cases g5 : k = 103
          · rw [if_pos g5]
            constructor <;> intro h <;> omega
          · rw [if_neg g5]
theorem kr_small (hv : VKD k) : (kr k = 1 ↔ k = 48) ∧ (kr k = 2 ↔ k = 97) ∧ (kr k = 0 ↔ k = 101) ∧ (kr k = 316 ↔ k = 108) ∧ (kr k = 318 ↔ k = 103) := by
  unfold kr
  unfold VKD isG at hv
  by_cases g1 : k = 48
  · rw [if_pos g1]
    omega
  · rw [if_neg g1]
    by_cases g2 : k = 97
    · rw [if_pos g2]
      omega
    · rw [if_neg g2]
      by_cases g3 : k = 101
      · rw [if_pos g3]
        omega
      · rw [if_neg g3]
        by_cases g4 : k = 108
        · rw [if_pos g4]
          omega
        · rw [if_neg g4]
          by_cases g5 : k = 103
          · rw [if_pos g5]
            omega
          · rw [if_neg g5]
            omega
theorem wd2_k (h : WD2 T L q k v e) (h63 : k ≠ 63) : VKD k := by
  unfold WD2 at h
  unfold VKD
  rcases h with ⟨a, b, c⟩ | ⟨a, b, c⟩ | ⟨a, b, c⟩
  · left
    omega
  · right
    left
    omega
  · rcases c with ⟨d, e1, s⟩ | ⟨d, e1, s⟩
    · omega
    · rcases s with s | s
      · rw [s.2]
        exact Or.inr (Or.inr (Or.inr (Or.inr (Or.inr s.1))))
      · omega
/-- what is at hand -/
theorem rwd_k (h : RWD T L kd vl pl n c W) (h63 : kd c ≠ 63) : W 2184 31 0 = 0 ∧ W 2184 28 0 = kr (kd c) ∧ VKD (kd c) ∧ (kd c = 48 ∨ kd c = 97 → W 2184 29 0 = vl c) := by
  rcases h.2.2.2.2.2 with ⟨x, _⟩ | ⟨_, b1, b2, b3, b4⟩
  · exact absurd x h63
  · refine ⟨b1, b2, ?_, b3⟩
    by_cases g : kd c = 101
    · exact Or.inr (Or.inr (Or.inl g))
    · obtain ⟨_, _, e, c3, _⟩ := b4 g
      exact wd2_k c3 h63
theorem opr_K (hv : VKD k) : qf_X15_operation N (kr k) M = some (opn k) := by
  have a := kr_iff hv (s := 43) (by unfold isG; decide)
  have b := kr_iff hv (s := 45) (by unfold isG; decide)
  have c := kr_iff hv (s := 42) (by unfold isG; decide)
  have d := kr_iff hv (s := 47) (by unfold isG; decide)
  unfold qf_X15_operation opn
  by_cases g1 : k = 43
  · rw [if_pos (a.mpr g1), if_pos g1]
  · rw [if_neg (fun z => g1 (a.mp z)), if_neg g1]
    by_cases g2 : k = 45
    · rw [if_pos (b.mpr g2), if_pos g2]
    · rw [if_neg (fun z => g2 (b.mp z)), if_neg g2]
      by_cases g3 : k = 42
      · rw [if_pos (c.mpr g3), if_pos g3]
      · rw [if_neg (fun z => g3 (c.mp z)), if_neg g3]
        by_cases g4 : k = 47
        · rw [if_pos (d.mpr g4), if_pos g4]
        · rw [if_neg (fun z => g4 (d.mp z)), if_neg g4]
theorem opn_c : (k = 43 ∧ opn k = 2) ∨ (k = 45 ∧ opn k = 3) ∨ (k = 42 ∧ opn k = 4) ∨ (k = 47 ∧ opn k = 5) ∨ (k ≠ 43 ∧ k ≠ 45 ∧ k ≠ 42 ∧ k ≠ 47 ∧ opn k = 0) := by
  unfold opn
  by_cases g1 : k = 43
  · rw [if_pos g1]
    omega
  · rw [if_neg g1]
    by_cases g2 : k = 45
    · rw [if_pos g2]
      omega
    · rw [if_neg g2]
      by_cases g3 : k = 42
      · rw [if_pos g3]
        omega
      · rw [if_neg g3]
        by_cases g4 : k = 47
        · rw [if_pos g4]
          omega
        · rw [if_neg g4]
          omega
theorem sl_s (h : qf_X15_side_L14_b 20000 d f w t W = some (.inr (d', f', w', t', W'))) (N : Nat) : qf_X15_side_L14 20000 (N + 1) d f w t W = qf_X15_side_L14 20000 N d' f' w' t' W' := by
  show qloop _ (N + 1) (d, f, w, t, W) = _
  rw [qloop.eq_2]
  (try dsimp only)
  rw [h]
  rfl
theorem sl_bad (h : W 2184 31 0 = 1) (N : Nat) : qf_X15_side_L14 20000 (N + 1) d f w 1 W = some (.inr ((), W)) := by
  show qloop _ (N + 1) (d, f, w, 1, W) = _
  rw [qloop.eq_2]
  (try dsimp only)
  have : qf_X15_side_L14_b 20000 d f w 1 W = some (.inl (.inr ((), W))) := by
    unfold qf_X15_side_L14_b
    rw [if_neg (by decide), if_neg (show ¬ W 2184 31 0 = 0 by omega)]
  rw [this]
theorem sl_no (N : Nat) : qf_X15_side_L14 20000 (N + 1) d f w 0 W = some (.inr ((), W)) := by
  show qloop _ (N + 1) (d, f, w, 0, W) = _
  rw [qloop.eq_2]
  (try dsimp only)
  have : qf_X15_side_L14_b 20000 d f w 0 W = some (.inl (.inr ((), W))) := by
    unfold qf_X15_side_L14_b
    rw [if_pos rfl]
  rw [this]
def INV (c : Int) (W : qm) : Prop := 0 ≤ W 2184 36 0 ∧ W 2184 36 0 ≤ c ∧ 0 ≤ W 2184 34 0 ∧ W 2184 34 0 + W 2184 36 0 ≤ 2 * c
def BDS (pl : Int → Int) (Z : qm) (c : Int) : Prop := Z 2184 31 0 = 1 ∧ Z 2184 26 0 = pl c ∧ 0 ≤ Z 2184 36 0 ∧ Z 2184 36 0 ≤ 125 ∧ 0 ≤ Z 2184 34 0 ∧ Z 2184 34 0 + Z 2184 36 0 ≤ 250
/-- it ends, wrong, at word c' -/
def BADO (pl : Int → Int) (d f w : Int) (W : qm) (c c' : Int) : Prop := ∃ (k : Nat) (Z : qm), (k : Int) ≤ c' - c + 1 ∧ (∀ N, qf_X15_side_L14 20000 (N + k + 1) d f w 1 W = some (.inr ((), Z))) ∧ BDS pl Z c' ∧ SFR W Z (W 2184 34 0) (W 2184 36 0)
def BDO (kd pl : Int → Int) (d f w : Int) (W : qm) (c : Int) (r : Int × Int × List (Int × Int)) : Prop := (r.1 = 0 ∨ kd r.2.1 = 63) ∧ BADO pl d f w W c r.2.1
/-- a wrong word is at hand -/
theorem bad_at (h : RWD T L kd vl pl n c Z) (h63 : kd c = 63) (i1 : 0 ≤ Z 2184 36 0) (i2 : Z 2184 36 0 ≤ 125) (i3 : 0 ≤ Z 2184 34 0) (i4 : Z 2184 34 0 + Z 2184 36 0 ≤ 250) : BDS pl Z c ∧ ∀ d f w N, qf_X15_side_L14 20000 (N + 1) d f w 1 Z = some (.inr ((), Z)) := by
  have h1 : Z 2184 31 0 = 1 := by
    rcases h.2.2.2.2.2 with ⟨_, y⟩ | ⟨x, _⟩
    · exact y
    · exact absurd h63 x
  exact ⟨⟨h1, h.2.2.2.2.1, i1, i2, i3, i4⟩, fun d f w N => sl_bad h1 N⟩
/-- an operation's sign -/
theorem op_step (hW : WDS T L kd vl pl n) (h : RWD T L kd vl pl n c Z) (h63 : kd c ≠ 63) (ho : opn (kd c) = a) (a0 : 0 < a) (hu : qf_X15_unpile 20000 (if a ≤ 3 then 1 else 2) Z = some ((), Z2)) (uf : UFR Z Z2 ns) (hq : Z2 2184 36 0 = q) (q0 : 0 ≤ q) (q1 : q < 200) : ∃ Z5, qf_X15_side_L14_b 20000 d f 0 1 Z = some (.inr (d, 0, 1, 1, Z5)) ∧ RWD T L kd vl pl n (c + 1) Z5 ∧ Z5 2184 36 0 = q + 1 ∧ Z5 2184 34 0 = Z2 2184 34 0 ∧ Z5 2205 q 0 = a ∧ c < n ∧ (∀ b x y, ¬ (b = 2184 ∧ ((26 ≤ x ∧ x ≤ 31) ∨ x = 36)) → ¬ (b = 2205 ∧ x = q) → Z5 b x y = Z2 b x y) := by
  obtain ⟨b1, b2, b3, b4⟩ := rwd_k h h63
  have oc := opn_c (k := kd c)
  obtain ⟨X, hX⟩ : ∃ X, qw (qw Z2 2205 q 0 a) 2184 36 0 (q + 1) = X := ⟨_, rfl⟩
  have fX : ∀ b x y, ¬ (b = 2184 ∧ x = 36) → ¬ (b = 2205 ∧ x = q) → X b x y = Z2 b x y := fun b x y h1 h2 => by
    rw [← hX, qw_ap, if_neg (by omega), qw_ap, if_neg (by omega)]
  have wX : RWD T L kd vl pl n c X := rwd_fr (ufr_wd uf h) (fun b x y z => fX b x y (by omega) (by omega))
  obtain ⟨Z5, e5, f5, r5, cn⟩ := take1_K hW wX h63 (by omega)
  have j221 : ∀ tt, (if a ≤ 3 then (1 : Int) else 2) = tt → qf_X15_side_J221 20000 d 1 a tt Z = some (.inr (d, 0, 1, 1, Z5)) := fun tt z => by
    rw [← z]
    unfold qf_X15_side_J221 qbnd
    rw [hu]
    simp only [Option.bind_some]
    rw [hq, if_pos ⟨q0, q1⟩, show qw Z2 2205 q 0 a 2184 36 0 = q from (qw_a (by decide)).trans hq, w32_id (x := q + 1) (by omega) (by omega), hX, e5]
    rfl
  refine ⟨Z5, ?_, r5, ?_, ?_, ?_, cn, fun b x y h1 h2 => ?_⟩
  · unfold qf_X15_side_L14_b qf_X15_side_J88 qf_X15_side_J149
    rw [if_neg (by decide), if_pos b1, b2, opr_K b3]
    simp only [Option.bind_some]
    rw [if_pos trivial, if_pos trivial, if_pos trivial, ho, if_neg (by omega)]
    by_cases g : a ≤ 3
    · rw [if_pos g]
      exact j221 1 (if_pos g)
    · rw [if_neg g]
      exact j221 2 (if_neg g)
  · rw [f5 _ _ _ (by omega), ← hX]
    exact qw_s
  · rw [f5 _ _ _ (by omega)]
    exact fX _ _ _ (by omega) (by omega)
  · rw [f5 _ _ _ (by omega), ← hX, qw_a (by decide)]
    exact qw_s
  · rw [f5 b x y (by omega)]
    exact fX b x y (by omega) (by omega)
/-- a term so far -/
def GTK (T : Int → Int) (L : Int) (kd vl pl : Int → Int) (n d f : Int) (W : qm) (c : Int) (r : Int × Int × List (Int × Int)) : Prop := r.1 = 1 ∧ kd r.2.1 ≠ 63 ∧ ∃ (k : Nat) (f' : Int) (Z : qm) (pm : Int) (e : List (Int × Int)), (k : Int) ≤ r.2.1 - c ∧ (∀ N, qf_X15_side_L14 20000 (N + k) d f 1 1 W = qf_X15_side_L14 20000 N d f' 0 1 Z) ∧ RWD T L kd vl pl n r.2.1 Z ∧ INV r.2.1 Z ∧ (pm = 0 ∨ pm = 4 ∨ pm = 5) ∧ Z 2184 36 0 = W 2184 36 0 + on1 pm ∧ (pm ≠ 0 → Z 2205 (W 2184 36 0) 0 = pm) ∧ r.2.2 = e ++ opl pm ∧ Z 2184 34 0 = W 2184 34 0 + e.length ∧ RAT Z (400 + W 2184 34 0) e ∧ SFR W Z (W 2184 34 0) (W 2184 36 0)
/-- a factor -/
def GFK (T : Int → Int) (L : Int) (kd vl pl : Int → Int) (n d f : Int) (W : qm) (c : Int) (r : Int × Int × List (Int × Int)) : Prop := r.1 = 1 ∧ kd r.2.1 ≠ 63 ∧ ∃ (k : Nat) (f' : Int) (Z : qm), (k : Int) ≤ r.2.1 - c ∧ (∀ N, qf_X15_side_L14 20000 (N + k) d f 1 1 W = qf_X15_side_L14 20000 N d f' 0 1 Z) ∧ RWD T L kd vl pl n r.2.1 Z ∧ INV r.2.1 Z ∧ Z 2184 36 0 = W 2184 36 0 ∧ Z 2184 34 0 = W 2184 34 0 + r.2.2.length ∧ RAT Z (400 + W 2184 34 0) r.2.2 ∧ SFR W Z (W 2184 34 0) (W 2184 36 0)
def SIMF (T : Int → Int) (L : Int) (kd vl pl : Int → Int) (n d : Int) (F : Int → Int × Int × List (Int × Int)) : Prop := ∀ c f W, 0 ≤ c → c ≤ n → RWD T L kd vl pl n c W → kd c ≠ 63 → (f = 0 ∨ (f = 1 ∧ kd c ≠ 45)) → INV c W → GFK T L kd vl pl n d f W c (F c) ∨ BDO kd pl d f 1 W c (F c)
def TOP3 (W : qm) : Prop := W 2184 36 0 = 0 ∨ W 2205 (W 2184 36 0 - 1) 0 ≤ 3
theorem bad_more {k : Nat} {c1 c2 : Int} (h1 : (k : Int) ≤ c1 - c) (h2 : ∀ N, qf_X15_side_L14 20000 (N + k) d f w 1 W = qf_X15_side_L14 20000 N d' f' w' 1 Z) (h3 : BADO pl d' f' w' Z c1 c2) (h4 : SFR W Z (W 2184 34 0) (W 2184 36 0)) (h5 : W 2184 34 0 ≤ Z 2184 34 0) (h6 : W 2184 36 0 ≤ Z 2184 36 0) : BADO pl d f w W c c2 := by
  obtain ⟨k', Y, y1, y2, y3, y4⟩ := h3
  refine ⟨k + k', Y, by omega, fun N => ?_, y3, sfr_t h4 y4 h5 h6⟩
  rw [show N + (k + k') + 1 = (N + k' + 1) + k by omega, h2, y2]
end WDi
