/-! ===== the bus: a character is taken ===== -/
section BUl
variable {M K M' K' Ka Z A W : qm} {a b i j k v w x y s t I β R u c E : Int} {n m r : Nat} {f g : Int → Int}
theorem r26_K (hx : K 2252 28 0 = x) (x0 : 1 ≤ x) (x1 : x ≤ 179990) (ho : ∀ u, 1 ≤ u → u ≤ x + 10 → K 2253 u 0 = 0 ∨ K 2253 u 0 = 1) : ∀ (m N : Nat) (i : Int), m ≤ 8 → m < N → 0 ≤ i → i < ((2 ^ (8 - m) : Nat) : Int) → qf_X12_reads_L26 20000 N i m K = some (.inr (i * ((2 ^ m : Nat) : Int) + bin (fun k => K 2253 (x + 1 + k) 0) m)) := by
  intro m
  induction m with
  | zero =>
    intro N i m8 mN i0 i1
    obtain ⟨N', rfl⟩ : ∃ N', N = N' + 1 := ⟨N - 1, by omega⟩
    show qloop _ (N' + 1) (i, ((0 : Nat) : Int)) = _
    rw [qloop.eq_2]
    (try dsimp only)
    have b : qf_X12_reads_L26_b 20000 i ((0 : Nat) : Int) K = some (.inl (.inr i)) := by
      unfold qf_X12_reads_L26_b
      rw [if_pos (show ((0 : Nat) : Int) ≤ 0 by omega)]
    rw [b]
    show some (Sum.inr i) = some (Sum.inr (i * 1 + 0))
    rw [Int.mul_one, Int.add_zero]
  | succ m ih =>
    intro N i m8 mN i0 i1
    obtain ⟨N', rfl⟩ : ∃ N', N = N' + 1 := ⟨N - 1, by omega⟩
    have p : ((2 ^ (8 - m) : Nat) : Int) = 2 * ((2 ^ (8 - (m + 1)) : Nat) : Int) := by
      rw [show 8 - m = (8 - (m + 1)) + 1 by omega, Nat.pow_succ]
      omega
    have p8 : ((2 ^ (8 - (m + 1)) : Nat) : Int) ≤ 256 := by
      have q : 2 ^ (8 - (m + 1)) ≤ 2 ^ 8 := Nat.pow_le_pow_right (by decide) (by omega)
      have q2 : (2 : Nat) ^ 8 = 256 := by decide
      omega
    obtain ⟨mi, hmi⟩ : ∃ mi : Int, ((m + 1 : Nat) : Int) = mi := ⟨_, rfl⟩
    obtain ⟨o, hoo⟩ : ∃ o, K 2253 (x + mi) 0 = o := ⟨_, rfl⟩
    have o01 := ho (x + mi) (by omega) (by omega)
    rw [hoo] at o01
    have b : qf_X12_reads_L26_b 20000 i mi K = some (.inr (2 * i + o, mi - 1)) := by
      unfold qf_X12_reads_L26_b qf_X12_reads_J52
      rw [if_neg (show ¬ mi ≤ 0 by omega), hx, w32_id (x := x + mi) (by omega) (by omega), if_pos (show 0 ≤ x + mi ∧ x + mi < 180001 by omega), hoo, w32_id (x := 2 * i) (by omega) (by omega), w32_id (x := mi - 1) (by omega) (by omega)]
      rcases o01 with z | z
      · rw [if_pos z, w32_id (x := 2 * i + 0) (by omega) (by omega), z]
      · rw [if_neg (by omega), w32_id (x := 2 * i + 1) (by omega) (by omega), z]
    rw [hmi]
    show qloop _ (N' + 1) (i, mi) = _
    rw [qloop.eq_2]
    (try dsimp only)
    rw [b]
    have r := ih N' (2 * i + o) (by omega) (by omega) (by omega) (by omega)
    rw [show (m : Int) = mi - 1 by omega] at r
    refine Eq.trans r ?_
    show some (Sum.inr ((2 * i + o) * ((2 ^ m : Nat) : Int) + bin (fun k => K 2253 (x + 1 + k) 0) m)) = some (Sum.inr (i * ((2 ^ (m + 1) : Nat) : Int) + (bin (fun k => K 2253 (x + 1 + k) 0) m + K 2253 (x + 1 + (m : Int)) 0 * ((2 ^ m : Nat) : Int))))
    rw [show x + 1 + (m : Int) = x + mi by omega, hoo]
    obtain ⟨P, hP⟩ : ∃ P : Int, ((2 ^ m : Nat) : Int) = P := ⟨_, rfl⟩
    have hP2 : ((2 ^ (m + 1) : Nat) : Int) = P * 2 := by
      rw [← hP, Nat.pow_succ]
      omega
    rw [hP2, hP, Int.add_mul, ← Int.mul_assoc i P 2, Int.mul_comm 2 i, Int.mul_assoc i 2 P, Int.mul_assoc i P 2, Int.mul_comm 2 P]
    refine congrArg some (congrArg Sum.inr ?_)
    omega
/-- eleven bits: the byte, the parity bit, the last one -/
theorem bin_11 (h : ∀ k : Int, 0 ≤ k → k < 11 → f k = 0 ∨ f k = 1) : ∃ x v : Nat, x < 2048 ∧ v < 256 ∧ bin f 11 = x ∧ bin (fun k => f (1 + k)) 8 = v ∧ x / 2 % 256 = v ∧ ((x / 512 % 2 : Nat) : Int) = f 9 ∧ ((x / 1024 % 2 : Nat) : Int) = f 10 := by
  have hb : ∀ k : Int, 0 ≤ k → k < 11 → 0 ≤ f k ∧ f k ≤ 1 := fun k k0 k1 => by
    have := h k k0 k1
    omega
  have h0 := hb 0 (by decide) (by decide)
  have h1 := hb 1 (by decide) (by decide)
  have h2 := hb 2 (by decide) (by decide)
  have h3 := hb 3 (by decide) (by decide)
  have h4 := hb 4 (by decide) (by decide)
  have h5 := hb 5 (by decide) (by decide)
  have h6 := hb 6 (by decide) (by decide)
  have h7 := hb 7 (by decide) (by decide)
  have h8 := hb 8 (by decide) (by decide)
  have h9 := hb 9 (by decide) (by decide)
  have h10 := hb 10 (by decide) (by decide)
  have e : bin f 11 = f 0 * 1 + f 1 * 2 + f 2 * 4 + f 3 * 8 + f 4 * 16 + f 5 * 32 + f 6 * 64 + f 7 * 128 + f 8 * 256 + f 9 * 512 + f 10 * 1024 := by
    show 0 + f 0 * 1 + f 1 * 2 + f 2 * 4 + f 3 * 8 + f 4 * 16 + f 5 * 32 + f 6 * 64 + f 7 * 128 + f 8 * 256 + f 9 * 512 + f 10 * 1024 = _
    rw [Int.zero_add]
  have e2 : bin (fun k => f (1 + k)) 8 = f 1 * 1 + f 2 * 2 + f 3 * 4 + f 4 * 8 + f 5 * 16 + f 6 * 32 + f 7 * 64 + f 8 * 128 := by
    show 0 + f (1 + 0) * 1 + f (1 + 1) * 2 + f (1 + 2) * 4 + f (1 + 3) * 8 + f (1 + 4) * 16 + f (1 + 5) * 32 + f (1 + 6) * 64 + f (1 + 7) * 128 = _
    rw [Int.zero_add]
    rfl
  refine ⟨(bin f 11).toNat, (bin (fun k => f (1 + k)) 8).toNat, ?_, ?_, ?_, ?_, ?_, ?_, ?_⟩
  all_goals (try rw [e])
  all_goals (try rw [e2])
  all_goals clear e e2 hb h
  all_goals omega
/-- the class takes a character -/
theorem takeC_C {V P : Nat} (hb : M 1139 10 0 = V) (hV : V < 2048) (hP : V / 2 % 256 = P) (hc : M 1139 13 0 = c) (c0 : 0 ≤ c) (c1 : c < 600) : ∃ M', qf_X1_takeCharacter 20000 M = some ((), M') ∧ M' 1139 11 0 = (if ((V / 512 % 2 : Nat) : Int) = ((cnb P 8 % 2 : Nat) : Int) ∧ ¬ V / 1024 % 2 = 0 then M 1139 11 0 else 1) ∧ M' 1139 13 0 = c + 1 ∧ M' 1169 c 0 = P ∧ (∀ e x y, ¬ (e = 1139 ∧ (x = 11 ∨ x = 13)) → ¬ (e = 1169 ∧ x = c) → M' e x y = M e x y) := by
  have by_ := byt_e hV
  have P6 : P < 256 := by omega
  obtain ⟨p, hp1, hp2⟩ := par_C (n := P) (Z := M) P6
  rw [hP] at by_
  have j56 : ∀ Z : qm, Z 1139 13 0 = c → qf_X1_takeCharacter_J56 20000 P Z = some ((), qw (qw Z 1169 c 0 P) 1139 13 0 (c + 1)) := fun Z hZ => by
    unfold qf_X1_takeCharacter_J56 qbnd
    rw [hZ, if_neg (show ¬ 600 ≤ c by omega), if_pos (show 0 ≤ c ∧ c < 600 from ⟨c0, c1⟩)]
    (try dsimp only)
    rw [qw_a (show (1139 : Nat) ≠ 1169 by decide), hZ, w32_id (x := c + 1) (by omega) (by omega)]
  have st : qf_X1_takeCharacter 20000 M = (if ((V / 512 % 2 : Nat) : Int) = ((cnb P 8 % 2 : Nat) : Int) then if ((V / 1024 % 2 : Nat) : Int) = 0 then qf_X1_takeCharacter_J56 20000 P (qw M 1139 11 0 1) else qf_X1_takeCharacter_J56 20000 P M else qf_X1_takeCharacter_J56 20000 P (qw M 1139 11 0 1)) := by
    unfold qf_X1_takeCharacter qf_X1_takeCharacter_J51 qbnd
    rw [hb, by_.1, by_.2.1, by_.2.2, hp1]
    simp only [Option.bind_some]
    rw [hp2, hc, if_pos c1]
  have m13 : qw M 1139 11 0 1 1139 13 0 = c := (qw_i (by decide)).trans hc
  have bad : qf_X1_takeCharacter 20000 M = qf_X1_takeCharacter_J56 20000 P (qw M 1139 11 0 1) → ¬ (((V / 512 % 2 : Nat) : Int) = ((cnb P 8 % 2 : Nat) : Int) ∧ ¬ V / 1024 % 2 = 0) → ∃ M', qf_X1_takeCharacter 20000 M = some ((), M') ∧ M' 1139 11 0 = (if ((V / 512 % 2 : Nat) : Int) = ((cnb P 8 % 2 : Nat) : Int) ∧ ¬ V / 1024 % 2 = 0 then M 1139 11 0 else 1) ∧ M' 1139 13 0 = c + 1 ∧ M' 1169 c 0 = P ∧ (∀ e x y, ¬ (e = 1139 ∧ (x = 11 ∨ x = 13)) → ¬ (e = 1169 ∧ x = c) → M' e x y = M e x y) := fun e ng => by
    refine ⟨_, e.trans (j56 _ m13), ?_, qw_s, (qw_a (by decide)).trans qw_s, fun e x y z1 z2 => ?_⟩
    · rw [if_neg ng, qw_i (by decide), qw_a (by decide)]
      exact qw_s
    · rw [qw_ap, if_neg (by omega), qw_ap, if_neg (by omega), qw_ap, if_neg (by omega)]
  by_cases g1 : ((V / 512 % 2 : Nat) : Int) = ((cnb P 8 % 2 : Nat) : Int)
  · rw [if_pos g1] at st
    by_cases g2 : V / 1024 % 2 = 0
    · rw [if_pos (show ((V / 1024 % 2 : Nat) : Int) = 0 by omega)] at st
      exact bad st (fun z => z.2 g2)
    · rw [if_neg (show ¬ ((V / 1024 % 2 : Nat) : Int) = 0 by omega)] at st
      refine ⟨_, st.trans (j56 _ hc), ?_, qw_s, (qw_a (by decide)).trans qw_s, fun e x y z1 z2 => ?_⟩
      · rw [if_pos ⟨g1, g2⟩, qw_i (by decide)]
        exact qw_a (by decide)
      · rw [qw_ap, if_neg (by omega), qw_ap, if_neg (by omega)]
  · rw [if_neg g1] at st
    exact bad st (fun z => g1 z.1)
/-- the reference takes it -/
theorem takeC_K {P : Nat} (hk : K 2252 0 0 = t) (t2 : t ≤ 180000) (hx : K 2252 28 0 = x) (x0 : 1 ≤ x) (hxt : t = x + 10) (ho : ∀ u, 1 ≤ u → u ≤ t → K 2253 u 0 = 0 ∨ K 2253 u 0 = 1) (hP : bin (fun k => K 2253 (x + 1 + k) 0) 8 = P) (P6 : P < 256) (hc : K 2252 17 0 = c) (c0 : 0 ≤ c) (c1 : c < 600) (hbd : K 2252 19 0 = 0 ∨ K 2252 19 0 = 1) : ∃ K', qf_X12_reads 20000 K = some (0, K') ∧ K' 2252 19 0 = (if K 2253 (t - 1) 0 = ((cnb P 8 % 2 : Nat) : Int) ∧ ¬ K 2253 t 0 = 0 then K 2252 19 0 else 1) ∧ K' 2252 17 0 = c + 1 ∧ K' 2267 c 0 = P ∧ K' 2252 20 0 = t ∧ K' 2252 28 0 = 0 ∧ (∀ e x y, ¬ (e = 2252 ∧ (x = 17 ∨ x = 19 ∨ x = 20 ∨ x = 28)) → ¬ (e = 2267 ∧ x = c) → K' e x y = K e x y) := by
  have r := r26_K hx x0 (by omega) (fun u u0 u1 => ho u u0 (by omega)) 8 20000 0 (by decide) (by decide) (by decide) (by decide)
  rw [Int.zero_mul, Int.zero_add, hP] at r
  have r' : qf_X12_reads_L26 20000 20000 0 8 K = some (.inr (P : Int)) := r
  have cb := cnb_b (r := P) 8
  obtain ⟨Q, hQ⟩ : ∃ Q : Int, ((cnb P 8 : Nat) : Int) = Q := ⟨_, rfl⟩
  have hQ2 : ((cnb P 8 % 2 : Nat) : Int) = Q % 2 := by
    rw [← hQ]
    rfl
  have o1 := ho (t - 1) (by omega) (by omega)
  have o2 := ho t (by omega) (by omega)
  have j114 : ∀ w, w = 0 ∨ w = 1 → qf_X12_reads_J114 20000 P w K = some (0, qw (qw (qw (qw (qw K 2252 19 0 w) 2267 c 0 P) 2252 17 0 (c + 1)) 2252 20 0 t) 2252 28 0 0) := fun w hw => by
    unfold qf_X12_reads_J114 qbnd
    rw [if_pos hw]
    (try dsimp only)
    rw [show qw K 2252 19 0 w 2252 17 0 = c from (qw_i (by decide)).trans hc, if_pos (show 0 ≤ c ∧ c < 14000 by omega), show qw (qw K 2252 19 0 w) 2267 c 0 P 2252 17 0 = c from (qw_a (by decide)).trans ((qw_i (by decide)).trans hc), w32_id (x := c + 1) (by omega) (by omega), show qw (qw (qw K 2252 19 0 w) 2267 c 0 P) 2252 17 0 (c + 1) 2252 0 0 = t from (qw_i (by decide)).trans ((qw_a (by decide)).trans ((qw_i (by decide)).trans hk))]
  have st : qf_X12_reads 20000 K = qf_X12_reads_J114 20000 P (if K 2253 (t - 1) 0 = Q % 2 ∧ ¬ K 2253 t 0 = 0 then K 2252 19 0 else 1) K := by
    unfold qf_X12_reads
    rw [hx, hk, if_neg (show ¬ x ≤ 0 by omega), w32_id (x := x + 10) (by omega) (by omega), if_pos hxt, r']
    simp only [Option.bind_some]
    by_cases g0 : K 2252 19 0 = 0
    · rw [if_pos g0, w32_id (x := t - 1) (by omega) (by omega), if_pos (show 0 ≤ t - 1 ∧ t - 1 < 180001 by omega), ones_K P6]
      simp only [Option.bind_some]
      rw [hQ, tm_e (show 0 ≤ Q by omega), g0]
      have j94 : ∀ z, qf_X12_reads_J94 20000 P (K 2253 (t - 1) 0) z K = (if K 2253 (t - 1) 0 = z then if K 2253 t 0 = 0 then qf_X12_reads_J114 20000 P 1 K else qf_X12_reads_J114 20000 P 0 K else qf_X12_reads_J114 20000 P 1 K) := fun z => by
        unfold qf_X12_reads_J94 qf_X12_reads_J109
        rw [hk, if_pos (show 0 ≤ t ∧ t < 180001 by omega)]
      have fin : ∀ z, z = Q % 2 → qf_X12_reads_J94 20000 P (K 2253 (t - 1) 0) z K = qf_X12_reads_J114 20000 P (if K 2253 (t - 1) 0 = Q % 2 ∧ ¬ K 2253 t 0 = 0 then 0 else 1) K := fun z hz => by
        rw [j94, hz]
        by_cases g1 : K 2253 (t - 1) 0 = Q % 2
        · rw [if_pos g1]
          by_cases g2 : K 2253 t 0 = 0
          · rw [if_pos g2, if_neg (fun z => z.2 g2)]
          · rw [if_neg g2, if_pos ⟨g1, g2⟩]
        · rw [if_neg g1, if_neg (fun z => g1 z.1)]
      by_cases gq : Q % 2 = 1
      · rw [if_pos gq]
        exact fin 1 gq.symm
      · rw [if_neg gq]
        exact fin 0 (by omega)
    · rw [if_neg g0]
      unfold qf_X12_reads_J109
      have e1 : K 2252 19 0 = 1 := by omega
      rw [e1]
      have e2 : (if K 2253 (t - 1) 0 = Q % 2 ∧ ¬ K 2253 t 0 = 0 then (1 : Int) else 1) = 1 := by
        by_cases g : K 2253 (t - 1) 0 = Q % 2 ∧ ¬ K 2253 t 0 = 0
        · rw [if_pos g]
        · rw [if_neg g]
      rw [e2]
  obtain ⟨w, hw⟩ : ∃ w, (if K 2253 (t - 1) 0 = Q % 2 ∧ ¬ K 2253 t 0 = 0 then K 2252 19 0 else 1) = w := ⟨_, rfl⟩
  have w01 : w = 0 ∨ w = 1 := by
    rw [← hw]
    by_cases g : K 2253 (t - 1) 0 = Q % 2 ∧ ¬ K 2253 t 0 = 0
    · rw [if_pos g]
      exact hbd
    · rw [if_neg g]
      exact Or.inr rfl
  rw [hw] at st
  refine ⟨_, st.trans (j114 w w01), ?_, ?_, ?_, ?_, qw_s, fun e x y z1 z2 => ?_⟩
  · rw [hQ2, hw, qw_i (by decide), qw_i (by decide), qw_i (by decide), qw_a (by decide)]
    exact qw_s
  · rw [qw_i (by decide), qw_i (by decide)]
    exact qw_s
  · rw [qw_a (by decide), qw_a (by decide), qw_a (by decide)]
    exact qw_s
  · rw [qw_i (by decide)]
    exact qw_s
  · rw [qw_ap, if_neg (by omega), qw_ap, if_neg (by omega), qw_ap, if_neg (by omega), qw_ap, if_neg (by omega), qw_ap, if_neg (by omega)]
end BUl
