/-! ===== the bus: bits of bytes ===== -/
section BUa
variable {M K Z : qm} {a b i j k v w x y : Int} {c m n r s : Nat} {f g : Int → Int}
/-- bit k of a character -/
def chB (v k : Nat) : Int := if k = 0 then 0 else if k ≤ 8 then (if bitN v (k - 1) then 1 else 0) else if k = 9 then ((cnb v 8 % 2 : Nat) : Int) else 1
theorem chB_all : ((List.range 256).all (fun v => (List.range 13).all (fun k => qf_X1_characterBit 20000 (v : Int) (k : Int) (fun _ _ _ => 0) == some (chB v k)))) = true := by decide +kernel
theorem chB_01 : ((List.range 256).all (fun v => (List.range 13).all (fun k => chB v k == 0 || chB v k == 1))) = true := by decide +kernel
theorem chB_C (hv : n < 256) (hk : s < 13) : qf_X1_characterBit 20000 n s Z = some (chB n s) := by
  have e : qf_X1_characterBit 20000 (n : Int) (s : Int) Z = qf_X1_characterBit 20000 n s (fun _ _ _ => 0) := rfl
  rw [e]
  exact beq_iff_eq.mp (all_2 (f := fun v k => qf_X1_characterBit 20000 (v : Int) (k : Int) (fun _ _ _ => 0) == some (chB v k)) chB_all hv hk)
theorem chB_b (hv : n < 256) (hk : s < 13) : chB n s = 0 ∨ chB n s = 1 := by
  have q := all_2 (f := fun v k => chB v k == 0 || chB v k == 1) chB_01 hv hk
  simpa using q
theorem bit8_all : ((List.range 256).all (fun x => (List.range 8).all (fun i => bA (bR (x : Int) (i : Int)) 1 == (if bitN x i then 1 else 0)))) = true := by decide +kernel
theorem bit8_e (hx : n < 256) (hi : m < 8) : bA (bR (n : Int) (m : Int)) 1 = (if bitN n m then 1 else 0) := beq_iff_eq.mp (all_2 (f := fun x i => bA (bR (x : Int) (i : Int)) 1 == (if bitN x i then 1 else 0)) bit8_all hx hi)
theorem ones_K (hx : r < 256) : qf_X12_ones 20000 r Z = some ((cnb r 8 : Nat) : Int) := by
  obtain ⟨o, e1, ho⟩ : qW (qf_X12_ones_L4 20000 20000 r 0 0 Z) (fun o => o = .inr ((cnb r 8 : Nat) : Int)) := by
    unfold qf_X12_ones_L4
    refine qW_for 8 (fun i s => s = ((r : Int), ((cnb r i.toNat : Nat) : Int), i)) ?_ ?_ rfl (by omega) (by omega)
    · rintro i _ i0 i1 rfl
      obtain ⟨I, rfl⟩ : ∃ I : Nat, i = I := ⟨i.toNat, by omega⟩
      have cb := cnb_b (r := r) I
      show qW (qf_X12_ones_L4_b 20000 r ((cnb r ((I : Int)).toNat : Nat) : Int) I Z) _
      unfold qf_X12_ones_L4_b
      rw [if_neg (show ¬ (8 : Int) ≤ (I : Int) by omega), show ((I : Int)).toNat = I by omega, bit8_e hx (show I < 8 by omega), w32_id (x := (I : Int) + 1) (by omega) (by omega)]
      have e : w32 (((cnb r I : Nat) : Int) + (if bitN r I = true then 1 else 0)) = ((cnb r (I + 1) : Nat) : Int) := by
        show _ = ((cnb r I + (if bitN r I then 1 else 0) : Nat) : Int)
        by_cases g : bitN r I = true
        · rw [if_pos g, if_pos g, w32_id (by omega) (by omega)]
          rfl
        · rw [if_neg g, if_neg g, w32_id (by omega) (by omega)]
          rfl
      rw [e]
      refine qW_some ?_
      rw [show ((I : Int) + 1).toNat = I + 1 by omega]
    · rintro _ rfl
      show qW (qf_X12_ones_L4_b 20000 r ((cnb r ((8 : Int)).toNat : Nat) : Int) 8 Z) _
      unfold qf_X12_ones_L4_b
      rw [if_pos (by omega)]
      exact qW_some rfl
  unfold qf_X12_ones
  rw [e1, ho]
  rfl
theorem chB_K (hv : n < 256) (hk : s < 11) : qf_X12_letterBit 20000 n s Z = some (chB n s) := by
  unfold qf_X12_letterBit chB
  by_cases g9 : s = 9
  · rw [if_pos (show (s : Int) = 9 by omega), ones_K hv]
    simp only [Option.bind_some]
    rw [if_neg (show ¬ s = 0 by omega), if_neg (show ¬ s ≤ 8 by omega), if_pos g9, Int.tmod_eq_emod_of_nonneg (by omega)]
    by_cases h : ((cnb n 8 : Nat) : Int) % 2 = 1
    · rw [if_pos h]
      refine congrArg some ?_
      omega
    · rw [if_neg h]
      refine congrArg some ?_
      omega
  · rw [if_neg (show ¬ (s : Int) = 9 by omega)]
    by_cases g0 : s = 0
    · rw [if_pos (show (s : Int) ≤ 0 by omega), if_pos g0]
    · rw [if_neg (show ¬ (s : Int) ≤ 0 by omega), if_neg g0]
      by_cases g10 : s = 10
      · rw [if_pos (show (s : Int) = 10 by omega), if_neg (show ¬ s ≤ 8 by omega), if_neg g9]
      · rw [if_neg (show ¬ (s : Int) = 10 by omega), if_pos (show s ≤ 8 by omega), w32_id (x := (s : Int) - 1) (by omega) (by omega), show (s : Int) - 1 = ((s - 1 : Nat) : Int) by omega, bit8_e hv (show s - 1 < 8 by omega)]
        by_cases h : bitN n (s - 1) = true
        · rw [if_pos h, if_pos rfl]
        · rw [if_neg h, if_neg (by decide)]
/-- bits gathered, the first the least -/
def bin (f : Int → Int) : Nat → Int
  | 0 => 0
  | n + 1 => bin f n + f n * ((2 ^ n : Nat) : Int)
theorem bin_c : ∀ n : Nat, (∀ k : Int, 0 ≤ k → k < n → f k = g k) → bin f n = bin g n := by
  intro n
  induction n with
  | zero => exact fun _ => rfl
  | succ n ih =>
    intro h
    unfold bin
    rw [ih (fun k k0 k1 => h k k0 (by omega)), h n (by omega) (by omega)]
theorem bin_b : ∀ n : Nat, (∀ k : Int, 0 ≤ k → k < n → f k = 0 ∨ f k = 1) → 0 ≤ bin f n ∧ bin f n < ((2 ^ n : Nat) : Int) := by
  intro n
  induction n with
  | zero =>
    intro _
    exact ⟨Int.le_refl 0, by show (0 : Int) < ((2 ^ 0 : Nat) : Int); decide⟩
  | succ n ih =>
    intro h
    have q := ih (fun k k0 k1 => h k k0 (by omega))
    have e : ((2 ^ (n + 1) : Nat) : Int) = 2 * ((2 ^ n : Nat) : Int) := by
      rw [Nat.pow_succ]
      omega
    unfold bin
    rw [e]
    rcases h n (by omega) (by omega) with z | z
    · rw [z, Int.zero_mul]
      omega
    · rw [z, Int.one_mul]
      omega
theorem bor_all : ((List.range 11).all (fun h => (List.range (2 ^ h)).all (fun x => (List.range 2).all (fun l => bO (x : Int) (bL (l : Int) (h : Int)) == (x : Int) + (l : Int) * ((2 ^ h : Nat) : Int))))) = true := by decide +kernel
theorem bor_e (hm : m < 11) (hn : n < 2 ^ m) (hs : s < 2) : bO (n : Int) (bL (s : Int) (m : Int)) = (n : Int) + (s : Int) * ((2 ^ m : Nat) : Int) := by
  have h := bor_all
  rw [List.all_eq_true] at h
  have h1 := h m (List.mem_range.mpr hm)
  rw [List.all_eq_true] at h1
  have h2 := h1 n (List.mem_range.mpr hn)
  rw [List.all_eq_true] at h2
  exact beq_iff_eq.mp (h2 s (List.mem_range.mpr hs))
theorem byt_all : ((List.range 2048).all (fun x => (List.range 1).all (fun _ => bA (bR (x : Int) 1) 255 == ((x / 2 % 256 : Nat) : Int) && bA (bR (x : Int) 9) 1 == ((x / 512 % 2 : Nat) : Int) && bA (bR (x : Int) 10) 1 == ((x / 1024 % 2 : Nat) : Int)))) = true := by decide +kernel
theorem byt_e (h : n < 2048) : bA (bR (n : Int) 1) 255 = ((n / 2 % 256 : Nat) : Int) ∧ bA (bR (n : Int) 9) 1 = ((n / 512 % 2 : Nat) : Int) ∧ bA (bR (n : Int) 10) 1 = ((n / 1024 % 2 : Nat) : Int) := by
  have q := all_2 (m := 0) (f := fun x _ => bA (bR (x : Int) 1) 255 == ((x / 2 % 256 : Nat) : Int) && bA (bR (x : Int) 9) 1 == ((x / 512 % 2 : Nat) : Int) && bA (bR (x : Int) 10) 1 == ((x / 1024 % 2 : Nat) : Int)) byt_all h (by decide)
  rw [Bool.and_eq_true, Bool.and_eq_true] at q
  exact ⟨beq_iff_eq.mp q.1.1, beq_iff_eq.mp q.1.2, beq_iff_eq.mp q.2⟩
theorem par_all : ((List.range 256).all (fun v => (List.range 1).all (fun _ => (match qf_J6_bitCount_0f7a4 20000 (v : Int) (fun _ _ _ => 0) with | some p => bA p 1 == ((cnb v 8 % 2 : Nat) : Int) | none => false)))) = true := by decide +kernel
theorem par_C (hv : n < 256) : ∃ p, qf_J6_bitCount_0f7a4 20000 n Z = some p ∧ bA p 1 = ((cnb n 8 % 2 : Nat) : Int) := by
  have q := all_2 (m := 0) (f := fun v _ => (match qf_J6_bitCount_0f7a4 20000 (v : Int) (fun _ _ _ => 0) with | some p => bA p 1 == ((cnb v 8 % 2 : Nat) : Int) | none => false)) par_all hv (by decide)
  have e : qf_J6_bitCount_0f7a4 20000 (n : Int) Z = qf_J6_bitCount_0f7a4 20000 n (fun _ _ _ => 0) := rfl
  rw [e]
  cases hq : qf_J6_bitCount_0f7a4 20000 (n : Int) (fun _ _ _ => 0) with
  | none =>
    rw [hq] at q
    cases q
  | some p =>
    rw [hq] at q
    exact ⟨p, rfl, beq_iff_eq.mp q⟩
theorem i32_q (z : Int32) : -2147483648 ≤ z.toInt ∧ z.toInt < 2147483648 := ⟨Int32.le_toInt z, Int32.toInt_lt z⟩
theorem i32_i (h0 : -2147483648 ≤ a) (h1 : a < 2147483648) : (Int32.ofInt a).toInt = a := by
  rw [Int32.toInt_ofInt]
  exact (bm32 a).trans (w32_id h0 h1)
theorem bX_r : -2147483648 ≤ bX a b ∧ bX a b < 2147483648 := i32_q _
theorem bX_z (a0 : -2147483648 ≤ a) (a1 : a < 2147483648) (b0 : -2147483648 ≤ b) (b1 : b < 2147483648) : bX a b = 0 ↔ a = b := by
  constructor
  · intro h
    have h1 : (Int32.ofInt a ^^^ Int32.ofInt b) = 0 := Int32.toInt_inj.mp h
    have h2 : Int32.ofInt a = Int32.ofInt b := Int32.xor_eq_zero_iff.mp h1
    have h3 := congrArg Int32.toInt h2
    rw [i32_i a0 a1, i32_i b0 b1] at h3
    exact h3
  · intro h
    rw [h]
    unfold bX
    rw [Int32.xor_self]
    rfl
theorem xrF_r : ∀ n : Nat, -2147483648 ≤ xrF f n ∧ xrF f n < 2147483648 := by
  intro n
  cases n with
  | zero =>
    show -2147483648 ≤ (255 : Int) ∧ (255 : Int) < 2147483648
    omega
  | succ n => exact bX_r
theorem bX_n (ha : n < 256) (hb : m < 256) : 0 ≤ bX n m ∧ bX n m < 256 := by
  have e : ∀ k : Nat, k < 256 → (Int32.ofInt (k : Int)).toBitVec.toNat = k := fun k hk => by
    show (BitVec.ofInt 32 (k : Int)).toNat = k
    rw [BitVec.toNat_ofInt]
    omega
  have h : (Int32.ofInt (n : Int) ^^^ Int32.ofInt (m : Int)).toBitVec.toNat = n ^^^ m := by
    rw [Int32.toBitVec_xor, BitVec.toNat_xor, e n ha, e m hb]
  have lt : n ^^^ m < 256 := Nat.xor_lt_two_pow (n := 8) ha hb
  have t : bX n m = ((n ^^^ m : Nat) : Int) := by
    show (Int32.ofInt (n : Int) ^^^ Int32.ofInt (m : Int)).toBitVec.toInt = _
    rw [BitVec.toInt_eq_toNat_of_lt (by rw [h]; omega), h]
  omega
theorem xrF_b : ∀ n : Nat, (∀ k : Int, 0 ≤ k → k < n → 0 ≤ f k ∧ f k < 256) → 0 ≤ xrF f n ∧ xrF f n < 256 := by
  intro n
  induction n with
  | zero =>
    intro _
    show 0 ≤ (255 : Int) ∧ (255 : Int) < 256
    omega
  | succ n ih =>
    intro h
    have q := ih (fun k k0 k1 => h k k0 (by omega))
    have r := h n (by omega) (by omega)
    show 0 ≤ bX (xrF f n) (f n) ∧ bX (xrF f n) (f n) < 256
    have z := bX_n (n := (xrF f n).toNat) (m := (f n).toNat) (by omega) (by omega)
    rw [show (((xrF f n).toNat : Nat) : Int) = xrF f n by omega, show (((f n).toNat : Nat) : Int) = f n by omega] at z
    exact z
end BUa
