/-! ===== bits of a long ===== -/
def bt (x n : Int) : Bool := (Int64.ofInt x).toBitVec.getLsbD n.toNat
theorem bs_and : ∀ k : Nat, k < 64 → (Int64.ofInt (k : Int) &&& 63) = Int64.ofNat k := by decide +kernel
theorem bs_sm : ∀ k : Nat, k < 64 → (Int64.ofNat k).toBitVec.smod 64 = BitVec.ofNat 64 k := by decide +kernel
theorem bs_1 {i : Nat} (hi : i < 64) : (Int64.ofInt 1).toBitVec.getLsbD i = decide (i = 0) := by
  revert i
  decide +kernel
theorem bs_m {i : Nat} (hi : i < 64) : (Int64.ofInt (-1)).toBitVec.getLsbD i = true := by
  revert i
  decide +kernel
theorem bs_01 {i : Nat} {b : Bool} (hi : i < 64) : (if b = true then (1 : Int64) else 0).toBitVec.getLsbD i = (decide (i = 0) && b) := by
  cases b
  · revert i
    decide +kernel
  · revert i
    decide +kernel
theorem bs_r {X : Int64} {k : Nat} (hk : k < 64) : (X >>> Int64.ofNat k).toBitVec = X.toBitVec.sshiftRight k := by
  show X.toBitVec.sshiftRight' ((Int64.ofNat k).toBitVec.smod 64) = _
  rw [bs_sm k hk, BitVec.sshiftRight'_ofNat_eq_sshiftRight, Nat.mod_eq_of_lt (by omega)]
theorem bs_l0 : ∀ k : Nat, k < 64 → ∀ i : Nat, i < 64 → (Int64.ofInt 1 <<< Int64.ofNat k).toBitVec.getLsbD i = decide (i = k) := by decide +kernel
theorem bs_l {k i : Nat} (hk : k < 64) (hi : i < 64) : (Int64.ofInt 1 <<< Int64.ofNat k).toBitVec.getLsbD i = decide (i = k) := bs_l0 k hk i hi
theorem bt_r {x n : Int} (h0 : 0 ≤ n) (h1 : n < 64) : lA (lR x n) 1 = if bt x n = true then 1 else 0 := by
  obtain ⟨k, rfl⟩ : ∃ k : Nat, n = k := ⟨n.toNat, by omega⟩
  have hk : k < 64 := by omega
  have key : (Int64.ofInt x >>> Int64.ofNat k) &&& Int64.ofInt 1 = if bt x k = true then 1 else 0 := by
    apply Int64.toBitVec.inj
    apply BitVec.eq_of_getLsbD_eq
    intro i hi
    rw [bs_01 hi]
    show ((Int64.ofInt x >>> Int64.ofNat k).toBitVec &&& (Int64.ofInt 1).toBitVec).getLsbD i = _
    rw [BitVec.getLsbD_and, bs_1 hi, bs_r hk, BitVec.getLsbD_sshiftRight]
    unfold bt
    by_cases e : i = 0
    · subst e
      have h2 : k + 0 < 64 := by omega
      simp [hk]
    · simp [e]
  unfold lA lR
  rw [bs_and k hk, Int64.ofInt_toInt, key]
  by_cases e : bt x k = true
  · rw [if_pos e, if_pos e]
    rfl
  · rw [if_neg e, if_neg e]
    rfl
theorem bt_o {x n k : Int} (h0 : 0 ≤ n) (h1 : n < 64) (k0 : 0 ≤ k) (k1 : k < 64) : bt (lO x (lL 1 n)) k = (bt x k || decide (k = n)) := by
  obtain ⟨n, rfl⟩ : ∃ m : Nat, n = m := ⟨n.toNat, by omega⟩
  obtain ⟨k, rfl⟩ : ∃ m : Nat, k = m := ⟨k.toNat, by omega⟩
  unfold bt lO lL
  rw [bs_and n (by omega), Int64.ofInt_toInt, Int64.ofInt_toInt]
  show ((Int64.ofInt x).toBitVec ||| (Int64.ofInt 1 <<< Int64.ofNat n).toBitVec).getLsbD k = _
  rw [BitVec.getLsbD_or, bs_l (by omega) (by omega)]
  congr 1
  exact decide_eq_decide.mpr (by omega)
theorem bt_a {x n k : Int} (h0 : 0 ≤ n) (h1 : n < 64) (k0 : 0 ≤ k) (k1 : k < 64) : bt (lA x (lX (lL 1 n) (-1))) k = (bt x k && !decide (k = n)) := by
  obtain ⟨n, rfl⟩ : ∃ m : Nat, n = m := ⟨n.toNat, by omega⟩
  obtain ⟨k, rfl⟩ : ∃ m : Nat, k = m := ⟨k.toNat, by omega⟩
  unfold bt lA lX lL
  rw [bs_and n (by omega), Int64.ofInt_toInt, Int64.ofInt_toInt, Int64.ofInt_toInt]
  show ((Int64.ofInt x).toBitVec &&& ((Int64.ofInt 1 <<< Int64.ofNat n).toBitVec ^^^ (Int64.ofInt (-1)).toBitVec)).getLsbD k = _
  rw [BitVec.getLsbD_and, BitVec.getLsbD_xor, bs_l (by omega) (by omega), bs_m (by omega)]
  have e : decide (k = n) = decide ((k : Int) = n) := decide_eq_decide.mpr (by omega)
  rw [e]
  cases decide ((k : Int) = n) <;> rfl
theorem bt_z {k : Int} : bt 0 k = false := by
  unfold bt
  show (0#64).getLsbD _ = false
  exact BitVec.getLsbD_zero
