/-! ===== bytes of a long; the weakest-precondition form of 'it comes to a result' ===== -/
def yw {α : Type} (x : Option α) (P : α → Prop) : Prop := ∃ v, x = some v ∧ P v
theorem yw_s {α : Type} {v : α} {P : α → Prop} (h : P v) : yw (some v) P := ⟨v, rfl, h⟩
theorem yw_b {α β : Type} {x : Option α} {f : α → Option β} {P : β → Prop} (h : yw x (fun a => yw (f a) P)) : yw (x.bind f) P := by
  obtain ⟨v, e, v2, e2, h2⟩ := h
  exact ⟨v2, by rw [e]; exact e2, h2⟩
theorem yw_m {α : Type} {x : Option α} {P Q : α → Prop} (h : yw x P) (hp : ∀ v, P v → Q v) : yw x Q := by
  obtain ⟨v, e, h⟩ := h
  exact ⟨v, e, hp v h⟩
theorem yw_o {α β : Type} {x : Option α} {f : α → Option β} {P : β → Prop} {v : α} (e : x = some v) (h : yw (f v) P) : yw (x.bind f) P := by
  rw [e]
  exact h
theorem yw_t {α β : Type} {x : Option α} {f : α → Option β} {P : β → Prop} {Q : α → Prop} (h1 : yw x Q) (h2 : ∀ v, Q v → yw (f v) P) : yw (x.bind f) P := yw_b (yw_m h1 h2)
theorem yw_i {α : Type} {x y : Option α} {P : α → Prop} {c : Prop} {d : Decidable c} (h1 : c → yw x P) (h2 : ¬ c → yw y P) : yw (@ite _ c d x y) P := by
  by_cases hc : c
  · rw [if_pos hc]
    exact h1 hc
  · rw [if_neg hc]
    exact h2 hc
def by8 (w : Int64) (k : Nat) : Nat := w.toBitVec.toNat / 2 ^ (8 * k) % 2 ^ 8
theorem by8_lt {w : Int64} {k : Nat} : by8 w k < 256 := Nat.mod_lt _ (by decide)
theorem wb_sm {k : Nat} (hk : k < 8) : (Int64.ofNat (8 * k)).toBitVec.smod 64 = BitVec.ofNat 64 (8 * k) := by
  match k, hk with
  | 0, _ => decide
  | 1, _ => decide
  | 2, _ => decide
  | 3, _ => decide
  | 4, _ => decide
  | 5, _ => decide
  | 6, _ => decide
  | 7, _ => decide
  | k + 8, h => exact absurd h (by omega)
theorem wb {w : Int64} {k : Nat} (hk : k < 8) : (w >>> (Int64.ofNat (8 * k))) &&& 255 = Int64.ofNat (by8 w k) := by
  apply Int64.toBitVec.inj
  apply BitVec.eq_of_getLsbD_eq
  intro i hi
  have e255 : (255 : Int64).toBitVec.getLsbD i = decide (i < 8) := by
    show (BitVec.ofNat 64 (2 ^ 8 - 1)).getLsbD i = _
    rw [BitVec.getLsbD_ofNat, Nat.testBit_two_pow_sub_one]
    simp only [hi, decide_true, Bool.true_and]
  have e1 : (w >>> (Int64.ofNat (8 * k))).toBitVec = w.toBitVec.sshiftRight (8 * k) := by
    show w.toBitVec.sshiftRight' ((Int64.ofNat (8 * k)).toBitVec.smod 64) = _
    rw [wb_sm hk, BitVec.sshiftRight'_ofNat_eq_sshiftRight, Nat.mod_eq_of_lt (by omega)]
  have e2 : (Int64.ofNat (by8 w k)).toBitVec.getLsbD i = (decide (i < 8) && w.toBitVec.getLsbD (8 * k + i)) := by
    show (BitVec.ofNat 64 (by8 w k)).getLsbD i = _
    rw [BitVec.getLsbD_ofNat]
    unfold by8
    rw [Nat.testBit_mod_two_pow, Nat.testBit_div_two_pow]
    simp only [hi, decide_true, Bool.true_and, BitVec.getLsbD, Nat.add_comm]
  rw [e2]
  show ((w >>> (Int64.ofNat (8 * k))).toBitVec &&& (255 : Int64).toBitVec).getLsbD i = _
  rw [BitVec.getLsbD_and, e255, e1, BitVec.getLsbD_sshiftRight]
  by_cases h8 : i < 8
  · have h64 : 8 * k + i < 64 := by omega
    have h65 : ¬ 64 ≤ i := by omega
    simp only [h8, h64, decide_true, if_pos, Bool.and_true, Bool.true_and]
    simp [h65]
  · simp [h8]
theorem i64_to {n : Nat} (h : n < 256) : (Int64.ofNat n).toInt = (n : Int) := Int64.toInt_ofNat_of_lt (by omega)
theorem lg_0 {n : Nat} (h : n < 256) : lg_cmp (Int64.ofNat n) 0 = 0 ↔ n = 0 := by
  revert n
  decide +kernel
theorem lg_32 {n : Nat} (h : n < 256) : lg_cmp (Int64.ofNat n) 32 < 0 ↔ n < 32 := by
  revert n
  decide +kernel
theorem lg_126 {n : Nat} (h : n < 256) : lg_cmp (Int64.ofNat n) 126 ≤ 0 ↔ n ≤ 126 := by
  revert n
  decide +kernel
theorem lg_97 {n : Nat} (h : n < 256) : lg_cmp (Int64.ofNat n) 97 < 0 ↔ n < 97 := by
  revert n
  decide +kernel
theorem lg_122 {n : Nat} (h : n < 256) : lg_cmp (Int64.ofNat n) 122 ≤ 0 ↔ n ≤ 122 := by
  revert n
  decide +kernel
theorem i64_32 {n : Nat} (h : n < 256) : (Int64.ofNat n).toInt32 = Int32.ofNat n := by
  revert n
  decide +kernel
