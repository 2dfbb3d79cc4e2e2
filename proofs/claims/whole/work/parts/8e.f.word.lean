/-! ===== the matrix text: known words ===== -/
section MTc
variable {M K A W : qm} {T bg en : Int → Int} {L p q e k i j x y z c n w s v C D r : Int} {m N : Nat}
theorem sl8 {a b : Nat} (ha : a < 9223372036854775808) (ht : a % 72057594037927936 < 36028797018963968) (hb : b < 256) : lO (lL (a : Int) 8) (b : Int) = ((a % 72057594037927936) * 256 + b : Nat) := by
  unfold lO lL
  rw [Int64.ofInt_toInt]
  have e8 : (Int64.ofInt 8 &&& 63) = (8 : Int64) := by decide
  rw [e8]
  show ((Int64.ofInt (a : Int) <<< (8 : Int64)).toBitVec ||| (Int64.ofInt (b : Int)).toBitVec).toInt = _
  rw [Int64.toBitVec_shiftLeft]
  have es : ((8 : Int64).toBitVec.smod 64) = 8#64 := by decide
  rw [es, BitVec.toInt_eq_toNat_cond]
  have e1 : (Int64.ofInt (a : Int)).toBitVec = BitVec.ofNat 64 a := by
    rw [Int64.toBitVec_ofInt]
    exact BitVec.ofInt_natCast 64 a
  have e2 : (Int64.ofInt (b : Int)).toBitVec = BitVec.ofNat 64 b := by
    rw [Int64.toBitVec_ofInt]
    exact BitVec.ofInt_natCast 64 b
  rw [e1, e2]
  have tn : (BitVec.ofNat 64 a <<< 8#64 ||| BitVec.ofNat 64 b).toNat = (a % 72057594037927936) * 256 + b := by
    rw [BitVec.toNat_or, BitVec.shiftLeft_eq', BitVec.toNat_shiftLeft, BitVec.toNat_ofNat, BitVec.toNat_ofNat, BitVec.toNat_ofNat, Nat.mod_eq_of_lt (show b < 2 ^ 64 by omega), Nat.mod_eq_of_lt (show a < 2 ^ 64 by omega), Nat.mod_eq_of_lt (show 8 < 2 ^ 64 by decide), Nat.shiftLeft_eq]
    rw [show a * 2 ^ 8 % 2 ^ 64 = 2 ^ 8 * (a % 72057594037927936) by omega, ← Nat.two_pow_add_eq_or_of_lt (show b < 2 ^ 8 by omega)]
    omega
  rw [tn, if_pos (by omega)]
theorem sl8i (v0 : 0 ≤ v) (v1 : v < 9223372036854775808) (ht : v % 72057594037927936 < 36028797018963968) (c0 : 0 ≤ c) (c1 : c < 256) : lO (lL v 8) c = (v % 72057594037927936) * 256 + c := by
  obtain ⟨a, rfl⟩ : ∃ a : Nat, v = a := ⟨v.toNat, by omega⟩
  obtain ⟨b, rfl⟩ : ∃ b : Nat, c = b := ⟨c.toNat, by omega⟩
  rw [sl8 (by omega) (by omega) (by omega)]
  omega
/-- bytes of letters -/
theorem nmv_b (h : ∀ i, q ≤ i → i < q + m → isL (T i)) : 0 ≤ nmv T q m ∧ nmv T q m < 9223372036854775808 ∧ nmv T q m % 72057594037927936 < 123 * 281474976710656 ∧ nmv T q m % 281474976710656 < 123 * 1099511627776 ∧ nmv T q m % 1099511627776 < 123 * 4294967296 ∧ nmv T q m % 4294967296 < 123 * 16777216 ∧ nmv T q m % 16777216 < 123 * 65536 ∧ nmv T q m % 65536 < 123 * 256 ∧ nmv T q m % 256 < 123 ∧ (1 ≤ m → 97 ≤ nmv T q m % 256) ∧ (2 ≤ m → 97 * 256 ≤ nmv T q m % 65536) ∧ (3 ≤ m → 97 * 65536 ≤ nmv T q m % 16777216) ∧ (4 ≤ m → 97 * 16777216 ≤ nmv T q m % 4294967296) ∧ (5 ≤ m → 97 * 4294967296 ≤ nmv T q m % 1099511627776) ∧ (6 ≤ m → 97 * 1099511627776 ≤ nmv T q m % 281474976710656) := by
  induction m with
  | zero =>
    have e : nmv T q 0 = 0 := rfl
    rw [e]
    refine ⟨by decide, by decide, by decide, by decide, by decide, by decide, by decide, by decide, by decide, fun z => by omega, fun z => by omega, fun z => by omega, fun z => by omega, fun z => by omega, fun z => by omega⟩
  | succ m ih =>
    obtain ⟨h1, h2, h3, h4, h5, h6, h7, h8, h9, g1, g2, g3, g4, g5, g6⟩ := ih (fun i i0 i1 => h i i0 (by omega))
    have c := h (q + m) (by omega) (by omega)
    unfold isL at c
    have e : nmv T q (m + 1) = (nmv T q m % 72057594037927936) * 256 + T (q + m) := sl8i h1 h2 (by omega) (by omega) (by omega)
    rw [e]
    generalize nmv T q m = v at h1 h2 h3 h4 h5 h6 h7 h8 h9 g1 g2 g3 g4 g5 g6 ⊢
    generalize T (q + m) = t at c ⊢
    clear e ih
    have w7 : (v % 72057594037927936 * 256 + t) % 72057594037927936 = v % 281474976710656 * 256 + t := by omega
    have w6 : (v % 72057594037927936 * 256 + t) % 281474976710656 = v % 1099511627776 * 256 + t := by omega
    have w5 : (v % 72057594037927936 * 256 + t) % 1099511627776 = v % 4294967296 * 256 + t := by omega
    have w4 : (v % 72057594037927936 * 256 + t) % 4294967296 = v % 16777216 * 256 + t := by omega
    have w3 : (v % 72057594037927936 * 256 + t) % 16777216 = v % 65536 * 256 + t := by omega
    have w2 : (v % 72057594037927936 * 256 + t) % 65536 = v % 256 * 256 + t := by omega
    have w1 : (v % 72057594037927936 * 256 + t) % 256 = t := by omega
    rw [w7, w6, w5, w4, w3, w2, w1]
    refine ⟨by omega, by omega, by omega, by omega, by omega, by omega, by omega, by omega, by omega, fun z => by omega, fun z => ?_, fun z => ?_, fun z => ?_, fun z => ?_, fun z => ?_⟩
    · have := g1 (by omega)
      omega
    · have := g2 (by omega)
      omega
    · have := g3 (by omega)
      omega
    · have := g4 (by omega)
      omega
    · have := g5 (by omega)
      omega
/-- letters from the end, five bits each -/
def b5v (T : Int → Int) (e : Int) : Nat → Int
  | 0 => 0
  | k + 1 => 32 * b5v T e k + T (e - 1 - k) - 96
def KNW (C D : Int) : Prop := (C = 2054123109 ∧ D = 178682) ∨ (C = 474147546227 ∧ D = 20059310) ∨ (C = 28518 ∧ D = 207) ∨ (C = 6382452 ∧ D = 20577) ∨ (C = 1802071652 ∧ D = 145707) ∨ (C = 1918987883 ∧ D = 374834) ∨ (C = 431198331257 ∧ D = 26259620) ∨ (C = 2003330414 ∧ D = 464151) ∨ (C = 1685022067 ∧ D = 628196) ∨ (C = 1752132708 ∧ D = 143848)
theorem knw_b (h : KNW C D) : 0 < C ∧ C < 1099511627776 ∧ 0 ≤ D := by
  unfold KNW at h
  omega
theorem word_eq (h : KNW C D) (hc : ∀ i, q ≤ i → i < q + m → isL (T i)) (m0 : 1 ≤ m) : nmv T q m = C ↔ (m ≤ 5 ∧ b5v T (q + m) m = D) := by
  have kb := knw_b h
  by_cases g : m ≤ 5
  · have stp : ∀ k k' : Nat, k' = k + 1 → k < m → 0 ≤ nmv T q k → nmv T q k < 1099511627776 → nmv T q k' = nmv T q k * 256 + T (q + k) := fun k k' kk k1 z0 z1 => by
      rw [kk]
      have c := hc (q + k) (by omega) (by omega)
      unfold isL at c
      have e : nmv T q (k + 1) = (nmv T q k % 72057594037927936) * 256 + T (q + k) := sl8i z0 (by omega) (by omega) (by omega) (by omega)
      omega
    have lt : ∀ k : Nat, k < m → 97 ≤ T (q + k) ∧ T (q + k) ≤ 122 := fun k k1 => by
      have c := hc (q + k) (by omega) (by omega)
      unfold isL at c
      exact c
    have n0 : nmv T q 0 = 0 := rfl
    have t0 := lt 0 (by omega)
    have n1 := stp 0 1 rfl (by omega) (by omega) (by omega)
    rw [n0] at n1
    have bs : ∀ (e : Int) (k : Nat), b5v T e (k + 1) = 32 * b5v T e k + T (e - 1 - k) - 96 := fun _ _ => rfl
    have b0 : ∀ e : Int, b5v T e 0 = 0 := fun _ => rfl
    have cs : m = 1 ∨ m = 2 ∨ m = 3 ∨ m = 4 ∨ m = 5 := by omega
    unfold KNW at h
    refine ⟨fun hh => ⟨g, ?_⟩, fun hh => ?_⟩
    all_goals
      rcases cs with rfl | rfl | rfl | rfl | rfl
    · rw [bs, b0, show q + ((1 : Nat) : Int) - 1 - ((0 : Nat) : Int) = q + ((0 : Nat) : Int) by omega]
      omega
    · have t1 := lt 1 (by omega)
      have n2 := stp 1 2 rfl (by omega) (by omega) (by omega)
      rw [bs, bs, b0, show q + ((2 : Nat) : Int) - 1 - ((0 : Nat) : Int) = q + ((1 : Nat) : Int) by omega, show q + ((2 : Nat) : Int) - 1 - ((1 : Nat) : Int) = q + ((0 : Nat) : Int) by omega]
      omega
    · have t1 := lt 1 (by omega)
      have n2 := stp 1 2 rfl (by omega) (by omega) (by omega)
      have t2 := lt 2 (by omega)
      have n3 := stp 2 3 rfl (by omega) (by omega) (by omega)
      rw [bs, bs, bs, b0, show q + ((3 : Nat) : Int) - 1 - ((0 : Nat) : Int) = q + ((2 : Nat) : Int) by omega, show q + ((3 : Nat) : Int) - 1 - ((1 : Nat) : Int) = q + ((1 : Nat) : Int) by omega, show q + ((3 : Nat) : Int) - 1 - ((2 : Nat) : Int) = q + ((0 : Nat) : Int) by omega]
      omega
    · have t1 := lt 1 (by omega)
      have n2 := stp 1 2 rfl (by omega) (by omega) (by omega)
      have t2 := lt 2 (by omega)
      have n3 := stp 2 3 rfl (by omega) (by omega) (by omega)
      have t3 := lt 3 (by omega)
      have n4 := stp 3 4 rfl (by omega) (by omega) (by omega)
      rw [bs, bs, bs, bs, b0, show q + ((4 : Nat) : Int) - 1 - ((0 : Nat) : Int) = q + ((3 : Nat) : Int) by omega, show q + ((4 : Nat) : Int) - 1 - ((1 : Nat) : Int) = q + ((2 : Nat) : Int) by omega, show q + ((4 : Nat) : Int) - 1 - ((2 : Nat) : Int) = q + ((1 : Nat) : Int) by omega, show q + ((4 : Nat) : Int) - 1 - ((3 : Nat) : Int) = q + ((0 : Nat) : Int) by omega]
      omega
    · have t1 := lt 1 (by omega)
      have n2 := stp 1 2 rfl (by omega) (by omega) (by omega)
      have t2 := lt 2 (by omega)
      have n3 := stp 2 3 rfl (by omega) (by omega) (by omega)
      have t3 := lt 3 (by omega)
      have n4 := stp 3 4 rfl (by omega) (by omega) (by omega)
      have t4 := lt 4 (by omega)
      have n5 := stp 4 5 rfl (by omega) (by omega) (by omega)
      rw [bs, bs, bs, bs, bs, b0, show q + ((5 : Nat) : Int) - 1 - ((0 : Nat) : Int) = q + ((4 : Nat) : Int) by omega, show q + ((5 : Nat) : Int) - 1 - ((1 : Nat) : Int) = q + ((3 : Nat) : Int) by omega, show q + ((5 : Nat) : Int) - 1 - ((2 : Nat) : Int) = q + ((2 : Nat) : Int) by omega, show q + ((5 : Nat) : Int) - 1 - ((3 : Nat) : Int) = q + ((1 : Nat) : Int) by omega, show q + ((5 : Nat) : Int) - 1 - ((4 : Nat) : Int) = q + ((0 : Nat) : Int) by omega]
      omega
    · have hh := hh.2
      rw [bs, b0, show q + ((1 : Nat) : Int) - 1 - ((0 : Nat) : Int) = q + ((0 : Nat) : Int) by omega] at hh
      omega
    · have t1 := lt 1 (by omega)
      have n2 := stp 1 2 rfl (by omega) (by omega) (by omega)
      have hh := hh.2
      rw [bs, bs, b0, show q + ((2 : Nat) : Int) - 1 - ((0 : Nat) : Int) = q + ((1 : Nat) : Int) by omega, show q + ((2 : Nat) : Int) - 1 - ((1 : Nat) : Int) = q + ((0 : Nat) : Int) by omega] at hh
      omega
    · have t1 := lt 1 (by omega)
      have n2 := stp 1 2 rfl (by omega) (by omega) (by omega)
      have t2 := lt 2 (by omega)
      have n3 := stp 2 3 rfl (by omega) (by omega) (by omega)
      have hh := hh.2
      rw [bs, bs, bs, b0, show q + ((3 : Nat) : Int) - 1 - ((0 : Nat) : Int) = q + ((2 : Nat) : Int) by omega, show q + ((3 : Nat) : Int) - 1 - ((1 : Nat) : Int) = q + ((1 : Nat) : Int) by omega, show q + ((3 : Nat) : Int) - 1 - ((2 : Nat) : Int) = q + ((0 : Nat) : Int) by omega] at hh
      omega
    · have t1 := lt 1 (by omega)
      have n2 := stp 1 2 rfl (by omega) (by omega) (by omega)
      have t2 := lt 2 (by omega)
      have n3 := stp 2 3 rfl (by omega) (by omega) (by omega)
      have t3 := lt 3 (by omega)
      have n4 := stp 3 4 rfl (by omega) (by omega) (by omega)
      have hh := hh.2
      rw [bs, bs, bs, bs, b0, show q + ((4 : Nat) : Int) - 1 - ((0 : Nat) : Int) = q + ((3 : Nat) : Int) by omega, show q + ((4 : Nat) : Int) - 1 - ((1 : Nat) : Int) = q + ((2 : Nat) : Int) by omega, show q + ((4 : Nat) : Int) - 1 - ((2 : Nat) : Int) = q + ((1 : Nat) : Int) by omega, show q + ((4 : Nat) : Int) - 1 - ((3 : Nat) : Int) = q + ((0 : Nat) : Int) by omega] at hh
      omega
    · have t1 := lt 1 (by omega)
      have n2 := stp 1 2 rfl (by omega) (by omega) (by omega)
      have t2 := lt 2 (by omega)
      have n3 := stp 2 3 rfl (by omega) (by omega) (by omega)
      have t3 := lt 3 (by omega)
      have n4 := stp 3 4 rfl (by omega) (by omega) (by omega)
      have t4 := lt 4 (by omega)
      have n5 := stp 4 5 rfl (by omega) (by omega) (by omega)
      have hh := hh.2
      rw [bs, bs, bs, bs, bs, b0, show q + ((5 : Nat) : Int) - 1 - ((0 : Nat) : Int) = q + ((4 : Nat) : Int) by omega, show q + ((5 : Nat) : Int) - 1 - ((1 : Nat) : Int) = q + ((3 : Nat) : Int) by omega, show q + ((5 : Nat) : Int) - 1 - ((2 : Nat) : Int) = q + ((2 : Nat) : Int) by omega, show q + ((5 : Nat) : Int) - 1 - ((3 : Nat) : Int) = q + ((1 : Nat) : Int) by omega, show q + ((5 : Nat) : Int) - 1 - ((4 : Nat) : Int) = q + ((0 : Nat) : Int) by omega] at hh
      omega
  · have b := (nmv_b (T := T) (q := q) (m := m) hc).2.2.2.2.2.2.2.2.2.2.2.2.2.2 (by omega)
    have b1 := (nmv_b (T := T) (q := q) (m := m) hc).1
    refine ⟨fun hh => ?_, fun hh => absurd hh.1 g⟩
    rw [hh] at b b1
    omega
end MTc
