/-! ===== sums that fit ===== -/
section LWe
variable {M K : qm} {a b x y s v : Int}
theorem bv_n (v : BitVec 64) : v.toInt < 0 ↔ v.msb = true := by
  rw [BitVec.msb_eq_toInt]
  exact decide_eq_true_iff.symm
theorem bv_t (h : FIT x) : (Int64.ofInt x).toBitVec.toInt = x := by
  have e : (Int64.ofInt x).toInt = x := by
    rw [Int64.toInt_ofInt]
    unfold FIT at h
    rw [Int.bmod_def]
    have sz : Int64.size = 18446744073709551616 := rfl
    rw [sz]
    omega
  exact e
theorem lA_n (hx : FIT x) (hy : FIT y) : lA x y < 0 ↔ x < 0 ∧ y < 0 := by
  have e : lA x y = ((Int64.ofInt x).toBitVec &&& (Int64.ofInt y).toBitVec).toInt := rfl
  rw [e, bv_n, BitVec.msb_and, Bool.and_eq_true, ← bv_n, ← bv_n, bv_t hx, bv_t hy]
theorem lX_n (hx : FIT x) (hy : FIT y) : (lX x y < 0 ↔ ¬ (x < 0 ↔ y < 0)) ∧ FIT (lX x y) := by
  have e : lX x y = ((Int64.ofInt x).toBitVec ^^^ (Int64.ofInt y).toBitVec).toInt := rfl
  refine ⟨?_, ?_⟩
  · have a1 := bv_n (Int64.ofInt x).toBitVec
    have a2 := bv_n (Int64.ofInt y).toBitVec
    rw [bv_t hx] at a1
    rw [bv_t hy] at a2
    rw [e, bv_n, BitVec.msb_xor]
    cases h1 : (Int64.ofInt x).toBitVec.msb <;> cases h2 : (Int64.ofInt y).toBitVec.msb <;> rw [h1] at a1 <;> rw [h2] at a2 <;> simp at a1 a2 ⊢ <;> omega
  · rw [e]
    have l := BitVec.le_toInt ((Int64.ofInt x).toBitVec ^^^ (Int64.ofInt y).toBitVec)
    have r := BitVec.toInt_lt (x := (Int64.ofInt x).toBitVec ^^^ (Int64.ofInt y).toBitVec)
    unfold FIT
    constructor
    · exact l
    · exact r
theorem add_C (a0 : FIT a) (b0 : FIT b) : (FIT (a + b) ∧ qf_X7_add 20000 a b M = some (a + b, M)) ∨ (¬ FIT (a + b) ∧ ∃ v, FIT v ∧ qf_X7_add 20000 a b M = some (v, qw M 735 12 0 2)) := by
  have fs : FIT (w64 (a + b)) := by unfold FIT w64; omega
  have x1 := lX_n a0 fs
  have x2 := lX_n b0 fs
  have an := lA_n x1.2 x2.2
  unfold qf_X7_add
  by_cases f : FIT (a + b)
  · left
    refine ⟨f, ?_⟩
    have e : w64 (a + b) = a + b := w64_id f.1 f.2
    rw [e] at x1 x2 an ⊢
    rw [if_pos (by unfold FIT at a0 b0; omega)]
  · right
    refine ⟨f, w64 (a + b), fs, ?_⟩
    have ng : lA (lX a (w64 (a + b))) (lX b (w64 (a + b))) < 0 := by
      rw [an, x1.1, x2.1]
      unfold FIT at f a0 b0
      unfold w64
      omega
    rw [if_neg (by omega)]
    rfl
theorem sub_C (a0 : FIT a) (b0 : FIT b) : (FIT (a - b) ∧ qf_X7_subtract 20000 a b M = some (a - b, M)) ∨ (¬ FIT (a - b) ∧ ∃ v, FIT v ∧ qf_X7_subtract 20000 a b M = some (v, qw M 735 12 0 2)) := by
  have fs : FIT (w64 (a - b)) := by unfold FIT w64; omega
  have x1 := lX_n a0 b0
  have x2 := lX_n a0 fs
  have an := lA_n x1.2 x2.2
  unfold qf_X7_subtract
  by_cases f : FIT (a - b)
  · left
    refine ⟨f, ?_⟩
    have e : w64 (a - b) = a - b := w64_id f.1 f.2
    rw [e] at x2 an ⊢
    rw [if_pos (by unfold FIT at a0 b0; omega)]
  · right
    refine ⟨f, w64 (a - b), fs, ?_⟩
    have ng : lA (lX a b) (lX a (w64 (a - b))) < 0 := by
      rw [an, x1.1, x2.1]
      unfold FIT at f a0 b0
      unfold w64
      omega
    rw [if_neg (by omega)]
    rfl
end LWe
