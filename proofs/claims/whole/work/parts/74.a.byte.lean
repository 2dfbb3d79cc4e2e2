/-! ===== the bytes of a long ===== -/
section BY
variable {x : Int}
def u64 (x : Int) : Nat := (Int64.ofInt x).toBitVec.toNat
def y8 (x : Int) (k : Int) : Int := ((u64 x / 2 ^ (8 * k.toNat) % 2 ^ 8 : Nat) : Int)
theorem y8_b {k : Int} : 0 ≤ y8 x k ∧ y8 x k ≤ 255 := by
  unfold y8
  have h : u64 x / 2 ^ (8 * k.toNat) % 2 ^ 8 < 2 ^ 8 := Nat.mod_lt _ (by decide)
  have e : (2 : Nat) ^ 8 = 256 := by decide
  omega
theorem yb_sm {k : Nat} (hk : k < 8) : (Int64.ofNat (8 * k)).toBitVec.smod 64 = BitVec.ofNat 64 (8 * k) := by
  match k, hk with
  | 0, _ => decide
  | 1, _ => decide
  | 2, _ => decide
  | 3, _ => decide
  | 4, _ => decide
  | 5, _ => decide
  | 6, _ => decide
  | 7, _ => decide
  | k + 8, h => exact absurd h (by omega)
theorem yb_w {w : Int64} {k : Nat} (hk : k < 8) : (w >>> (Int64.ofNat (8 * k))) &&& 255 = Int64.ofNat (w.toBitVec.toNat / 2 ^ (8 * k) % 2 ^ 8) := by
  apply Int64.toBitVec.inj
  apply BitVec.eq_of_getLsbD_eq
  intro i hi
  have e255 : (255 : Int64).toBitVec.getLsbD i = decide (i < 8) := by
    show (BitVec.ofNat 64 (2 ^ 8 - 1)).getLsbD i = _
    rw [BitVec.getLsbD_ofNat, Nat.testBit_two_pow_sub_one]
    simp only [hi, decide_true, Bool.true_and]
  have e1 : (w >>> (Int64.ofNat (8 * k))).toBitVec = w.toBitVec.sshiftRight (8 * k) := by
    show w.toBitVec.sshiftRight' ((Int64.ofNat (8 * k)).toBitVec.smod 64) = _
    rw [yb_sm hk, BitVec.sshiftRight'_ofNat_eq_sshiftRight, Nat.mod_eq_of_lt (by omega)]
  have e2 : (Int64.ofNat (w.toBitVec.toNat / 2 ^ (8 * k) % 2 ^ 8)).toBitVec.getLsbD i = (decide (i < 8) && w.toBitVec.getLsbD (8 * k + i)) := by
    show (BitVec.ofNat 64 (w.toBitVec.toNat / 2 ^ (8 * k) % 2 ^ 8)).getLsbD i = _
    rw [BitVec.getLsbD_ofNat, Nat.testBit_mod_two_pow, Nat.testBit_div_two_pow]
    simp only [hi, decide_true, Bool.true_and, BitVec.getLsbD, Nat.add_comm]
  rw [e2]
  show ((w >>> (Int64.ofNat (8 * k))).toBitVec &&& (255 : Int64).toBitVec).getLsbD i = _
  rw [BitVec.getLsbD_and, e255, e1, BitVec.getLsbD_sshiftRight]
  by_cases h8 : i < 8
  · have h64 : 8 * k + i < 64 := by omega
    have h65 : ¬ 64 ≤ i := by omega
    simp only [h8, h64, decide_true, if_pos, Bool.and_true, Bool.true_and]
    simp [h65]
  · simp [h8]
theorem yb_sh {k : Nat} (hk : k < 8) : Int64.ofInt ((8 * k : Nat) : Int) &&& 63 = Int64.ofNat (8 * k) := by
  match k, hk with
  | 0, _ => decide
  | 1, _ => decide
  | 2, _ => decide
  | 3, _ => decide
  | 4, _ => decide
  | 5, _ => decide
  | 6, _ => decide
  | 7, _ => decide
  | k + 8, h => exact absurd h (by omega)
theorem lA_y {k : Int} (k0 : 0 ≤ k) (k8 : k < 8) : lA (lR x (8 * k)) 255 = y8 x k := by
  obtain ⟨n, rfl⟩ : ∃ n : Nat, k = n := ⟨k.toNat, by omega⟩
  have hn : n < 8 := by omega
  unfold lA lR y8 u64
  rw [show (8 * (n : Int)) = ((8 * n : Nat) : Int) by omega, yb_sh hn, Int64.ofInt_toInt, show (Int64.ofInt 255) = (255 : Int64) from by decide, yb_w hn, Int.toNat_natCast]
  have h : (Int64.ofInt x).toBitVec.toNat / 2 ^ (8 * n) % 2 ^ 8 < 2 ^ 8 := Nat.mod_lt _ (by decide)
  have e : (2 : Nat) ^ 8 = 256 := by decide
  exact Int64.toInt_ofNat_of_lt (by omega)
theorem byteOf_r {M : qm} {k : Int} (k0 : 0 ≤ k) (k8 : k < 8) : qf_X15_byteOf 20000 x k M = some (y8 x k) := by
  unfold qf_X15_byteOf
  have h := y8_b (x := x) (k := k)
  rw [w32_id (x := 8 * k) (by omega) (by omega), lA_y k0 k8, w32_id (by omega) (by omega)]
/-- characters in the bytes below n -/
def yn (x : Int) (n : Int) : Int := sI (fun k => if y8 x k = 0 then 0 else 1) n
def yok (x : Int) (n : Int) : Prop := ∀ k, 0 ≤ k → k < n → y8 x k = 0 ∨ (32 ≤ y8 x k ∧ y8 x k ≤ 126)
theorem isSayable_r {M : qm} : qf_X6_isSayable 20000 x M = some (b01 (yok x 8)) := by
  refine qW_e ?_
  unfold qf_X6_isSayable
  refine qW_call (Q := fun o => o = (if b01 (yok x 8) = 0 then .inl 0 else .inr ())) ?_ ?_
  · unfold qf_X6_isSayable_L2
    refine qW_for 8 (fun i s => s = (x, 8 * i) ∧ yok x i) ?_ ?_ ?_ (by decide) (by decide)
    · rintro i _ i0 i1 ⟨rfl, hk⟩
      unfold qf_X6_isSayable_L2_b
      (try dsimp only)
      rw [if_neg (show ¬ 64 ≤ 8 * i by omega), lA_y i0 i1, w32_id (x := 8 * i + 8) (by omega) (by omega)]
      have up : (y8 x i = 0 ∨ (32 ≤ y8 x i ∧ y8 x i ≤ 126)) → yok x (i + 1) := fun z => all_s hk z
      have no : ¬ (y8 x i = 0 ∨ (32 ≤ y8 x i ∧ y8 x i ≤ 126)) → b01 (yok x 8) = 0 := fun z => b01_f (fun q => z (q i i0 i1))
      by_cases g : y8 x i = 0
      · rw [if_pos g]
        exact qW_some ⟨by rw [show 8 * i + 8 = 8 * (i + 1) by omega], up (Or.inl g)⟩
      · rw [if_neg g]
        by_cases g1 : y8 x i < 32
        · rw [if_pos g1]
          exact qW_some (by rw [no (by omega)]; rfl)
        · rw [if_neg g1]
          by_cases g2 : y8 x i ≤ 126
          · rw [if_pos g2]
            exact qW_some ⟨by rw [show 8 * i + 8 = 8 * (i + 1) by omega], up (Or.inr ⟨by omega, g2⟩)⟩
          · rw [if_neg g2]
            exact qW_some (by rw [no (by omega)]; rfl)
    · rintro _ ⟨rfl, hk⟩
      unfold qf_X6_isSayable_L2_b
      (try dsimp only)
      rw [if_pos (show (64 : Int) ≤ 8 * 8 by omega)]
      exact qW_some (by rw [b01_t hk]; rfl)
    · exact ⟨rfl, all_0⟩
  · rintro _ rfl
    rcases b01_01 (p := yok x 8) with g | g
    · rw [g]
      exact qW_some rfl
    · rw [g]
      exact qW_some rfl
theorem yc_s {i : Int} (h : 0 ≤ i) : yn x (i + 1) = yn x i + (if y8 x i = 0 then 0 else 1) := sI_s h
theorem yc_b {i : Int} (h : 0 ≤ i) : 0 ≤ yn x i ∧ yn x i ≤ i := sI_b h (fun k _ _ => by (try dsimp only); split <;> omega)
theorem hasRoomFor_r {M : qm} (h0 : 0 ≤ M 727 1 0) (h1 : M 727 1 0 ≤ 800) : qf_X6_hasRoomFor 20000 x M = some (b01 (M 727 1 0 + yn x 8 ≤ 800)) := by
  refine qW_e ?_
  unfold qf_X6_hasRoomFor
  refine qW_call (Q := fun o => o = .inr (yn x 8)) ?_ ?_
  · unfold qf_X6_hasRoomFor_L5
    refine qW_for 8 (fun i s => s = (x, yn x i, 8 * i)) ?_ ?_ ?_ (by decide) (by decide)
    · rintro i _ i0 i1 rfl
      unfold qf_X6_hasRoomFor_L5_b qf_X6_hasRoomFor_J31
      (try dsimp only)
      have b := yc_b (x := x) i0
      have s := yc_s (x := x) i0
      rw [if_neg (show ¬ 64 ≤ 8 * i by omega), lA_y i0 i1, w32_id (x := 8 * i + 8) (by omega) (by omega), w32_id (x := yn x i + 0) (by omega) (by omega), w32_id (x := yn x i + 1) (by omega) (by omega)]
      by_cases g : y8 x i = 0
      · rw [if_pos g] at s
        rw [if_pos g]
        exact qW_some (show (_ : Int × Int × Int) = _ by rw [s, show 8 * i + 8 = 8 * (i + 1) by omega])
      · rw [if_neg g] at s
        rw [if_neg g]
        exact qW_some (show (_ : Int × Int × Int) = _ by rw [s, show 8 * i + 8 = 8 * (i + 1) by omega])
    · rintro _ rfl
      unfold qf_X6_hasRoomFor_L5_b
      (try dsimp only)
      rw [if_pos (show (64 : Int) ≤ 8 * 8 by omega)]
      exact qW_some rfl
    · exact rfl
  · rintro _ rfl
    (try dsimp only)
    have b := yc_b (x := x) (i := 8) (by decide)
    rw [w32_id (x := M 727 1 0 + yn x 8) (by omega) (by omega)]
    by_cases g : 800 < M 727 1 0 + yn x 8
    · rw [if_pos g, b01_f (by omega)]
      exact qW_some rfl
    · rw [if_neg g, b01_t (by omega)]
      exact qW_some rfl
theorem characters_r {M : qm} : qf_X15_characters 20000 x M = some (if b01 (yok x 8) = 0 then -1 else yn x 8) := by
  refine qW_e ?_
  unfold qf_X15_characters
  refine qW_call (Q := fun o => o = (if b01 (yok x 8) = 0 then .inl (-1) else .inr (yn x 8))) ?_ ?_
  · unfold qf_X15_characters_L4
    refine qW_for 8 (fun i s => s = (x, yn x i, i) ∧ yok x i) ?_ ?_ ?_ (by decide) (by decide)
    · rintro i _ i0 i1 ⟨rfl, hk⟩
      unfold qf_X15_characters_L4_b qf_X15_characters_J29 qf_X15_characters_J49
      (try dsimp only)
      have b := yc_b (x := x) i0
      have s := yc_s (x := x) i0
      have b8 := y8_b (x := x) (k := i)
      rw [if_neg (show ¬ 8 ≤ i by omega), byteOf_r i0 i1, w32_id (x := i + 1) (by omega) (by omega), w32_id (x := yn x i + 0) (by omega) (by omega), w32_id (x := yn x i + 1) (by omega) (by omega)]
      refine qW_bind (qW_some ?_)
      have up : (y8 x i = 0 ∨ (32 ≤ y8 x i ∧ y8 x i ≤ 126)) → yok x (i + 1) := fun z => all_s hk z
      have no : ¬ (y8 x i = 0 ∨ (32 ≤ y8 x i ∧ y8 x i ≤ 126)) → b01 (yok x 8) = 0 := fun z => b01_f (fun q => z (q i i0 i1))
      by_cases g : y8 x i = 0
      · rw [if_pos g] at s
        rw [if_pos (show y8 x i ≤ 0 by omega), if_pos (show y8 x i ≤ 126 by omega), if_pos (show y8 x i ≤ 0 by omega)]
        exact qW_some ⟨show (_ : Int × Int × Int) = _ by rw [s], up (Or.inl g)⟩
      · rw [if_neg g] at s
        rw [if_neg (show ¬ y8 x i ≤ 0 by omega)]
        by_cases g1 : y8 x i < 32
        · rw [if_pos g1]
          exact qW_some (by rw [no (by omega)]; rfl)
        · rw [if_neg g1]
          by_cases g2 : y8 x i ≤ 126
          · rw [if_pos g2, if_neg (show ¬ y8 x i ≤ 0 by omega)]
            exact qW_some ⟨show (_ : Int × Int × Int) = _ by rw [s], up (Or.inr ⟨by omega, g2⟩)⟩
          · rw [if_neg g2]
            exact qW_some (by rw [no (by omega)]; rfl)
    · rintro _ ⟨rfl, hk⟩
      unfold qf_X15_characters_L4_b
      (try dsimp only)
      rw [if_pos (show (8 : Int) ≤ 8 by omega)]
      exact qW_some (by rw [b01_t hk]; rfl)
    · exact ⟨rfl, all_0⟩
  · rintro _ rfl
    rcases b01_01 (p := yok x 8) with g | g
    · rw [g]
      exact qW_some rfl
    · rw [g]
      exact qW_some rfl
end BY
