/-! ===== names of facts; the call fact ===== -/
section FA
variable {M K : qm} {x v : Int}
def i64r (x : Int) : Prop := (Int64.ofInt x).toInt = x
theorem u64_0 (h : i64r x) : x = 0 ↔ u64 x = 0 := by
  constructor
  · rintro rfl
    decide
  · intro g
    unfold u64 at g
    unfold i64r at h
    rw [← h]
    have e : Int64.ofInt x = 0 := by
      apply Int64.toBitVec.inj
      exact BitVec.eq_of_toNat_eq g
    rw [e]
    decide
theorem lA_0 {z : Int} : lA z 255 = ((u64 z % 256 : Nat) : Int) := by
  have e : Int64.ofInt z >>> (Int64.ofNat (8 * 0)) = Int64.ofInt z := by
    apply Int64.toBitVec.inj
    show (Int64.ofInt z).toBitVec.sshiftRight' ((Int64.ofNat (8 * 0)).toBitVec.smod 64) = _
    rw [yb_sm (by decide), BitVec.sshiftRight'_ofNat_eq_sshiftRight]
    simp
  have q := yb_w (w := Int64.ofInt z) (k := 0) (by decide)
  rw [e] at q
  unfold lA u64
  rw [show (Int64.ofInt 255) = (255 : Int64) from by decide, q]
  have h : (Int64.ofInt z).toBitVec.toNat / 2 ^ (8 * 0) % 2 ^ 8 < 2 ^ 8 := Nat.mod_lt _ (by decide)
  have e8 : (2 : Nat) ^ 8 = 256 := by decide
  have e0 : (2 : Nat) ^ (8 * 0) = 1 := by decide
  rw [e0, Nat.div_one, e8] at h ⊢
  exact Int64.toInt_ofNat_of_lt (by omega)
theorem lU_u {z : Int} : u64 (lU z 8) = u64 z / 256 ∧ i64r (lU z 8) := by
  constructor
  · unfold u64 lU
    rw [Int64.ofInt_toInt]
    show ((Int64.ofInt z).toUInt64 >>> ((Int64.ofInt 8).toUInt64 &&& Int64.toUInt64 63)).toNat = _
    rw [UInt64.toNat_shiftRight, show ((Int64.ofInt 8).toUInt64 &&& Int64.toUInt64 63).toNat % 64 = 8 from by decide, Nat.shiftRight_eq_div_pow]
    rfl
  · unfold i64r lU
    rw [Int64.ofInt_toInt]
/-- a name: small letters, and nothing above the first byte that is none -/
def yname (x : Int) : Prop := x ≠ 0 ∧ ∀ k, 0 ≤ k → k < 8 → (97 ≤ y8 x k ∧ y8 x k ≤ 122) ∨ ∀ l, k ≤ l → l < 8 → y8 x l = 0
theorem y8_d {k : Int} (k0 : 0 ≤ k) : y8 x k = ((u64 x / 256 ^ k.toNat % 256 : Nat) : Int) := by
  unfold y8
  rw [Nat.pow_mul]
theorem u64_lt : u64 x < 2 ^ 64 := (Int64.ofInt x).toBitVec.isLt
/-- the bytes from the n-th on are all nothing: the number is below -/
theorem y8_z {n : Nat} (hn : n ≤ 8) : u64 x / 256 ^ n = 0 ↔ ∀ l : Int, (n : Int) ≤ l → l < 8 → y8 x l = 0 := by
  have key : ∀ m : Nat, m ≤ 8 → (u64 x / 256 ^ (8 - m) = 0 ↔ ∀ l : Int, ((8 - m : Nat) : Int) ≤ l → l < 8 → y8 x l = 0) := by
    intro m
    induction m with
    | zero =>
      intro _
      constructor
      · intro _ l a b
        omega
      · intro _
        exact Nat.div_eq_of_lt (Nat.lt_of_lt_of_eq u64_lt (by decide))
    | succ m ih =>
      intro hm
      have q := ih (by omega)
      obtain ⟨j, hj⟩ : ∃ j, 8 - (m + 1) = j := ⟨_, rfl⟩
      have hj1 : 8 - m = j + 1 := by omega
      rw [hj]
      rw [hj1, Nat.pow_succ, ← Nat.div_div_eq_div_mul] at q
      have yj := y8_d (x := x) (k := j) (by omega)
      rw [Int.toNat_natCast] at yj
      constructor
      · intro g l a b
        rw [g] at q yj
        by_cases e : l = j
        · rw [e, yj]
          rfl
        · exact q.mp (by decide) l (by omega) b
      · intro g
        have a := q.mpr (fun l a b => g l (by omega) b)
        have b := g j (Int.le_refl _) (by omega)
        rw [yj] at b
        omega
  have q := key (8 - n) (by omega)
  rw [show 8 - (8 - n) = n by omega] at q
  exact q
theorem isFactName_r (hx : i64r x) : qf_X7_isFactName 20000 x M = some (b01 (yname x)) := by
  refine qW_e ?_
  unfold qf_X7_isFactName
  have done : ∀ i : Int, 0 ≤ i → i ≤ 8 → (∀ k, 0 ≤ k → k < i → 97 ≤ y8 x k ∧ y8 x k ≤ 122) → (∀ l, i ≤ l → l < 8 → y8 x l = 0) → (yname x ↔ x ≠ 0) := by
    intro i i0 i8 h1 h2
    constructor
    · exact fun z => z.1
    · intro z
      refine ⟨z, fun k k0 k8 => ?_⟩
      by_cases g : k < i
      · exact Or.inl (h1 k k0 g)
      · exact Or.inr (fun l l0 l8 => h2 l (by omega) l8)
  refine qW_call (Q := fun o => (o = .inl 0 ∧ ¬ yname x) ∨ (o = .inr () ∧ (yname x ↔ x ≠ 0))) ?_ ?_
  · unfold qf_X7_isFactName_L5
    refine qW_for 8 (fun i s => ∃ z, s = (x, z, i) ∧ u64 z = u64 x / 256 ^ i.toNat ∧ i64r z ∧ ∀ k, 0 ≤ k → k < i → 97 ≤ y8 x k ∧ y8 x k ≤ 122) ?_ ?_ ?_ (by decide) (by decide)
    · rintro i _ i0 i1 ⟨z, rfl, hz, hr, hk⟩
      unfold qf_X7_isFactName_L5_b
      (try dsimp only)
      rw [if_neg (show ¬ 8 ≤ i by omega), w32_id (x := i + 1) (by omega) (by omega), lA_0, hz, ← y8_d i0]
      by_cases g : z = 0
      · rw [if_pos g]
        rw [u64_0 hr, hz, y8_z (x := x) (by omega), show ((i.toNat : Nat) : Int) = i by omega] at g
        exact qW_some (Or.inr ⟨rfl, done i i0 (by omega) hk g⟩)
      · rw [if_neg g]
        rw [u64_0 hr, hz, y8_z (x := x) (by omega), show ((i.toNat : Nat) : Int) = i by omega] at g
        have no : ¬ (97 ≤ y8 x i ∧ y8 x i ≤ 122) → ¬ yname x := by
          intro a b
          rcases b.2 i i0 i1 with c | c
          · exact a c
          · exact g c
        by_cases g1 : y8 x i < 97
        · rw [if_pos g1]
          exact qW_some (Or.inl ⟨rfl, no (by omega)⟩)
        · rw [if_neg g1]
          by_cases g2 : y8 x i ≤ 122
          · rw [if_pos g2]
            refine qW_some ⟨lU z 8, rfl, ?_, lU_u.2, all_s hk ⟨by omega, g2⟩⟩
            rw [lU_u.1, hz, show (i + 1).toNat = i.toNat + 1 by omega, Nat.pow_succ, Nat.div_div_eq_div_mul]
          · rw [if_neg g2]
            exact qW_some (Or.inl ⟨rfl, no (by omega)⟩)
    · rintro _ ⟨z, rfl, hz, hr, hk⟩
      unfold qf_X7_isFactName_L5_b
      (try dsimp only)
      rw [if_pos (show (8 : Int) ≤ 8 by omega)]
      exact qW_some (Or.inr ⟨rfl, done 8 (by decide) (by decide) hk (fun l a b => by omega)⟩)
    · exact ⟨x, rfl, by simp, hx, all_0⟩
  · rintro _ (⟨rfl, g⟩ | ⟨rfl, g⟩)
    · rw [b01_f g]
      exact qW_some rfl
    · (try dsimp only)
      unfold qf_X7_isFactName_J56
      by_cases z : x = 0
      · rw [if_pos z, b01_f (fun a => g.mp a z)]
        exact qW_some rfl
      · rw [if_neg z, b01_t (g.mpr z)]
        exact qW_some rfl
theorem isName_r (hx : i64r x) : qf_X15_isName 20000 x K = some (b01 (yname x)) := by
  refine qW_e ?_
  unfold qf_X15_isName
  have x0 : x ≠ 0 ↔ ¬ ∀ l : Int, 0 ≤ l → l < 8 → y8 x l = 0 := by
    have q := y8_z (x := x) (n := 0) (by decide)
    rw [show (256 : Nat) ^ 0 = 1 from rfl, Nat.div_one, ← u64_0 hx] at q
    exact not_congr q
  refine qW_call (Q := fun o => ∃ a b : Int, o = .inr (a, b) ∧ (a = 0 ∨ a = 1) ∧ (b = 0 ∨ b = 1) ∧ (a = 1 ↔ ∀ k, 0 ≤ k → k < 8 → (97 ≤ y8 x k ∧ y8 x k ≤ 122) ∨ ∀ l, k ≤ l → l < 8 → y8 x l = 0) ∧ (b = 0 ↔ ∀ l : Int, 0 ≤ l → l < 8 → y8 x l = 0)) ?_ ?_
  · unfold qf_X15_isName_L8
    refine qW_for 8 (fun i s => ∃ a b : Int, s = (x, a, b, 7 - i) ∧ (a = 0 ∨ a = 1) ∧ (b = 0 ∨ b = 1) ∧ (a = 1 ↔ ∀ k, 8 - i ≤ k → k < 8 → (97 ≤ y8 x k ∧ y8 x k ≤ 122) ∨ ∀ l, k ≤ l → l < 8 → y8 x l = 0) ∧ (b = 0 ↔ ∀ l : Int, 8 - i ≤ l → l < 8 → y8 x l = 0)) ?_ ?_ ?_ (by decide) (by decide)
    · rintro i _ i0 i1 ⟨a, b, rfl, ha, hb, h1, h2⟩
      obtain ⟨c, hc⟩ : ∃ c, y8 x (7 - i) = c := ⟨_, rfl⟩
      have cb := y8_b (x := x) (k := 7 - i)
      rw [hc] at cb
      have n2 : (∀ l : Int, 8 - (i + 1) ≤ l → l < 8 → y8 x l = 0) ↔ (c = 0 ∧ b = 0) := by
        constructor
        · intro z
          exact ⟨by rw [← hc]; exact z _ (by omega) (by omega), h2.mpr (fun l l0 l1 => z l (by omega) l1)⟩
        · rintro ⟨z1, z2⟩ l l0 l1
          by_cases e : l = 7 - i
          · rw [e, hc]
            exact z1
          · exact h2.mp z2 l (by omega) l1
      have n1 : (∀ k, 8 - (i + 1) ≤ k → k < 8 → (97 ≤ y8 x k ∧ y8 x k ≤ 122) ∨ ∀ l, k ≤ l → l < 8 → y8 x l = 0) ↔ (a = 1 ∧ ((97 ≤ c ∧ c ≤ 122) ∨ (c = 0 ∧ b = 0))) := by
        constructor
        · intro z
          refine ⟨h1.mpr (fun k k0 k1 => z k (by omega) k1), ?_⟩
          rcases z (7 - i) (by omega) (by omega) with y | y
          · rw [hc] at y
            exact Or.inl y
          · exact Or.inr (n2.mp (fun l l0 l1 => y l (by omega) l1))
        · rintro ⟨z1, z2⟩ k k0 k1
          by_cases e : k = 7 - i
          · rw [e]
            rcases z2 with y | y
            · rw [hc]
              exact Or.inl y
            · exact Or.inr (fun l l0 l1 => n2.mpr y l (by omega) l1)
          · exact h1.mp z1 k (by omega) k1
      unfold qf_X15_isName_L8_b qf_X15_isName_J46 qf_X15_isName_J42 qf_X15_isName_J47 qf_X15_isName_J57 qf_X15_isLetter
      (try dsimp only)
      rw [if_neg (show ¬ 7 - i < 0 by omega), byteOf_r (by omega) (by omega), hc, w32_id (x := 7 - i - 1) (by omega) (by omega), show 7 - i - 1 = 7 - (i + 1) by omega]
      refine qW_bind (qW_some ?_)
      (try dsimp only)
      have fin : ∀ a' b' : Int, (a' = 0 ∨ a' = 1) → (b' = 0 ∨ b' = 1) → (a' = 1 ↔ (a = 1 ∧ ((97 ≤ c ∧ c ≤ 122) ∨ (c = 0 ∧ b = 0)))) → (b' = 0 ↔ (c = 0 ∧ b = 0)) → ∃ A B : Int, (Sum.inr (x, a', b', 7 - (i + 1)) : (Int ⊕ (Int × Int)) ⊕ (Int × Int × Int × Int)) = .inr (x, A, B, 7 - (i + 1)) ∧ (A = 0 ∨ A = 1) ∧ (B = 0 ∨ B = 1) ∧ (A = 1 ↔ ∀ k, 8 - (i + 1) ≤ k → k < 8 → (97 ≤ y8 x k ∧ y8 x k ≤ 122) ∨ ∀ l, k ≤ l → l < 8 → y8 x l = 0) ∧ (B = 0 ↔ ∀ l : Int, 8 - (i + 1) ≤ l → l < 8 → y8 x l = 0) := fun a' b' q1 q2 q3 q4 => ⟨a', b', rfl, q1, q2, q3.trans n1.symm, q4.trans n2.symm⟩
      clear h1 h2 n1 n2
      have go : ∀ {d1 : Decidable (b = 0)} {d2 : Decidable (c ≤ 0)} (t : Int), (t = 0 ∨ t = 1) → (t = 1 ↔ (a = 1 ∧ ((97 ≤ c ∧ c ≤ 122) ∨ (c = 0 ∧ b = 0)))) → qW (@ite (Option ((Int ⊕ (Int × Int)) ⊕ (Int × Int × Int × Int))) (b = 0) d1 (@ite _ (c ≤ 0) d2 (some (.inr (x, t, 0, 7 - (i + 1)))) (some (.inr (x, t, 1, 7 - (i + 1))))) (some (.inr (x, t, 1, 7 - (i + 1))))) (fun o => ∃ A B : Int, o = .inr (x, A, B, 7 - (i + 1)) ∧ (A = 0 ∨ A = 1) ∧ (B = 0 ∨ B = 1) ∧ (A = 1 ↔ ∀ k, 8 - (i + 1) ≤ k → k < 8 → (97 ≤ y8 x k ∧ y8 x k ≤ 122) ∨ ∀ l, k ≤ l → l < 8 → y8 x l = 0) ∧ (B = 0 ↔ ∀ l : Int, 8 - (i + 1) ≤ l → l < 8 → y8 x l = 0)) := by
        intro d1 d2 t t1 t2
        by_cases z1 : b = 0
        · rw [if_pos z1]
          by_cases z2 : c ≤ 0
          · rw [if_pos z2]
            exact qW_some (fin t 0 t1 (Or.inl rfl) t2 (by omega))
          · rw [if_neg z2]
            exact qW_some (fin t 1 t1 (Or.inr rfl) t2 (by omega))
        · rw [if_neg z1]
          exact qW_some (fin t 1 t1 (Or.inr rfl) t2 (by omega))
      by_cases g0 : a = 0
      · rw [if_pos g0]
        exact qW_mono (go 0 (Or.inl rfl) (by omega)) (by rintro _ ⟨A, B, rfl, z⟩; exact ⟨A, B, rfl, z⟩)
      · rw [if_neg g0]
        by_cases g1 : c ≤ 96
        · rw [if_pos g1]
          refine qW_bind (qW_some ?_)
          rw [if_pos rfl]
          by_cases g2 : c = 0
          · rw [if_pos g2]
            by_cases g3 : b = 0
            · rw [if_pos g3]
              exact qW_mono (go 1 (Or.inr rfl) (by omega)) (by rintro _ ⟨A, B, rfl, z⟩; exact ⟨A, B, rfl, z⟩)
            · rw [if_neg g3]
              exact qW_mono (go 0 (Or.inl rfl) (by omega)) (by rintro _ ⟨A, B, rfl, z⟩; exact ⟨A, B, rfl, z⟩)
          · rw [if_neg g2]
            exact qW_mono (go 0 (Or.inl rfl) (by omega)) (by rintro _ ⟨A, B, rfl, z⟩; exact ⟨A, B, rfl, z⟩)
        · rw [if_neg g1]
          by_cases g2 : 123 ≤ c
          · rw [if_pos g2]
            refine qW_bind (qW_some ?_)
            rw [if_pos rfl, if_neg (show ¬ c = 0 by omega)]
            exact qW_mono (go 0 (Or.inl rfl) (by omega)) (by rintro _ ⟨A, B, rfl, z⟩; exact ⟨A, B, rfl, z⟩)
          · rw [if_neg g2]
            refine qW_bind (qW_some ?_)
            rw [if_neg (by decide)]
            exact qW_mono (go 1 (Or.inr rfl) (by omega)) (by rintro _ ⟨A, B, rfl, z⟩; exact ⟨A, B, rfl, z⟩)
    · rintro _ ⟨a, b, rfl, ha, hb, h1, h2⟩
      unfold qf_X15_isName_L8_b
      (try dsimp only)
      rw [if_pos (show 7 - (8 : Int) < 0 by omega)]
      exact qW_some ⟨a, b, rfl, ha, hb, h1, h2⟩
    · exact ⟨1, 0, rfl, Or.inr rfl, Or.inl rfl, ⟨fun _ k a b => by omega, fun _ => rfl⟩, ⟨fun _ k a b => by omega, fun _ => rfl⟩⟩
  · rintro _ ⟨a, b, rfl, ha, hb, h1, h2⟩
    (try dsimp only)
    by_cases g1 : a = 0
    · rw [if_pos g1, b01_f (fun z => by have := h1.mpr z.2; omega)]
      exact qW_some rfl
    · rw [if_neg g1]
      by_cases g2 : b = 0
      · rw [if_pos g2, b01_f (fun z => x0.mp z.1 (h2.mp g2))]
        exact qW_some rfl
      · rw [if_neg g2, b01_t ⟨x0.mpr (fun z => g2 (h2.mpr z)), h1.mp (by omega)⟩]
        exact qW_some rfl
end FA
