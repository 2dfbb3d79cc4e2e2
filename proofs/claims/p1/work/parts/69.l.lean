/-! ===== names of facts: the class's reading and the reference's ===== -/
section FACTNAME
variable {N : Nat} {w : Int64} {S : zm_S}
theorem lg_eq {x y : Int64} : lg_cmp x y = 0 ↔ x = y := by
  unfold lg_cmp
  constructor
  · intro h
    by_cases h1 : x > y
    · rw [if_pos h1] at h
      exact absurd h (by decide)
    · rw [if_neg h1] at h
      by_cases h2 : x = y
      · exact h2
      · rw [if_neg h2] at h
        exact absurd h (by decide)
  · intro h
    subst h
    simp
def shw (w : Int64) (k : Nat) : Int64 := Int64.ofBitVec (w.toBitVec >>> (8 * k))
theorem shw_0 : shw w 0 = w := by
  apply Int64.toBitVec.inj
  show w.toBitVec >>> 0 = w.toBitVec
  exact BitVec.ushiftRight_zero _
theorem shw_s {k : Nat} : ((shw w k).toUInt64 >>> (((8 : Int32)).toInt64.toUInt64 &&& Int64.toUInt64 63)).toInt64 = shw w (k + 1) := by
  rw [show (((8 : Int32)).toInt64.toUInt64 &&& Int64.toUInt64 63) = (8 : UInt64) from by decide]
  apply Int64.toBitVec.inj
  show ((shw w k).toUInt64 >>> (8 : UInt64)).toBitVec = w.toBitVec >>> (8 * (k + 1))
  rw [UInt64.toBitVec_shiftRight, show 8 * (k + 1) = 8 * k + 8 from by omega, BitVec.shiftRight_add]
  rfl
theorem shw_b {k : Nat} : (shw w k) &&& 255 = Int64.ofNat (by8 w k) := by
  apply Int64.toBitVec.inj
  apply BitVec.eq_of_getLsbD_eq
  intro i hi
  have e255 : (255 : Int64).toBitVec.getLsbD i = decide (i < 8) := by
    show (BitVec.ofNat 64 (2 ^ 8 - 1)).getLsbD i = _
    rw [BitVec.getLsbD_ofNat, Nat.testBit_two_pow_sub_one]
    simp only [hi, decide_true, Bool.true_and]
  have e2 : (Int64.ofNat (by8 w k)).toBitVec.getLsbD i = (decide (i < 8) && w.toBitVec.getLsbD (8 * k + i)) := by
    show (BitVec.ofNat 64 (by8 w k)).getLsbD i = _
    rw [BitVec.getLsbD_ofNat]
    unfold by8
    rw [Nat.testBit_mod_two_pow, Nat.testBit_div_two_pow]
    simp only [hi, decide_true, Bool.true_and, BitVec.getLsbD, Nat.add_comm]
  rw [e2]
  show ((w.toBitVec >>> (8 * k)) &&& (255 : Int64).toBitVec).getLsbD i = _
  rw [BitVec.getLsbD_and, e255, BitVec.getLsbD_ushiftRight, Bool.and_comm]
def zt (w : Int64) (k : Nat) : Prop := ∀ j, k ≤ j → j < 8 → by8 w j = 0
theorem zt_n : ∀ (d k : Nat), k + d = 8 → (w.toBitVec.toNat / 2 ^ (8 * k) = 0 ↔ zt w k) := by
  intro d
  induction d with
  | zero =>
    intro k h
    have hk : k = 8 := by omega
    subst hk
    refine ⟨fun _ j h1 h2 => absurd h1 (by omega), fun _ => ?_⟩
    exact Nat.div_eq_of_lt w.toBitVec.isLt
  | succ d ih =>
    intro k h
    have e : w.toBitVec.toNat / 2 ^ (8 * (k + 1)) = w.toBitVec.toNat / 2 ^ (8 * k) / 256 := by
      rw [show 8 * (k + 1) = 8 * k + 8 from by omega, Nat.pow_add, Nat.div_div_eq_div_mul]
    have eb : by8 w k = w.toBitVec.toNat / 2 ^ (8 * k) % 256 := rfl
    have i2 := ih (k + 1) (by omega)
    rw [e] at i2
    constructor
    · intro q j h1 h2
      by_cases ej : j = k
      · subst ej
        rw [eb, q]
      · exact i2.mp (by rw [q]) j (by omega) h2
    · intro q
      have q1 := i2.mpr (fun j h1 h2 => q j (by omega) h2)
      have q2 := q k (by omega) (by omega)
      rw [eb] at q2
      omega
theorem shw_z {k : Nat} (hk : k ≤ 8) : lg_cmp (shw w k) 0 = 0 ↔ zt w k := by
  rw [lg_eq, ← zt_n (w := w) (8 - k) k (by omega)]
  constructor
  · intro h
    have h2 : (shw w k).toBitVec.toNat = 0 := by
      rw [h]
      rfl
    have h3 : (w.toBitVec >>> (8 * k)).toNat = 0 := h2
    rw [BitVec.toNat_ushiftRight, Nat.shiftRight_eq_div_pow] at h3
    exact h3
  · intro h
    apply Int64.toBitVec.inj
    apply BitVec.eq_of_toNat_eq
    show (w.toBitVec >>> (8 * k)).toNat = 0
    rw [BitVec.toNat_ushiftRight, Nat.shiftRight_eq_div_pow]
    exact h
def ltb (n : Nat) : Prop := 97 ≤ n ∧ n ≤ 122
def nmP (w : Int64) (k : Nat) : Prop := ∀ j, k ≤ j → j < 8 → ltb (by8 w j) ∨ zt w j
def nameW (w : Int64) : Prop := nmP w 0 ∧ ¬ zt w 0
theorem zt_up {k j : Nat} (h : zt w k) (hj : k ≤ j) : zt w j := fun i h1 h2 => h i (by omega) h2
theorem zt_nl {j : Nat} (h : zt w j) (hj : j < 8) : ¬ ltb (by8 w j) := by
  rw [h j (Nat.le_refl _) hj]
  unfold ltb
  omega
theorem f_cl (hN : 9 < N) : ∀ (m k : Nat), k ≤ 8 → 8 < k + m → (∀ j, j < k → ltb (by8 w j)) → (nmP w 0 ∧ zf_X7_isFactName_L5 N m w (shw w k) (Int32.ofNat k) S = some (.inr ((), S))) ∨ (¬ nmP w 0 ∧ zf_X7_isFactName_L5 N m w (shw w k) (Int32.ofNat k) S = some (.inl (0, S))) := by
  intro m
  induction m with
  | zero => intro k h1 h2; omega
  | succ m ih =>
    intro k h1 h2 h3
    rw [zf_X7_isFactName_L5]
    by_cases hk : k = 8
    · subst hk
      exact Or.inl ⟨fun j _ hj => Or.inl (h3 j hj), if_pos (by decide)⟩
    · have hk8 : k < 8 := by omega
      rw [if_neg (fun q => by
        have := (yn_le (a := 8) (b := k) (by decide) (by omega)).mp q
        omega)]
      by_cases hz : zt w k
      · rw [if_pos ((shw_z h1).mpr hz)]
        refine Or.inl ⟨fun j _ hj => ?_, rfl⟩
        by_cases e : j < k
        · exact Or.inl (h3 j e)
        · exact Or.inr (zt_up hz (by omega))
      · rw [if_neg (fun q => hz ((shw_z h1).mp q)), shw_b]
        have hb := by8_lt (w := w) (k := k)
        by_cases c1 : by8 w k < 97
        · rw [if_pos ((lg_97 hb).mpr c1)]
          refine Or.inr ⟨fun g => ?_, rfl⟩
          rcases g k (Nat.zero_le _) hk8 with h | h
          · exact absurd h.1 (by omega)
          · exact hz h
        · rw [if_neg (fun q => c1 ((lg_97 hb).mp q))]
          by_cases c2 : by8 w k ≤ 122
          · rw [if_pos ((lg_122 hb).mpr c2), shw_s, yn_s]
            refine ih (k + 1) (by omega) (by omega) (fun j hj => ?_)
            by_cases e : j = k
            · rw [e]
              exact ⟨by omega, c2⟩
            · exact h3 j (by omega)
          · rw [if_neg (fun q => c2 ((lg_122 hb).mp q))]
            refine Or.inr ⟨fun g => ?_, rfl⟩
            rcases g k (Nat.zero_le _) hk8 with h | h
            · exact absurd h.2 (by omega)
            · exact hz h
theorem f_fname : (nameW w ∧ zf_X7_isFactName 4000 w S = some (1, S)) ∨ (¬ nameW w ∧ zf_X7_isFactName 4000 w S = some (0, S)) := by
  unfold zf_X7_isFactName
  have hz := shw_z (w := w) (k := 0) (by decide)
  rw [shw_0] at hz
  rcases f_cl (N := 4000) (w := w) (S := S) (by decide) 4000 0 (by decide) (by decide) (fun j hj => absurd hj (Nat.not_lt_zero _)) with ⟨h, e⟩ | ⟨h, e⟩
  · rw [shw_0] at e
    by_cases z : zt w 0
    · refine Or.inr ⟨fun g => g.2 z, zb_to e ?_⟩
      show zf_X7_isFactName_J56 4000 w S = _
      unfold zf_X7_isFactName_J56
      exact if_pos (hz.mpr z)
    · refine Or.inl ⟨⟨h, z⟩, zb_to e ?_⟩
      show zf_X7_isFactName_J56 4000 w S = _
      unfold zf_X7_isFactName_J56
      exact if_neg (fun q => z (hz.mp q))
  · rw [shw_0] at e
    exact Or.inr ⟨fun g => h g.1, zb_to e rfl⟩
def fV (w : Int64) (k : Nat) (v : Int32) : Prop := (v = 1 ∧ nmP w k) ∨ (v = 0 ∧ ¬ nmP w k)
def fZ (w : Int64) (k : Nat) (s : Int32) : Prop := (s = 0 ∧ zt w k) ∨ (s = 1 ∧ ¬ zt w k)
theorem zt_dn {k : Nat} (hk : k < 8) : zt w k ↔ (zt w (k + 1) ∧ by8 w k = 0) := by
  refine ⟨fun h => ⟨zt_up h (by omega), h k (Nat.le_refl _) hk⟩, fun h j h1 h2 => ?_⟩
  by_cases e : j = k
  · rw [e]
    exact h.2
  · exact h.1 j (by omega) h2
theorem nm_dn {k : Nat} (hk : k < 8) : nmP w k ↔ (nmP w (k + 1) ∧ (ltb (by8 w k) ∨ zt w k)) := by
  refine ⟨fun h => ⟨fun j h1 h2 => h j (by omega) h2, h k (Nat.le_refl _) hk⟩, fun h j h1 h2 => ?_⟩
  by_cases e : j = k
  · rw [e]
    exact h.2
  · exact h.1 j (by omega) h2
theorem i0_1 : ¬ (1 : Int32) = 0 := by decide
/-- one turn of the reference's loop: what it hands on -/
theorem f_j47 {k : Nat} (hk : k < 8) {s t : Int32} (hs : fZ w (k + 1) s) (kf : Int64 → Int32 → Int32 → Int32 → zm_S → Option ((Int32 × zm_S) ⊕ ((Int32 × Int32) × zm_S))) {i4 : Int32} : ∃ s', fZ w k s' ∧ zf_X15_isName_J47 N kf w s i4 (Int32.ofNat (by8 w k)) t S = kf w t s' (i4 + (-1 : Int32)) S := by
  have hb := by8_lt (w := w) (k := k)
  have le0 : Int32.ofNat (by8 w k) ≤ 0 ↔ by8 w k = 0 := by
    have := yn_le (a := by8 w k) (b := 0) (by omega) (by decide)
    constructor
    · intro q
      have := this.mp q
      omega
    · intro q
      exact this.mpr (by omega)
  unfold zf_X15_isName_J47 zf_X15_isName_J57
  rcases hs with ⟨rfl, z⟩ | ⟨rfl, z⟩
  · by_cases c : by8 w k = 0
    · refine ⟨0, Or.inl ⟨rfl, (zt_dn hk).mpr ⟨z, c⟩⟩, ?_⟩
      rw [if_pos rfl, if_pos (le0.mpr c)]
    · refine ⟨1, Or.inr ⟨rfl, fun q => c ((zt_dn hk).mp q).2⟩, ?_⟩
      rw [if_pos rfl, if_neg (fun q => c (le0.mp q))]
  · refine ⟨1, Or.inr ⟨rfl, fun q => z ((zt_dn hk).mp q).1⟩, ?_⟩
    rw [if_neg i0_1]
theorem f_rl (hN : 9 < N) : ∀ (m k : Nat) (v s : Int32), k ≤ 8 → k < m → fV w k v → fZ w k s → ∃ v' s', fV w 0 v' ∧ fZ w 0 s' ∧ zf_X15_isName_L8 N m w v s (sJ k) S = some (.inr ((v', s'), S)) := by
  intro m
  induction m with
  | zero => intro k v s h1 h2; omega
  | succ m ih =>
    intro k v s h1 h2 hv hs
    match k, h1, h2, hv, hs with
    | 0, _, _, hv, hs =>
      refine ⟨v, s, hv, hs, ?_⟩
      rw [zf_X15_isName_L8]
      exact if_pos (by decide)
    | k + 1, h1, h2, hv, hs =>
      have hk8 : k < 8 := by omega
      obtain ⟨q1, q2, q3⟩ := sJ_s hk8
      have hb := by8_lt (w := w) (k := k)
      have eb : zf_X15_byteOf N w (sJ (k + 1)) S = some (Int32.ofNat (by8 w k), S) := by
        unfold zf_X15_byteOf
        rw [q2, wb hk8, i64_32 hb]
      rw [zf_X15_isName_L8, if_neg q1]
      have go : ∀ t : Int32, fV w k t → ∃ v' s', fV w 0 v' ∧ fZ w 0 s' ∧ zf_X15_isName_J47 N (zf_X15_isName_L8 N m) w s (sJ (k + 1)) (Int32.ofNat (by8 w k)) t S = some (.inr ((v', s'), S)) := by
        intro t ht
        obtain ⟨s1, z1, e1⟩ := f_j47 (N := N) (S := S) (t := t) hk8 hs (zf_X15_isName_L8 N m) (i4 := sJ (k + 1))
        rw [e1, q3]
        exact ih k t s1 (by omega) (by omega) ht z1
      have lt1 : Int32.ofNat (by8 w k) ≤ 96 ↔ by8 w k ≤ 96 := yn_le (a := by8 w k) (b := 96) (by omega) (by decide)
      have lt2 : (123 : Int32) ≤ Int32.ofNat (by8 w k) ↔ 123 ≤ by8 w k := yn_le (a := 123) (b := by8 w k) (by decide) (by omega)
      have eq0 : Int32.ofNat (by8 w k) = 0 ↔ by8 w k = 0 := by
        constructor
        · intro q
          have := (yn_le (a := by8 w k) (b := 0) (by omega) (by decide)).mp (by rw [q]; decide)
          omega
        · intro q
          rw [q]
          rfl
      rcases hv with ⟨rfl, p⟩ | ⟨rfl, p⟩
      · by_cases c : ltb (by8 w k)
        · have el : zf_X15_isLetter N (Int32.ofNat (by8 w k)) S = some (1, S) := by
            unfold zf_X15_isLetter
            rw [if_neg (fun q => absurd (lt1.mp q) (by have := c.1; omega)), if_neg (fun q => absurd (lt2.mp q) (by have := c.2; omega))]
          obtain ⟨v', s', a1, a2, a3⟩ := go 1 (Or.inl ⟨rfl, (nm_dn hk8).mpr ⟨p, Or.inl c⟩⟩)
          refine ⟨v', s', a1, a2, zb_to eb ?_⟩
          refine (if_neg i0_1).trans (zb_to el ?_)
          refine (if_neg i0_1).trans ?_
          exact a3
        · have el : zf_X15_isLetter N (Int32.ofNat (by8 w k)) S = some (0, S) := by
            unfold zf_X15_isLetter
            by_cases c1 : by8 w k ≤ 96
            · rw [if_pos (lt1.mpr c1)]
            · rw [if_neg (fun q => c1 (lt1.mp q)), if_pos (lt2.mpr (by
                unfold ltb at c
                omega))]
          by_cases c0 : by8 w k = 0
          · rcases hs with ⟨rfl, z⟩ | ⟨rfl, z⟩
            · obtain ⟨v', s', a1, a2, a3⟩ := go 1 (Or.inl ⟨rfl, (nm_dn hk8).mpr ⟨p, Or.inr ((zt_dn hk8).mpr ⟨z, c0⟩)⟩⟩)
              refine ⟨v', s', a1, a2, zb_to eb ?_⟩
              refine (if_neg i0_1).trans (zb_to el ?_)
              refine (if_pos rfl).trans ((if_pos (eq0.mpr c0)).trans ((if_pos rfl).trans ?_))
              exact a3
            · obtain ⟨v', s', a1, a2, a3⟩ := go 0 (Or.inr ⟨rfl, fun q => by
                rcases ((nm_dn hk8).mp q).2 with h | h
                · exact c h
                · exact z ((zt_dn hk8).mp h).1⟩)
              refine ⟨v', s', a1, a2, zb_to eb ?_⟩
              refine (if_neg i0_1).trans (zb_to el ?_)
              refine (if_pos rfl).trans ((if_pos (eq0.mpr c0)).trans ((if_neg i0_1).trans ?_))
              exact a3
          · obtain ⟨v', s', a1, a2, a3⟩ := go 0 (Or.inr ⟨rfl, fun q => by
              rcases ((nm_dn hk8).mp q).2 with h | h
              · exact c h
              · exact c0 ((zt_dn hk8).mp h).2⟩)
            refine ⟨v', s', a1, a2, zb_to eb ?_⟩
            refine (if_neg i0_1).trans (zb_to el ?_)
            refine (if_pos rfl).trans ((if_neg (fun q => c0 (eq0.mp q))).trans ?_)
            exact a3
      · obtain ⟨v', s', a1, a2, a3⟩ := go 0 (Or.inr ⟨rfl, fun q => p ((nm_dn hk8).mp q).1⟩)
        refine ⟨v', s', a1, a2, zb_to eb ?_⟩
        refine (if_pos rfl).trans ?_
        exact a3
theorem f_rname : (nameW w ∧ zf_X15_isName 4000 w S = some (1, S)) ∨ (¬ nameW w ∧ zf_X15_isName 4000 w S = some (0, S)) := by
  unfold zf_X15_isName
  have v8 : fV w 8 1 := Or.inl ⟨rfl, fun j h1 h2 => absurd h1 (by omega)⟩
  have z8 : fZ w 8 0 := Or.inl ⟨rfl, fun j h1 h2 => absurd h1 (by omega)⟩
  obtain ⟨v, s, hv, hs, e⟩ := f_rl (N := 4000) (S := S) (by decide) 4000 8 1 0 (by decide) (by decide) v8 z8
  rw [show sJ 8 = 7 from by decide] at e
  rcases hv with ⟨rfl, p⟩ | ⟨rfl, p⟩
  · rcases hs with ⟨rfl, z⟩ | ⟨rfl, z⟩
    · exact Or.inr ⟨fun g => g.2 z, zb_to e rfl⟩
    · exact Or.inl ⟨⟨p, z⟩, zb_to e rfl⟩
  · exact Or.inr ⟨fun g => p g.1, zb_to e rfl⟩
variable {k : Nat → Nat → Nat → Nat → Int32 → Nat → Nat → zm_S → Option ((Int32 × zm_S) ⊕ (Unit × zm_S))} {xs : Nat → Int32}
theorem hs_fname {ff : Int32 × zm_S → Option ((Int32 × zm_S) ⊕ (Unit × zm_S))} (h1 : nameW w → fQ k xs (ff (1, S))) (h2 : ¬ nameW w → fQ k xs (ff (0, S))) : fQ k xs ((zf_X7_isFactName 4000 w S).bind ff) := by
  rcases f_fname (w := w) (S := S) with ⟨g, e⟩ | ⟨g, e⟩
  · exact hb_of e (h1 g)
  · exact hb_of e (h2 g)
theorem hs_rname {ff : Int32 × zm_S → Option ((Int32 × zm_S) ⊕ (Unit × zm_S))} (h1 : nameW w → fQ k xs (ff (1, S))) (h2 : ¬ nameW w → fQ k xs (ff (0, S))) : fQ k xs ((zf_X15_isName 4000 w S).bind ff) := by
  rcases f_rname (w := w) (S := S) with ⟨g, e⟩ | ⟨g, e⟩
  · exact hb_of e (h1 g)
  · exact hb_of e (h2 g)
end FACTNAME
