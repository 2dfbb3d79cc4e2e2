/-! ===== the giving: the class costs all sets of all cars ===== -/
section GVq
variable {M K A W Z X Y V : qm} {a b d i k p q v w T y fl bh sp : Int} {c n s r C : Nat} {l t u pre : List Int} {B B' : Int × List Int}
theorem bit_hi {x i : Nat} (hx : x < 2 ^ n) (hi : n ≤ i) (i6 : i < 6) : bitN x i = false := bit_lo i6 (Nat.lt_of_lt_of_le hx (Nat.pow_le_pow_right (by decide) hi))
theorem bit_an_all : ((List.range 64).all (fun x => (List.range 6).all (fun i => bA (x : Int) (bL 1 (i : Int)) == ((if bitN x i then 2 ^ i else 0 : Nat) : Int)))) = true := by decide +kernel
theorem bit_an (hx : r < 64) (hi : s < 6) : bA (r : Int) (bL 1 (s : Int)) = ((if bitN r s then 2 ^ s else 0 : Nat) : Int) := beq_iff_eq.mp (all_2 bit_an_all hx hi)
theorem span_C {j x : Int} (x0 : 0 ≤ x) (x1 : x < 400) (j0 : 0 ≤ j) (j1 : j < 4) : qf_X3_isInSpan 20000 x j M = some (b01 (M 1338 j 3 ≤ M 1343 x 0 ∧ M 1343 x 0 ≤ M 1338 j 4 ∧ M 1338 j 3 ≤ M 1343 x 1 ∧ M 1343 x 1 ≤ M 1338 j 4)) := by
  unfold qf_X3_isInSpan
  simp only [if_pos (show 0 ≤ x ∧ x < 400 from ⟨x0, x1⟩), if_pos (show 0 ≤ j ∧ j < 4 from ⟨j0, j1⟩)]
  by_cases g1 : min (M 1343 x 0) (M 1343 x 1) < M 1338 j 3
  · rw [if_pos g1, b01_f (by omega)]
  · rw [if_neg g1]
    by_cases g2 : M 1338 j 4 < max (M 1343 x 0) (M 1343 x 1)
    · rw [if_pos g2, b01_f (by omega)]
    · rw [if_neg g2, b01_t (by omega)]
/-- the class's cars for a call are the reference's -/
theorem carsThat_C {x : Int} (n0 : 0 ≤ K 2270 0 0) (n1 : K 2270 0 0 ≤ 4) (hn : M 1337 0 0 = K 2270 0 0) (x0 : 0 ≤ x) (x1 : x < 400) (hs : ∀ j : Int, 0 ≤ j → j < K 2270 0 0 → K 2274 j 0 = M 1338 j 3 ∧ K 2275 j 0 = M 1338 j 4 ∧ (K 2280 x 0 = j ↔ M 1338 j 5 = x)) (hf : M 1343 x 0 = K 2276 x 0) (ht : M 1343 x 1 = K 2277 x 0) (b0 : -1 ≤ K 2280 x 0) (b1 : K 2280 x 0 < K 2270 0 0) : ∃ w : Nat, w < 16 ∧ qf_X3_carsThatMayTake 20000 x M = some (w : Int) ∧ ∀ j : Nat, j < 4 → (bitN w j = true ↔ (j : Int) < K 2270 0 0 ∧ mayT K j x) := by
  obtain ⟨o, e1, w, bg, rfl, w1, w2, w3⟩ : qW (qf_X3_carsThatMayTake_L7 20000 20000 x 0 (-1) 0 M) (fun o => ∃ (w : Nat) (bg : Int), o = .inr ((w : Int), bg) ∧ w < 16 ∧ (∀ j : Nat, j < 4 → (bitN w j = true ↔ (j : Int) < K 2270 0 0 ∧ K 2274 j 0 ≤ K 2276 x 0 ∧ K 2276 x 0 ≤ K 2275 j 0 ∧ K 2274 j 0 ≤ K 2277 x 0 ∧ K 2277 x 0 ≤ K 2275 j 0)) ∧ ((bg = -1 ∧ ∀ j, 0 ≤ j → j < K 2270 0 0 → M 1338 j 5 ≠ x) ∨ (0 ≤ bg ∧ bg < K 2270 0 0 ∧ M 1338 bg 5 = x))) := by
    unfold qf_X3_carsThatMayTake_L7
    refine qW_for (K 2270 0 0) (fun i s => ∃ (w : Nat) (bg : Int), s = (x, (w : Int), bg, i) ∧ w < 2 ^ i.toNat ∧ (∀ j : Nat, j < 4 → (bitN w j = true ↔ (j : Int) < i ∧ K 2274 j 0 ≤ K 2276 x 0 ∧ K 2276 x 0 ≤ K 2275 j 0 ∧ K 2274 j 0 ≤ K 2277 x 0 ∧ K 2277 x 0 ≤ K 2275 j 0)) ∧ ((bg = -1 ∧ ∀ j, 0 ≤ j → j < i → M 1338 j 5 ≠ x) ∨ (0 ≤ bg ∧ bg < i ∧ M 1338 bg 5 = x))) ?_ ?_ ⟨0, -1, rfl, by decide, fun j j1 => ?_, Or.inl ⟨rfl, fun j j0 j1 => by omega⟩⟩ n0 (by omega)
    · rintro i _ i0 i1 ⟨w, bg, rfl, hw, h, hg⟩
      obtain ⟨I, rfl⟩ : ∃ I : Nat, i = I := ⟨i.toNat, by omega⟩
      rw [show ((I : Int)).toNat = I by omega] at hw
      have p4 := pow_4 (show I ≤ 4 by omega)
      have pe : 2 ^ (I + 1) = 2 ^ I + 2 ^ I := by rw [Nat.pow_succ]; omega
      have off := bit_lo (show I < 6 by omega) hw
      have hsI := hs I (by omega) i1
      obtain ⟨P, hP⟩ : ∃ P : Prop, (M 1338 I 3 ≤ M 1343 x 0 ∧ M 1343 x 0 ≤ M 1338 I 4 ∧ M 1338 I 3 ≤ M 1343 x 1 ∧ M 1343 x 1 ≤ M 1338 I 4) = P := ⟨_, rfl⟩
      have hP2 : P ↔ (K 2274 I 0 ≤ K 2276 x 0 ∧ K 2276 x 0 ≤ K 2275 I 0 ∧ K 2274 I 0 ≤ K 2277 x 0 ∧ K 2277 x 0 ≤ K 2275 I 0) := by
        rw [← hP, hsI.1, hsI.2.1, hf, ht]
      obtain ⟨bg', hb'⟩ : ∃ bg', (if M 1338 I 5 = x then (I : Int) else bg) = bg' := ⟨_, rfl⟩
      have hg' : (bg' = -1 ∧ ∀ j, 0 ≤ j → j < (I : Int) + 1 → M 1338 j 5 ≠ x) ∨ (0 ≤ bg' ∧ bg' < (I : Int) + 1 ∧ M 1338 bg' 5 = x) := by
        by_cases g : M 1338 I 5 = x
        · rw [if_pos g] at hb'
          rw [← hb']
          exact Or.inr ⟨by omega, by omega, g⟩
        · rw [if_neg g] at hb'
          rw [← hb']
          rcases hg with ⟨z1, z2⟩ | ⟨z1, z2, z3⟩
          · refine Or.inl ⟨z1, fun j j0 j1 => ?_⟩
            by_cases e : j = I
            · rw [e]
              exact g
            · exact z2 j j0 (by omega)
          · exact Or.inr ⟨z1, by omega, z3⟩
      have st : ∀ t0 : Int, qf_X3_carsThatMayTake_J36 20000 x bg I t0 M = some (.inr (x, t0, bg', (I : Int) + 1)) := fun t0 => by
        unfold qf_X3_carsThatMayTake_J36
        rw [if_pos (show 0 ≤ (I : Int) ∧ (I : Int) < 4 by omega), w32_id (x := (I : Int) + 1) (by omega) (by omega)]
        by_cases g : M 1338 I 5 = x
        · rw [if_pos g] at hb' ⊢
          rw [hb']
        · rw [if_neg g] at hb' ⊢
          rw [hb']
      show qW (qf_X3_carsThatMayTake_L7_b 20000 x (w : Int) bg (I : Int) M) _
      unfold qf_X3_carsThatMayTake_L7_b
      rw [if_neg (show ¬ M 1337 0 0 ≤ (I : Int) by omega), span_C x0 x1 (by omega) (by omega), hP]
      simp only [Option.bind_some]
      rw [bit_o (show w < 64 by omega) (show I < 6 by omega), off, if_neg (show ¬ false = true by decide), st, st]
      by_cases g : P
      · rw [b01_t g, if_neg (by decide)]
        refine qW_some ⟨w + 2 ^ I, bg', rfl, ?_, fun j j1 => ?_, hg'⟩
        · rw [show ((I : Int) + 1).toNat = I + 1 by omega, pe]
          omega
        · rw [bit_add (show w < 64 by omega) (show I < 6 by omega) (show j < 6 by omega) off, Bool.or_eq_true, h j j1, beq_iff_eq]
          by_cases e : j = I
          · rw [e]
            exact ⟨fun _ => ⟨by omega, hP2.mp g⟩, fun _ => Or.inr rfl⟩
          · exact ⟨fun z => z.elim (fun y => ⟨by omega, y.2⟩) (fun y => absurd y e), fun z => Or.inl ⟨by omega, z.2⟩⟩
      · rw [b01_f g, if_pos rfl]
        refine qW_some ⟨w, bg', rfl, ?_, fun j j1 => ?_, hg'⟩
        · rw [show ((I : Int) + 1).toNat = I + 1 by omega, pe]
          omega
        · rw [h j j1]
          by_cases e : j = I
          · rw [e]
            exact ⟨fun z => absurd (hP2.mpr z.2) g, fun z => absurd (hP2.mpr z.2) g⟩
          · exact ⟨fun z => ⟨by omega, z.2⟩, fun z => ⟨by omega, z.2⟩⟩
    · rintro _ ⟨w, bg, rfl, hw, h, hg⟩
      have p4 := pow_4 (show (K 2270 0 0).toNat ≤ 4 by omega)
      show qW (qf_X3_carsThatMayTake_L7_b 20000 x (w : Int) bg (K 2270 0 0) M) _
      unfold qf_X3_carsThatMayTake_L7_b
      rw [if_pos (by omega)]
      exact qW_some ⟨w, bg, rfl, by omega, h, hg⟩
    · rw [bit_0]
      exact ⟨fun y => (by cases y), fun y => (by omega)⟩
  unfold qf_X3_carsThatMayTake
  rw [e1]
  simp only [Option.bind_some]
  rcases w3 with ⟨z1, z2⟩ | ⟨z1, z2, z3⟩
  · rw [if_pos z1]
    refine ⟨w, w1, rfl, fun j j1 => ?_⟩
    rw [w2 j j1]
    have neg : K 2280 x 0 < 0 := by
      refine Classical.byContradiction (fun z => ?_)
      exact z2 (K 2280 x 0) (by omega) b1 ((hs _ (by omega) b1).2.2.mp rfl)
    unfold mayT
    omega
  · obtain ⟨R, rfl⟩ : ∃ R : Nat, bg = R := ⟨bg.toNat, by omega⟩
    rw [if_neg (show ¬ (R : Int) = -1 by omega)]
    have bR := (hs R z1 z2).2.2.mpr z3
    refine ⟨if bitN w R then 2 ^ R else 0, ?_, ?_, fun j j1 => ?_⟩
    · have p : 2 ^ R ≤ 8 := by
        have c : R = 0 ∨ R = 1 ∨ R = 2 ∨ R = 3 := (by omega)
        rcases c with rfl | rfl | rfl | rfl <;> decide
      by_cases g : bitN w R = true
      · rw [if_pos g]
        omega
      · rw [if_neg g]
        omega
    · rw [bit_an (show w < 64 by omega) (show R < 6 by omega)]
    · have key : bitN (2 ^ R) j = (j == R) := by
        have q := bit_add (n := 0) (m := R) (r := j) (by decide) (by omega) (by omega) (bit_0 R)
        rw [Nat.zero_add, bit_0, Bool.false_or] at q
        exact q
      by_cases g : bitN w R = true
      · rw [if_pos g, key, beq_iff_eq]
        have q := (w2 R (by omega)).mp g
        unfold mayT
        by_cases e : j = R
        · rw [e]
          exact ⟨fun _ => ⟨z2, by omega⟩, fun _ => rfl⟩
        · exact ⟨fun z => absurd z e, fun z => by omega⟩
      · rw [if_neg g, bit_0]
        have q := fun z => g ((w2 R (by omega)).mpr z)
        unfold mayT
        refine ⟨fun z => (by cases z), fun z => ?_⟩
        have e : j = R := by omega
        rw [e] at z
        exact absurd ⟨z2, by omega⟩ q
/-- the set x may go with the car c -/
def MTA (M : qm) (n c x : Nat) : Prop := ∀ k : Nat, k < n → bitN x k = true → bitN (M 2146 (k : Int) 0).toNat c = true
theorem takeAll_C {x : Nat} (hn : M 1337 4 0 = n) (n6 : n ≤ 6) (c4 : c < 4) (hx : x < 64) (hw : ∀ k : Nat, k < n → 0 ≤ M 2146 (k : Int) 0 ∧ M 2146 (k : Int) 0 < 16) : qf_X3_mayTakeAll 20000 c x M = some (b01 (MTA M n c x)) := by
  obtain ⟨o, e1, ho⟩ : qW (qf_X3_mayTakeAll_L2 20000 20000 c x 0 M) (fun o => (o = .inl 0 ∧ ¬ MTA M n c x) ∨ (o = .inr () ∧ MTA M n c x)) := by
    unfold qf_X3_mayTakeAll_L2
    refine qW_for n (fun i s => s = ((c : Int), (x : Int), i) ∧ ∀ k : Nat, (k : Int) < i → bitN x k = true → bitN (M 2146 (k : Int) 0).toNat c = true) ?_ ?_ ⟨rfl, fun k k1 => by omega⟩ (by omega) (by omega)
    · rintro i _ i0 i1 ⟨rfl, h⟩
      obtain ⟨I, rfl⟩ : ∃ I : Nat, i = I := ⟨i.toNat, by omega⟩
      have w := hw I (by omega)
      obtain ⟨v, hv⟩ : ∃ v : Nat, M 2146 (I : Int) 0 = v := ⟨(M 2146 (I : Int) 0).toNat, by omega⟩
      show qW (qf_X3_mayTakeAll_L2_b 20000 c x I M) _
      unfold qf_X3_mayTakeAll_L2_b
      rw [if_neg (show ¬ M 1337 4 0 ≤ (I : Int) by omega), bit_e hx (show I < 6 by omega), hv, bit_e (show v < 64 by omega) (show c < 6 by omega), if_pos (show 0 ≤ (I : Int) ∧ (I : Int) < 6 by omega), w32_id (x := (I : Int) + 1) (by omega) (by omega)]
      by_cases g : bitN x I = true
      · rw [if_pos g, if_neg (by decide)]
        by_cases g2 : bitN v c = true
        · rw [if_pos g2, if_neg (by decide)]
          refine qW_some ⟨rfl, fun k k1 k2 => ?_⟩
          by_cases e : k = I
          · rw [e, hv]
            exact g2
          · exact h k (by omega) k2
        · rw [if_neg g2, if_pos rfl]
          refine qW_some (Or.inl ⟨rfl, fun z => g2 ?_⟩)
          have q := z I (by omega) g
          rw [hv] at q
          exact q
      · rw [if_neg g, if_pos rfl]
        refine qW_some ⟨rfl, fun k k1 k2 => ?_⟩
        by_cases e : k = I
        · rw [e] at k2
          exact absurd k2 g
        · exact h k (by omega) k2
    · rintro _ ⟨rfl, h⟩
      show qW (qf_X3_mayTakeAll_L2_b 20000 c x n M) _
      unfold qf_X3_mayTakeAll_L2_b
      rw [if_pos (by omega)]
      exact qW_some (Or.inr ⟨rfl, fun k k1 => h k (by omega)⟩)
  unfold qf_X3_mayTakeAll
  rw [e1]
  simp only [Option.bind_some]
  rcases ho with ⟨rfl, h⟩ | ⟨rfl, h⟩
  · rw [b01_f h]
  · rw [b01_t h]
/-- besides what is tried and what costs all is as in M -/
def CRF (M Z : qm) : Prop := ∀ e x y, e ≠ 2152 → e ≠ 2153 → ¬ (e = 1337 ∧ x = 12) → e ≠ 2147 → Z e x y = M e x y
theorem crf_l (f : CRF M Z) (h : LKC M K n c) : LKC Z K n c := lnk_o (fun e x y z => f e x y (by omega) (by omega) (by omega) (by omega)) h
theorem crf_c {x : Nat} (f : CRF M Z) : calC Z x n = calC M x n := by
  unfold calC
  rw [show (fun k => Z 1744 k 0) = (fun k => M 1744 k 0) from funext (fun k => f _ _ _ (by decide) (by decide) (by omega) (by decide))]
theorem crf_m {x : Nat} (f : CRF M Z) : MTA Z n c x ↔ MTA M n c x := by
  unfold MTA
  have e : ∀ k, Z 2146 k 0 = M 2146 k 0 := fun k => f _ _ _ (by decide) (by decide) (by omega) (by decide)
  exact ⟨fun h k k1 k2 => by rw [← e]; exact h k k1 k2, fun h k k1 k2 => by rw [e]; exact h k k1 k2⟩
/-- what a set costs in the class -/
def RWC (M K Z : qm) (n c x : Nat) : Prop := (MTA M n c x ∧ Z 2147 c x = (bst K c (calC M x n)).1) ∨ (¬ MTA M n c x ∧ Z 2147 c x = 0)
theorem costRows_C (h : LKC M K n c) (hw : ∀ k : Nat, k < n → 0 ≤ M 2146 (k : Int) 0 ∧ M 2146 (k : Int) 0 < 16) : ∃ Y, qf_X3_costRows 20000 c M = some ((), Y) ∧ CRF M Y ∧ (∀ x y, x ≠ (c : Int) → Y 2147 x y = M 2147 x y) ∧ ∀ x : Nat, x < 2 ^ n → RWC M K Y n c x := by
  have n6 := h.2.1
  have hn := h.1
  have hc4 := h.2.2.1
  unfold CAR at hc4
  have p := pow_6 n6
  obtain ⟨o, e1, Y, rfl, y1, y2, y3⟩ : qW (qf_X3_costRows_L2 20000 20000 c 0 M) (fun o => ∃ Y, o = .inr ((), Y) ∧ CRF M Y ∧ (∀ x y, x ≠ (c : Int) → Y 2147 x y = M 2147 x y) ∧ ∀ x : Nat, x < 2 ^ n → RWC M K Y n c x) := by
    unfold qf_X3_costRows_L2
    refine qW_for ((2 ^ n : Nat) : Int) (fun i s => ∃ Y, s = ((c : Int), i, Y) ∧ CRF M Y ∧ (∀ x y, x ≠ (c : Int) → Y 2147 x y = M 2147 x y) ∧ ∀ x : Nat, (x : Int) < i → RWC M K Y n c x) ?_ ?_ ⟨M, rfl, fun _ _ _ _ _ _ _ => rfl, fun _ _ _ => rfl, fun x hx => by omega⟩ (Int.ofNat_le.mpr (Nat.zero_le (2 ^ n))) (by omega)
    · rintro i _ i0 i1 ⟨Y, rfl, h1, h2, h3⟩
      obtain ⟨x, rfl⟩ : ∃ x : Nat, i = x := ⟨i.toNat, by omega⟩
      have y4 : Y 1337 4 0 = n := (h1 _ _ _ (by decide) (by decide) (by omega) (by decide)).trans hn
      have ta := takeAll_C (M := Y) (x := x) (c := c) y4 n6 (by omega) (by omega) (fun k k1 => by
        rw [h1 _ _ _ (by decide) (by decide) (by omega) (by decide)]
        exact hw k k1)
      have keep : ∀ (V : qm), CRF M V → (∀ x y, x ≠ (c : Int) → V 2147 x y = M 2147 x y) → (∀ x' : Nat, x' ≠ x → V 2147 c x' = Y 2147 c x') → RWC M K V n c x → ∃ Q, (((c : Int), (x : Int) + 1, V) : Int × Int × qm) = ((c : Int), (x : Int) + 1, Q) ∧ CRF M Q ∧ (∀ x y, x ≠ (c : Int) → Q 2147 x y = M 2147 x y) ∧ ∀ x' : Nat, (x' : Int) < (x : Int) + 1 → RWC M K Q n c x' := fun V v1 v2 v3 v4 => ⟨V, rfl, v1, v2, fun x' hx' => by
        by_cases e : x' = x
        · rw [e]
          exact v4
        · have q := h3 x' (by omega)
          unfold RWC at q ⊢
          rw [v3 x' e]
          exact q⟩
      show qW (qf_X3_costRows_L2_b 20000 c x Y) _
      unfold qf_X3_costRows_L2_b qbnd
      rw [y4, p.1, if_neg (show ¬ ((2 ^ n : Nat) : Int) ≤ (x : Int) by omega), if_pos (show 0 ≤ (c : Int) ∧ (c : Int) < 4 from ⟨hc4.1, hc4.2.1⟩), ta]
      simp only [Option.bind_some]
      rw [if_pos (show 0 ≤ (x : Int) ∧ (x : Int) < 64 by omega), w32_id (x := (x : Int) + 1) (by omega) (by omega)]
      by_cases g : MTA Y n c x
      · rw [b01_t g, if_neg (by decide)]
        obtain ⟨V, v1, v2, _⟩ := least_C (x := x) (crf_l h1 h) (by omega) (fun i i0 i1 => bit_hi (by omega) i0 i1)
        rw [v1]
        simp only [Option.bind_some]
        rw [if_pos (show 0 ≤ (x : Int) ∧ (x : Int) < 64 by omega)]
        refine qW_some (keep _ (fun e x' y z1 z2 z3 z4 => ?_) (fun x' y z => ?_) (fun x' z => ?_) (Or.inl ⟨(crf_m h1).mp g, ?_⟩))
        · rw [qw_a z4]
          exact (v2 _ _ _ z1 z2 z3).trans (h1 _ _ _ z1 z2 z3 z4)
        · rw [qw_i z]
          exact (v2 _ _ _ (by decide) (by decide) (by omega)).trans (h2 x' y z)
        · rw [qw_ap, if_neg (by omega)]
          exact v2 _ _ _ (by decide) (by decide) (by omega)
        · rw [qw_s, crf_c h1]
      · rw [b01_f g, if_pos rfl]
        refine qW_some (keep _ (fun e x' y z1 z2 z3 z4 => ?_) (fun x' y z => ?_) (fun x' z => ?_) (Or.inr ⟨fun z => g ((crf_m h1).mpr z), qw_s⟩))
        · rw [qw_a z4]
          exact h1 _ _ _ z1 z2 z3 z4
        · rw [qw_i z]
          exact h2 x' y z
        · rw [qw_ap, if_neg (by omega)]
    · rintro _ ⟨Y, rfl, h1, h2, h3⟩
      have y4 : Y 1337 4 0 = n := (h1 _ _ _ (by decide) (by decide) (by omega) (by decide)).trans hn
      show qW (qf_X3_costRows_L2_b 20000 c ((2 ^ n : Nat) : Int) Y) _
      unfold qf_X3_costRows_L2_b
      rw [y4, p.1, if_pos (Int.le_refl _)]
      exact qW_some ⟨Y, rfl, h1, h2, fun x hx => h3 x (by omega)⟩
  refine ⟨Y, ?_, y1, y2, y3⟩
  unfold qf_X3_costRows
  rw [e1]
  rfl
theorem rwc_o {x : Nat} (f : CRF M Z) (h : RWC Z K Y n c x) : RWC M K Y n c x := by
  unfold RWC at h ⊢
  rw [crf_c f, crf_m f] at h
  exact h
/-- all cars -/
theorem cars_C {cs : Nat} (hcs : M 1337 0 0 = cs) (c4 : cs ≤ 4) (h : ∀ c : Nat, c < cs → LKC M K n c) (hw : ∀ k : Nat, k < n → 0 ≤ M 2146 (k : Int) 0 ∧ M 2146 (k : Int) 0 < 16) : ∃ Y, qf_X3_makeGiving_L73 20000 20000 0 M = some (.inr ((), Y)) ∧ CRF M Y ∧ ∀ c x : Nat, c < cs → x < 2 ^ n → RWC M K Y n c x := by
  obtain ⟨o, e1, Y, rfl, y1, y2⟩ : qW (qf_X3_makeGiving_L73 20000 20000 0 M) (fun o => ∃ Y, o = .inr ((), Y) ∧ CRF M Y ∧ ∀ c x : Nat, c < cs → x < 2 ^ n → RWC M K Y n c x) := by
    unfold qf_X3_makeGiving_L73
    refine qW_for cs (fun i s => ∃ Y, s = (i, Y) ∧ CRF M Y ∧ ∀ c x : Nat, (c : Int) < i → x < 2 ^ n → RWC M K Y n c x) ?_ ?_ ⟨M, rfl, fun _ _ _ _ _ _ _ => rfl, fun c x hc => by omega⟩ (by omega) (by omega)
    · rintro i _ i0 i1 ⟨Y, rfl, h1, h2⟩
      obtain ⟨c, rfl⟩ : ∃ c : Nat, i = c := ⟨i.toNat, by omega⟩
      obtain ⟨V, v1, v2, v3, v4⟩ := costRows_C (crf_l h1 (h c (by omega))) (fun k k1 => by
        rw [h1 _ _ _ (by decide) (by decide) (by omega) (by decide)]
        exact hw k k1)
      show qW (qf_X3_makeGiving_L73_b 20000 c Y) _
      unfold qf_X3_makeGiving_L73_b
      rw [if_neg (show ¬ Y 1337 0 0 ≤ (c : Int) by rw [h1 _ _ _ (by decide) (by decide) (by omega) (by decide)]; omega), v1]
      simp only [Option.bind_some]
      rw [w32_id (x := (c : Int) + 1) (by omega) (by omega)]
      refine qW_some ⟨V, rfl, fun e x y z1 z2 z3 z4 => (v2 e x y z1 z2 z3 z4).trans (h1 e x y z1 z2 z3 z4), fun c' x hc' hx => ?_⟩
      by_cases e : c' = c
      · rw [e]
        exact rwc_o h1 (v4 x hx)
      · have q := h2 c' x (by omega) hx
        unfold RWC at q ⊢
        rw [v3 _ _ (by omega)]
        exact q
    · rintro _ ⟨Y, rfl, h1, h2⟩
      show qW (qf_X3_makeGiving_L73_b 20000 cs Y) _
      unfold qf_X3_makeGiving_L73_b
      rw [if_pos (show Y 1337 0 0 ≤ (cs : Int) by rw [h1 _ _ _ (by decide) (by decide) (by omega) (by decide)]; omega)]
      exact qW_some ⟨Y, rfl, h1, fun c x hc => h2 c x (by omega)⟩
  exact ⟨Y, e1, y1, y2⟩
end GVq
