/-! ===== Euclid's rounds ===== -/
section LWa
variable {M K : qm} {x y u l i : Int} {a b k : Nat}
def fbp : Nat → Nat × Nat
  | 0 => (0, 1)
  | n + 1 => ((fbp n).2, (fbp n).1 + (fbp n).2)
theorem fbp_m : (fbp k).1 ≤ (fbp (k + 1)).1 ∧ (fbp k).2 = (fbp (k + 1)).1 := by
  refine ⟨?_, rfl⟩
  induction k with
  | zero => decide
  | succ k ih =>
    show (fbp k).2 ≤ (fbp k).1 + (fbp k).2
    omega
/-- after k rounds it is not over -/
def nfin : Nat → Nat → Nat → Prop
  | 0, _, b => b ≠ 0
  | k + 1, a, b => b ≠ 0 ∧ nfin k b (a % b)
theorem nfin_f : ∀ (k a b : Nat), nfin k a b → b ≤ a → (fbp (k + 1)).1 ≤ b ∧ (fbp (k + 2)).1 ≤ a := by
  intro k
  induction k with
  | zero =>
    intro a b h hb
    have h0 : b ≠ 0 := h
    have e1 : (fbp 1).1 = 1 := rfl
    have e2 : (fbp 2).1 = 1 := rfl
    rw [show 0 + 1 = 1 from rfl, show 0 + 2 = 2 from rfl, e1, e2]
    omega
  | succ k ih =>
    intro a b h hb
    obtain ⟨h0, h1⟩ : b ≠ 0 ∧ nfin k b (a % b) := h
    have lt := Nat.mod_lt a (Nat.pos_of_ne_zero h0)
    obtain ⟨q1, q2⟩ := ih b (a % b) h1 (by omega)
    have e : (fbp (k + 1 + 2)).1 = (fbp (k + 1)).1 + (fbp (k + 2)).1 := by
      show (fbp (k + 2)).2 = _
      show (fbp (k + 1)).1 + (fbp (k + 1)).2 = _
      rfl
    refine ⟨q2, ?_⟩
    rw [e]
    have dm := Nat.div_add_mod a b
    have q : 1 ≤ a / b := Nat.div_pos hb (Nat.pos_of_ne_zero h0)
    have m : b * 1 ≤ b * (a / b) := Nat.mul_le_mul_left b q
    omega
theorem nfin_98 (hb : b ≤ 9223372036854775808) : ¬ nfin 98 a b := by
  intro h
  obtain ⟨h0, h1⟩ : b ≠ 0 ∧ nfin 97 b (a % b) := h
  have lt := Nat.mod_lt a (Nat.pos_of_ne_zero h0)
  have q := (nfin_f 97 b (a % b) h1 (by omega)).2
  have e : (fbp 99).1 = 218922995834555169026 := by decide +kernel
  rw [show 97 + 2 = 99 from rfl, e] at q
  omega
theorem gcd_t : Int.gcd y (Int.tmod x y) = Int.gcd x y := by
  show Nat.gcd y.natAbs (Int.tmod x y).natAbs = Nat.gcd x.natAbs y.natAbs
  rw [Int.natAbs_tmod]
  exact ((Nat.gcd_comm _ _).trans (Nat.gcd_rec _ _).symm).trans (Nat.gcd_comm _ _)
theorem euc_K (hl : l.natAbs ≤ 9223372036854775808) (u1 : u < 9223372036854775808) (l1 : l < 9223372036854775808) : qW (qf_X15_push_L6 20000 20000 u l u l K) (fun o => ∃ w, o = .inr w ∧ w.natAbs = Int.gcd u l ∧ w < 9223372036854775808) := by
  unfold qf_X15_push_L6
  refine qW_for 98 (fun i s => ∃ x y, s = (u, l, x, y) ∧ ¬ nfin (98 - i).toNat x.natAbs y.natAbs ∧ Int.gcd x y = Int.gcd u l ∧ x < 9223372036854775808 ∧ y < 9223372036854775808 ∧ y.natAbs ≤ 9223372036854775808) ?_ ?_ ⟨u, l, rfl, by rw [show ((98 : Int) - 0).toNat = 98 from rfl]; exact nfin_98 hl, rfl, u1, l1, hl⟩ (by decide) (by decide)
  · rintro i _ i0 i1 ⟨x, y, rfl, hn, hg, hx, hy, hyn⟩
    unfold qf_X15_push_L6_b
    (try dsimp only)
    by_cases g : y = 0
    · rw [if_pos g]
      refine qW_some ⟨x, rfl, ?_, hx⟩
      rw [← hg, g]
      exact (Int.gcd_zero_right _).symm
    · rw [if_neg g, if_neg g]
      have tn := Int.natAbs_tmod x y
      have tl := Nat.mod_lt x.natAbs (show 0 < y.natAbs by omega)
      refine qW_some ⟨y, Int.tmod x y, rfl, fun z => hn ?_, gcd_t.trans hg, hy, by omega, by omega⟩
      rw [show (98 - i).toNat = (98 - (i + 1)).toNat + 1 by omega]
      refine ⟨by omega, ?_⟩
      rw [← Int.natAbs_tmod]
      exact z
  · rintro _ ⟨x, y, rfl, hn, hg, hx, hy, hyn⟩
    unfold qf_X15_push_L6_b
    (try dsimp only)
    have g : y = 0 := by
      apply Classical.byContradiction
      intro z
      refine hn ?_
      rw [show ((98 : Int) - 98).toNat = 0 from rfl]
      show y.natAbs ≠ 0
      omega
    rw [if_pos g]
    refine qW_some ⟨x, rfl, ?_, hx⟩
    rw [← hg, g]
    exact (Int.gcd_zero_right _).symm
theorem euc_C (x0 : x ≤ 0) (y0 : y ≤ 0) (hl : y.natAbs ≤ 9223372036854775808) : ∃ c, qf_X7_commonBelowZero_J26 20000 x y M = some c ∧ c ≤ 0 ∧ c.natAbs = Int.gcd x y := by
  show qW _ (fun (c : Int) => c ≤ 0 ∧ c.natAbs = Int.gcd x y)
  unfold qf_X7_commonBelowZero_J26
  refine qW_call (Q := fun o => ∃ w, o = .inr w ∧ w ≤ 0 ∧ w.natAbs = Int.gcd x y) ?_ ?_
  · unfold qf_X7_commonBelowZero_L31
    refine qW_for 98 (fun i s => ∃ a b, s = (a, b, i) ∧ a ≤ 0 ∧ b ≤ 0 ∧ ¬ nfin (98 - i).toNat a.natAbs b.natAbs ∧ Int.gcd a b = Int.gcd x y) ?_ ?_ ⟨x, y, rfl, x0, y0, by rw [show ((98 : Int) - 0).toNat = 98 from rfl]; exact nfin_98 hl, rfl⟩ (by decide) (by decide)
    · rintro i _ i0 i1 ⟨a, b, rfl, a0, b0, hn, hg⟩
      unfold qf_X7_commonBelowZero_L31_b
      (try dsimp only)
      rw [if_neg (by omega)]
      by_cases g : b = 0
      · rw [if_pos g]
        refine qW_some ⟨a, rfl, a0, ?_⟩
        rw [← hg, g]
        exact (Int.gcd_zero_right _).symm
      · rw [if_neg g, if_neg g, w32_id (x := i + 1) (by omega) (by omega)]
        have t0 : Int.tmod a b ≤ 0 := by
          have z := Int.tmod_nonneg b (show 0 ≤ -a by omega)
          rw [Int.neg_tmod] at z
          omega
        refine qW_some ⟨b, Int.tmod a b, rfl, b0, t0, fun z => hn ?_, gcd_t.trans hg⟩
        rw [show (98 - i).toNat = (98 - (i + 1)).toNat + 1 by omega]
        refine ⟨by omega, ?_⟩
        rw [← Int.natAbs_tmod]
        exact z
    · rintro _ ⟨a, b, rfl, a0, b0, hn, hg⟩
      unfold qf_X7_commonBelowZero_L31_b
      (try dsimp only)
      have g : b = 0 := by
        apply Classical.byContradiction
        intro z
        refine hn ?_
        rw [show ((98 : Int) - 98).toNat = 0 from rfl]
        show b.natAbs ≠ 0
        omega
      rw [if_neg (by decide), if_pos g]
      refine qW_some ⟨a, rfl, a0, ?_⟩
      rw [← hg, g]
      exact (Int.gcd_zero_right _).symm
  · rintro _ ⟨w, rfl, hw⟩
    exact qW_some hw
end LWa
