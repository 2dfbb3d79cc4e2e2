/-! ===== lowest terms, both sides ===== -/
section LWb
variable {M K : qm} {x y u l i g w c : Int}
/-- in lowest terms, the lower above 0; none: too great -/
def lwF (u l : Int) : Option (Int × Int) := if 0 ≤ l / (Int.gcd u l : Int) then some (u / (Int.gcd u l : Int), l / (Int.gcd u l : Int)) else if u / (Int.gcd u l : Int) = -9223372036854775808 then none else if l / (Int.gcd u l : Int) = -9223372036854775808 then none else some (-(u / (Int.gcd u l : Int)), -(l / (Int.gcd u l : Int)))
theorem gcd_f (u0 : -9223372036854775808 ≤ u) (u1 : u < 9223372036854775808) (l0 : -9223372036854775808 ≤ l) (l1 : l < 9223372036854775808) (ln : l ≠ 0) : ∃ G U V : Int, (Int.gcd u l : Int) = G ∧ 1 ≤ G ∧ G ≤ 9223372036854775808 ∧ u = G * U ∧ l = G * V ∧ u / G = U ∧ l / G = V ∧ -9223372036854775808 ≤ U ∧ U < 9223372036854775808 ∧ -9223372036854775808 ≤ V ∧ V < 9223372036854775808 ∧ V ≠ 0 ∧ (G = 9223372036854775808 → V = -1 ∧ (U = 0 ∨ U = -1)) := by
  obtain ⟨U, hU⟩ := Int.gcd_dvd_left u l
  obtain ⟨V, hV⟩ := Int.gcd_dvd_right u l
  have g0 : Int.gcd u l ≠ 0 := fun z => by
    have := (Int.gcd_eq_zero_iff.mp z).2
    exact ln this
  obtain ⟨G, hG⟩ : ∃ G : Int, (Int.gcd u l : Int) = G := ⟨_, rfl⟩
  rw [hG] at hU hV
  have G1 : 1 ≤ G := by omega
  have V0 : V ≠ 0 := fun z => by
    rw [z, Int.mul_zero] at hV
    exact ln hV
  have bd : ∀ a : Int, ∀ b : Int, b = G * a → -9223372036854775808 ≤ b → b < 9223372036854775808 → -9223372036854775808 ≤ a ∧ a < 9223372036854775808 := fun a b e b0 b1 => by
    by_cases z : 0 ≤ a
    · have := Int.mul_le_mul_of_nonneg_right G1 z
      omega
    · have h2 := Int.mul_le_mul_of_nonneg_right G1 (show 0 ≤ -a by omega)
      have h3 : G * -a = -(G * a) := Int.mul_neg G a
      omega
  have bu := bd U u hU u0 u1
  have bv := bd V l hV l0 l1
  have Gb : G ≤ 9223372036854775808 := by
    by_cases z : 0 ≤ V
    · have := Int.mul_le_mul_of_nonneg_left (show 1 ≤ V by omega) (show 0 ≤ G by omega)
      omega
    · have h2 := Int.mul_le_mul_of_nonneg_left (show 1 ≤ -V by omega) (show 0 ≤ G by omega)
      rw [Int.mul_neg] at h2
      omega
  have du : u / G = U := by
    rw [hU]
    exact Int.mul_ediv_cancel_left U (by omega)
  have dv : l / G = V := by
    rw [hV]
    exact Int.mul_ediv_cancel_left V (by omega)
  refine ⟨G, U, V, hG, G1, Gb, hU, hV, du, dv, bu.1, bu.2, bv.1, bv.2, V0, fun z => ?_⟩
  rw [z] at hU hV
  omega
theorem toc_e (hw : (M 735 12 0) = 0) (hu : (M 735 14 0) = u) (hl : (M 735 15 0) = l) (u0 : -9223372036854775808 ≤ u) (u1 : u < 9223372036854775808) (l0 : -9223372036854775808 ≤ l) (l1 : l < 9223372036854775808) (ln : l ≠ 0) : ∃ A, qf_X7_takeOutCommon 20000 M = some ((), A) ∧ (∀ b i j, ¬ (b = 735 ∧ (i = 12 ∨ i = 14 ∨ i = 15)) → A b i j = M b i j) ∧ ((∃ p q, lwF u l = some (p, q) ∧ (A 735 12 0) = 0 ∧ (A 735 14 0) = p ∧ (A 735 15 0) = q) ∨ (lwF u l = none ∧ (A 735 12 0) = 2)) := by
  obtain ⟨G, U, V, hG, G1, Gb, eU, eV, du, dv, U0, U1, V0, V1, Vn, GM⟩ := gcd_f u0 u1 l0 l1 ln
  have ec : ∃ c, qf_X7_commonBelowZero 20000 u l M = some c ∧ c = -G := by
    have nn : ∀ a : Int, -9223372036854775808 ≤ a → a < 9223372036854775808 → 0 < a → w64 (-a) = -a := fun a a0 a1 ap => w64_id (by omega) (by omega)
    have core : ∀ x y : Int, x ≤ 0 → y ≤ 0 → y.natAbs = l.natAbs → x.natAbs = u.natAbs → ∃ c, qf_X7_commonBelowZero_J26 20000 x y M = some c ∧ c = -G := fun x y x0 y0 ey ex => by
      obtain ⟨c, e1, e2, e3⟩ := euc_C (M := M) x0 y0 (by omega)
      have e4 : Int.gcd x y = Int.gcd u l := by
        show Nat.gcd x.natAbs y.natAbs = Nat.gcd u.natAbs l.natAbs
        rw [ex, ey]
      exact ⟨c, e1, by omega⟩
    unfold qf_X7_commonBelowZero qf_X7_commonBelowZero_J12
    by_cases g1 : u ≤ 0
    · rw [if_pos g1]
      by_cases g2 : l ≤ 0
      · rw [if_pos g2]
        exact core u l g1 g2 rfl rfl
      · rw [if_neg g2, nn l l0 l1 (by omega)]
        exact core u (-l) g1 (by omega) (by omega) rfl
    · rw [if_neg g1, nn u u0 u1 (by omega)]
      by_cases g2 : l ≤ 0
      · rw [if_pos g2]
        exact core (-u) l (by omega) g2 rfl (by omega)
      · rw [if_neg g2, nn l l0 l1 (by omega)]
        exact core (-u) (-l) (by omega) (by omega) (by omega) (by omega)
  obtain ⟨c, ec, hc⟩ := ec
  have fin : ∀ N : qm, (∀ b i j, ¬ (b = 735 ∧ (i = 12 ∨ i = 14 ∨ i = 15)) → N b i j = M b i j) → (N 735 12 0) = 0 → (N 735 14 0) = U → (N 735 15 0) = V → ∃ A, qf_X7_takeOutCommon_J50 20000 N = some ((), A) ∧ (∀ b i j, ¬ (b = 735 ∧ (i = 12 ∨ i = 14 ∨ i = 15)) → A b i j = M b i j) ∧ ((∃ p q, lwF u l = some (p, q) ∧ (A 735 12 0) = 0 ∧ (A 735 14 0) = p ∧ (A 735 15 0) = q) ∨ (lwF u l = none ∧ (A 735 12 0) = 2)) := fun N hN h1 h2 h3 => by
    unfold qf_X7_takeOutCommon_J50 qf_X7_takeOutCommon_J81 lwF
    rw [hG, du, dv, h2, h3]
    by_cases g1 : 0 ≤ V
    · rw [if_pos g1, if_pos g1]
      exact ⟨N, rfl, hN, Or.inl ⟨U, V, rfl, h1, h2, h3⟩⟩
    · rw [if_neg g1, if_neg g1]
      by_cases g2 : U = -9223372036854775808
      · rw [if_pos g2, if_pos g2]
        exact ⟨_, rfl, fun b i j hb => by rw [qw_ap, if_neg (by omega)]; exact hN b i j hb, Or.inr ⟨rfl, qw_s⟩⟩
      · rw [if_neg g2, if_neg g2]
        by_cases g3 : V = -9223372036854775808
        · rw [if_pos g3, if_pos g3]
          exact ⟨_, rfl, fun b i j hb => by rw [qw_ap, if_neg (by omega)]; exact hN b i j hb, Or.inr ⟨rfl, qw_s⟩⟩
        · rw [if_neg g3, if_neg g3, w64_id (x := -U) (by omega) (by omega)]
          have e15 : qw N 735 14 0 (-U) 735 15 0 = V := by
            rw [qw_ap, if_neg (by decide)]
            exact h3
          refine ⟨qw (qw N 735 14 0 (-U)) 735 15 0 (-V), ?_, fun b i j hb => ?_, Or.inl ⟨-U, -V, rfl, ?_, ?_, qw_s⟩⟩
          · refine qW_e (qW_bnd ?_)
            rw [e15, w64_id (x := -V) (by omega) (by omega)]
            exact qW_bnd (qW_some rfl)
          · rw [qw_ap, if_neg (by omega), qw_ap, if_neg (by omega)]
            exact hN b i j hb
          · rw [qw_ap, if_neg (by decide), qw_ap, if_neg (by decide)]
            exact h1
          · rw [qw_ap, if_neg (by decide)]
            exact qw_s
  unfold qf_X7_takeOutCommon
  rw [if_pos hw, hu, hl, ec]
  have bb : ∀ {α β : Type} (a : α) (f : α → Option β), (some a).bind f = f a := fun _ _ => rfl
  rw [bb]
  by_cases g : G = 1
  · rw [if_pos (by omega)]
    rw [g, Int.one_mul] at eU eV
    exact fin M (fun _ _ _ _ => rfl) hw (hu.trans eU) (hl.trans eV)
  · rw [if_neg (by omega), if_neg (by omega)]
    have tu : Int.tdiv u c = -U := by
      rw [hc, Int.tdiv_neg, eU, Int.mul_tdiv_cancel_left U (by omega)]
    have tl : Int.tdiv l c = -V := by
      rw [hc, Int.tdiv_neg, eV, Int.mul_tdiv_cancel_left V (by omega)]
    have nb : ∀ a b : Int, b = G * a → -9223372036854775808 ≤ b → a ≠ -9223372036854775808 := fun a b e b0 z => by
      have h2 := Int.mul_le_mul_of_nonneg_right (show (2 : Int) ≤ G by omega) (show 0 ≤ -a by omega)
      have h3 : G * -a = -(G * a) := Int.mul_neg G a
      omega
    have nU := nb U u eU u0
    have nV := nb V l eV l0
    have lo : qw M 735 14 0 U 735 15 0 = l := by
      rw [qw_ap, if_neg (by decide)]
      exact hl
    rw [tu, w64_id (x := -U) (by omega) (by omega), Int.neg_neg, w64_id (x := U) (by omega) (by omega)]
    unfold qbnd
    (try dsimp only)
    rw [if_neg (by omega), lo, tl, w64_id (x := -V) (by omega) (by omega), Int.neg_neg, w64_id (x := V) (by omega) (by omega)]
    refine fin (qw (qw M 735 14 0 U) 735 15 0 V) (fun b i j hb => ?_) ?_ ?_ qw_s
    · rw [qw_ap, if_neg (by omega), qw_ap, if_neg (by omega)]
    · rw [qw_ap, if_neg (by decide), qw_ap, if_neg (by decide)]
      exact hw
    · rw [qw_ap, if_neg (by decide)]
      exact qw_s
end LWb
