/-! ===== rules: one step of reckoning on both sides ===== -/
section WDv
variable {M K A Z W : qm} {a b c d s x y u l v n m i p q k to n' m' : Int} {N : Nat}
theorem lw_ok (hu : FIT u) (hl : FIT l) (ln : l ≠ 0) (h : lwF u l = some (p, q)) : FIT p ∧ FIT q ∧ 1 ≤ q := by
  obtain ⟨G, U, V, e1, e2, e3, e4, e5, e6, e7, e8, e9, e10, e11, e12, e13⟩ := gcd_f hu.1 hu.2 hl.1 hl.2 ln
  unfold lwF at h
  rw [e1, e6, e7] at h
  unfold FIT
  by_cases g : 0 ≤ V
  · rw [if_pos g] at h
    obtain ⟨rfl, rfl⟩ := Prod.mk.inj (Option.some.inj h)
    omega
  · rw [if_neg g] at h
    by_cases g2 : U = -9223372036854775808
    · rw [if_pos g2] at h
      cases h
    · rw [if_neg g2] at h
      by_cases g3 : V = -9223372036854775808
      · rw [if_pos g3] at h
        cases h
      · rw [if_neg g3] at h
        obtain ⟨rfl, rfl⟩ := Prod.mk.inj (Option.some.inj h)
        omega
theorem oks_u (h : OKS s a b c d n m) (h2 : OKS s a b c d n' m') : n = n' ∧ m = m' := by
  unfold OKS at h h2
  rcases h with h | h | h | h <;> rcases h2 with h2 | h2 | h2 | h2 <;> first | (exfalso; omega) | skip
  · exact ⟨h.2.2.2.1.trans h2.2.2.2.1.symm, h.2.2.2.2.trans h2.2.2.2.2.symm⟩
  · exact ⟨h.2.2.2.2.1.trans h2.2.2.2.2.1.symm, h.2.2.2.2.2.trans h2.2.2.2.2.2.symm⟩
  · exact ⟨h.2.2.2.2.2.1.trans h2.2.2.2.2.2.1.symm, h.2.2.2.2.2.2.trans h2.2.2.2.2.2.2.symm⟩
  · exact ⟨h.2.2.2.2.2.1.trans h2.2.2.2.2.2.1.symm, h.2.2.2.2.2.2.trans h2.2.2.2.2.2.2.symm⟩
theorem oks_f (h : OKS s a b c d n m) (b1 : 1 ≤ b) (d1 : 1 ≤ d) : FIT n ∧ FIT m ∧ m ≠ 0 := by
  have bd : b * d ≠ 0 := fun z => by
    rcases Int.mul_eq_zero.mp z with q | q <;> omega
  unfold OKS at h
  rcases h with h | h | h | h
  · rw [h.2.2.2.1, h.2.2.2.2]
    exact ⟨h.2.1, h.2.2.1, bd⟩
  · rw [h.2.2.2.2.1, h.2.2.2.2.2]
    refine ⟨h.2.2.1, h.2.2.2.1, fun z => ?_⟩
    rcases Int.mul_eq_zero.mp z with q | q
    · omega
    · exact h.2.1 q
  · rw [h.2.2.2.2.2.1, h.2.2.2.2.2.2]
    exact ⟨h.2.2.2.1, h.2.2.2.2.1, bd⟩
  · rw [h.2.2.2.2.2.1, h.2.2.2.2.2.2]
    exact ⟨h.2.2.2.1, h.2.2.2.2.1, bd⟩
theorem oks_c (h : OKS s a b c d n m) : ¬ (s = 47 ∧ c = 0) := fun z => by
  unfold OKS at h
  rcases h with h | h | h | h
  · omega
  · exact h.2.1 z.2
  · omega
  · omega
theorem toc_skip (h : M 735 12 0 ≠ 0) : qf_X7_takeOutCommon 20000 M = some ((), M) := by
  unfold qf_X7_takeOutCommon
  rw [if_neg h]
theorem comb_skip (h : M 735 12 0 ≠ 0) : qf_X7_combine 20000 s a b M = some ((), M) := by
  unfold qf_X7_combine
  rw [if_neg h]
/-- what reckoning changes -/
def FRC (M A : qm) : Prop := ∀ b x y, ¬ (b = 735 ∧ 11 ≤ x ∧ x ≤ 15) → A b x y = M b x y
def FRK (K W : qm) (v : Int) : Prop := ∀ b i j, ¬ ((b = 2206 ∨ b = 2207) ∧ v ≤ i) → ¬ (b = 2184 ∧ (i = 39 ∨ i = 40 ∨ i = 41)) → W b i j = K b i j
theorem frc_t (h : FRC M A) (h2 : FRC A Z) : FRC M Z := fun b x y z => (h2 b x y z).trans (h b x y z)
theorem frk_t (h : FRK K W v) (h2 : FRK W Z u) (h3 : v ≤ u) : FRK K Z v := fun b i j z1 z2 => by
  rw [h2 b i j (by omega) z2]
  exact h b i j z1 z2
theorem puf_k (h : PUF K W v) : FRK K W v := fun b i j z1 z2 => h b i j (by omega) (by omega) z2
/-- both have a value, the reference at v -/
def VLG (A W : qm) (v : Int) : Prop := A 735 12 0 = 0 ∧ A 735 13 0 = 0 ∧ W 2184 40 0 = 0 ∧ W 2184 41 0 = 0 ∧ W 2184 39 0 = v + 1 ∧ W 2206 v 0 = A 735 14 0 ∧ W 2207 v 0 = A 735 15 0 ∧ FIT (A 735 14 0) ∧ FIT (A 735 15 0) ∧ 1 ≤ A 735 15 0
/-- both are open -/
def VLB (A W : qm) : Prop := A 735 12 0 ≠ 0 ∧ W 2184 40 0 = A 735 12 0 ∧ W 2184 41 0 = A 735 13 0 ∧ 0 ≤ A 735 12 0
theorem oper_both (hs : (i = 2 ∧ s = 43) ∨ (i = 3 ∧ s = 45) ∨ (i = 4 ∧ s = 42) ∨ (i = 5 ∧ s = 47)) (h : VLG M K (v + 1)) (v0 : 0 ≤ v) (v1 : v + 2 ≤ 130) (ha : K 2206 v 0 = a) (hb : K 2207 v 0 = b) (a0 : FIT a) (b0 : FIT b) (b1 : 1 ≤ b) : ∃ A W, (qf_X7_combine 20000 s a b M).bind (fun r => qf_X7_takeOutCommon 20000 r.2) = some ((), A) ∧ qf_X15_operate 20000 i K = some ((), W) ∧ FRC M A ∧ A 735 11 0 = M 735 11 0 ∧ FRK K W v ∧ (VLG A W v ∨ VLB A W) := by
  obtain ⟨h1, h2, h3, h4, h5, h6, h7, h8, h9, h10⟩ := h
  have s4 : s = 42 ∨ s = 43 ∨ s = 45 ∨ s = 47 := by omega
  obtain ⟨B, e1, f1, hB⟩ := comb_C (s := s) s4 h1 rfl rfl a0 b0 h8 h9
  obtain ⟨W, e2, f2, w39, hW⟩ := operate_K (i := i) (s := s) (by omega) v0 v1 h3 ha hb h6 h7 a0 b0 h8 h9 b1 h10 hs
  rw [e1]
  simp only [Option.bind_some]
  have B13 : B 735 13 0 = 0 := (f1 _ _ _ (by decide)).trans h2
  unfold OPO at hW
  rcases hB with ⟨n, m, ok, b12, bn, bm⟩ | ⟨no, b12⟩
  · obtain ⟨n0, m0, mz⟩ := oks_f ok b1 h10
    obtain ⟨A, e3, f3, hA⟩ := toc_e b12 bn bm n0.1 n0.2 m0.1 m0.2 mz
    have fr : FRC M A := fun b x y z => by
      rw [f3 b x y (by omega)]
      exact f1 b x y (by omega)
    refine ⟨A, W, e3, e2, fr, (f3 _ _ _ (by decide)).trans (f1 _ _ _ (by decide)), puf_k f2, ?_⟩
    have A13 : A 735 13 0 = 0 := (f3 _ _ _ (by decide)).trans B13
    rcases hA with ⟨p, q, l1, l2, l3, l4⟩ | ⟨l1, l2⟩
    · obtain ⟨p0, q0, q1⟩ := lw_ok n0 m0 mz l1
      rcases hW with ⟨n', m', p', q', o1, o2, o3, o4, o5, o6⟩ | ⟨o1, _⟩
      · obtain ⟨rfl, rfl⟩ := oks_u ok o1
        rw [l1] at o2
        obtain ⟨rfl, rfl⟩ := Prod.mk.inj (Option.some.inj o2)
        left
        refine ⟨l2, A13, o3, o4.trans h4, w39, o5.trans l3.symm, o6.trans l4.symm, ?_, ?_, ?_⟩
        · rw [l3]; exact p0
        · rw [l4]; exact q0
        · rw [l4]; exact q1
      · rw [o1 n m ok] at l1
        cases l1
    · rcases hW with ⟨n', m', p', q', o1, o2, _⟩ | ⟨_, o2, o3⟩
      · obtain ⟨rfl, rfl⟩ := oks_u ok o1
        rw [l1] at o2
        cases o2
      · rw [if_neg (oks_c ok)] at o2
        right
        exact ⟨by omega, by omega, by omega, by omega⟩
  · have bz : B 735 12 0 ≠ 0 := by
      rw [b12]
      split <;> decide
    refine ⟨B, W, toc_skip bz, e2, fun b x y z => f1 b x y (by omega), f1 _ _ _ (by decide), puf_k f2, Or.inr ?_⟩
    rcases hW with ⟨n', m', p', q', o1, _⟩ | ⟨_, o2, o3⟩
    · exact absurd o1 (no n' m')
    · refine ⟨bz, o2.trans b12.symm, o3.trans B13.symm, ?_⟩
      rw [b12]
      split <;> decide
end WDv
