/-! ===== rules: the class splits its text ===== -/
section WDc
variable {M K A : qm} {T : Int → Int} {L p q e e' k k' v v' i j x y z c n : Int}
def LNV (T : Int → Int) (L a k v b : Int) : Prop := 0 ≤ a ∧ a < L ∧ k ≠ 63 ∧ ∃ e, WD2 T L a k v e ∧ RUN (fun c => c = 32) T L e b
def LNK (T : Int → Int) (L : Int) (A : qm) (j : Int) : Prop := LNV T L (A 731 j 0) (A 729 j 0) (A 730 j 0) (A 731 (j + 1) 0)
/-- the words: n is the last one -/
def SPL (T : Int → Int) (L : Int) (A : qm) (n : Int) : Prop := 0 ≤ n ∧ n ≤ 120 ∧ RUN (fun c => c = 32) T L 0 (A 731 0 0) ∧ (∀ j, 0 ≤ j → j < n → LNK T L A j) ∧ ((A 731 n 0 = L ∧ A 729 n 0 = 101) ∨ (0 ≤ A 731 n 0 ∧ A 731 n 0 < L ∧ A 729 n 0 = 63 ∧ (n = 120 ∨ ∃ v e, WD2 T L (A 731 n 0) 63 v e)))
theorem skip_C (L0 : M 727 1 0 = L) (L1 : L ≤ 800) (p0 : 0 ≤ p) (p1 : p ≤ L) : ∃ q, qf_X6_splitWords_L10 20000 20000 p k M = some (.inr q) ∧ RUN (fun c => c = 32) (fun i => M 728 i 0) L p q := by
  obtain ⟨o, e1, q, rfl, h⟩ : qW (qf_X6_splitWords_L10 20000 20000 p k M) (fun o => ∃ q, o = .inr q ∧ RUN (fun c => c = 32) (fun i => M 728 i 0) L p q) := by
    unfold qf_X6_splitWords_L10
    refine qW_loop (fun s => ∃ n : Int, s = (n, k) ∧ p ≤ n ∧ n ≤ L ∧ (∀ i, p ≤ i → i < n → M 728 i 0 = 32)) (fun s => (L - s.1).toNat) ?_ 20000 _ ⟨p, rfl, Int.le_refl _, p1, fun i i0 i1 => by omega⟩ ?_
    · rintro _ ⟨n, rfl, n0, n1, h⟩
      unfold qf_X6_splitWords_L10_b
      (try dsimp only)
      rw [L0]
      by_cases g : L ≤ n
      · rw [if_pos g]
        exact qW_some ⟨n, rfl, n0, n1, h, fun z => by omega⟩
      · rw [if_neg g, if_pos (show 0 ≤ n ∧ n < 800 by omega)]
        by_cases d : M 728 n 0 = 32
        · rw [if_pos d, w32_id (x := n + 1) (by omega) (by omega)]
          refine qW_some ⟨⟨n + 1, rfl, by omega, by omega, fun i i0 i1 => ?_⟩, ?_⟩
          · by_cases c : i = n
            · rw [c]; exact d
            · exact h i i0 (by omega)
          · show (L - (n + 1)).toNat < (L - n).toNat
            omega
        · rw [if_neg d]
          exact qW_some ⟨n, rfl, n0, n1, h, fun _ => d⟩
    · show (L - p).toNat < 20000
      omega
  exact ⟨q, e1, h⟩
theorem words_C (L0 : M 727 1 0 = L) (L1 : 0 ≤ L) (L2 : L ≤ 800) : ∃ A n, qf_X6_splitWords 20000 M = some ((), A) ∧ (∀ b x y, b ≠ 729 → b ≠ 730 → b ≠ 731 → A b x y = M b x y) ∧ SPL (fun i => M 728 i 0) L A n := by
  obtain ⟨o, e1, A, rfl, fr, n, h⟩ : qW (qf_X6_splitWords_L4 20000 20000 0 0 M) (fun o => ∃ A, o = .inl ((), A) ∧ (∀ b x y, b ≠ 729 → b ≠ 730 → b ≠ 731 → A b x y = M b x y) ∧ ∃ n, SPL (fun i => M 728 i 0) L A n) := by
    unfold qf_X6_splitWords_L4
    refine qW_for 121 (fun k s => k ≤ 120 ∧ ∃ p A, s = (p, k, A) ∧ 0 ≤ p ∧ p ≤ L ∧ (∀ b x y, b ≠ 729 → b ≠ 730 → b ≠ 731 → A b x y = M b x y) ∧ (k = 0 → p = 0) ∧ (∀ j, 0 ≤ j → j + 1 < k → LNK (fun i => M 728 i 0) L A j) ∧ (0 < k → RUN (fun c => c = 32) (fun i => M 728 i 0) L 0 (A 731 0 0) ∧ 0 ≤ A 731 (k - 1) 0 ∧ A 731 (k - 1) 0 < L ∧ A 729 (k - 1) 0 ≠ 63 ∧ WD2 (fun i => M 728 i 0) L (A 731 (k - 1) 0) (A 729 (k - 1) 0) (A 730 (k - 1) 0) p)) ?_ ?_ ?_ (by decide) (by decide)
    · rintro k _ k0 k1 ⟨k2, p, A, rfl, p0, p1, fr, hz, hl, hp⟩
      unfold qf_X6_splitWords_L4_b
      (try dsimp only)
      rw [if_neg (by omega)]
      have tt : (fun i => A 728 i 0) = (fun i => M 728 i 0) := funext (fun i => fr 728 i 0 (by decide) (by decide) (by decide))
      have LA : A 727 1 0 = L := (fr 727 1 0 (by decide) (by decide) (by decide)).trans L0
      obtain ⟨q, e2, hq⟩ := skip_C (k := k) LA L2 p0 p1
      rw [tt] at hq
      rw [e2]
      simp only [Option.bind_some]
      unfold qf_X6_splitWords_J35 qbnd
      (try dsimp only)
      have q0 := hq.1
      have q1 := hq.2.1
      have c121 : 0 ≤ k ∧ k < 121 := ⟨k0, k1⟩
      rw [if_pos c121, if_pos c121]
      obtain ⟨B, hB⟩ : ∃ B, qw (qw A 731 k 0 q) 730 k 0 0 = B := ⟨_, rfl⟩
      rw [hB]
      have fB : ∀ b x y, ¬ (b = 730 ∧ x = k) → ¬ (b = 731 ∧ x = k) → B b x y = A b x y := fun b x y h1 h2 => by
        rw [← hB, qw_ap, if_neg (by omega), qw_ap, if_neg (by omega)]
      have B1 : B 731 k 0 = q := by rw [← hB, qw_a (by decide)]; exact qw_s
      have LB : B 727 1 0 = L := (fB _ _ _ (by omega) (by omega)).trans LA
      have tB : (fun i => B 728 i 0) = (fun i => M 728 i 0) := by
        rw [← tt]
        exact funext (fun i => fB 728 i 0 (by omega) (by omega))
      -- what stands before
      have old : ∀ D : qm, (∀ b x y, ¬ (b = 729 ∧ x = k) → ¬ (b = 730 ∧ x = k) → D b x y = B b x y) → (∀ j, 0 ≤ j → j < k → LNK (fun i => M 728 i 0) L D j) ∧ RUN (fun c => c = 32) (fun i => M 728 i 0) L 0 (D 731 0 0) ∧ D 731 k 0 = q ∧ (∀ b x y, b ≠ 729 → b ≠ 730 → b ≠ 731 → D b x y = M b x y) := fun D hD => by
        have c1 : D 731 k 0 = q := (hD _ _ _ (by omega) (by omega)).trans B1
        refine ⟨fun j j0 j1 => ?_, ?_, c1, fun b x y h1 h2 h3 => ?_⟩
        · have s1 : D 731 j 0 = A 731 j 0 := (hD _ _ _ (by omega) (by omega)).trans (fB _ _ _ (by omega) (by omega))
          have s2 : D 729 j 0 = A 729 j 0 := (hD _ _ _ (by omega) (by omega)).trans (fB _ _ _ (by omega) (by omega))
          have s3 : D 730 j 0 = A 730 j 0 := (hD _ _ _ (by omega) (by omega)).trans (fB _ _ _ (by omega) (by omega))
          by_cases g : j + 1 = k
          · unfold LNK
            rw [s1, s2, s3, g, c1]
            have h := hp (by omega)
            rw [show k - 1 = j by omega] at h
            exact ⟨h.2.1, h.2.2.1, h.2.2.2.1, p, h.2.2.2.2, hq⟩
          · have s4 : D 731 (j + 1) 0 = A 731 (j + 1) 0 := (hD _ _ _ (by omega) (by omega)).trans (fB _ _ _ (by omega) (by omega))
            have h := hl j j0 (by omega)
            unfold LNK at h ⊢
            rw [s1, s2, s3, s4]
            exact h
        · by_cases g : k = 0
          · rw [g] at c1
            rw [c1]
            have := hz g
            rw [this] at hq
            exact hq
          · rw [hD _ _ _ (by omega) (by omega), fB _ _ _ (by omega) (by omega)]
            exact (hp (by omega)).1
        · rw [hD b x y (by omega) (by omega), fB b x y (by omega) (by omega)]
          exact fr b x y h1 h2 h3
      rw [LB]
      by_cases g : q < L
      · rw [if_pos g]
        by_cases g2 : k = 120
        · rw [if_pos g2, if_pos c121]
          have o := old (qw B 729 k 0 63) (fun b x y h1 h2 => by rw [qw_ap, if_neg (by omega)])
          refine qW_some ⟨_, rfl, o.2.2.2, k, k0, k2, o.2.1, o.1, Or.inr ?_⟩
          rw [o.2.2.1]
          exact ⟨by omega, g, qw_s, Or.inl g2⟩
        · rw [if_neg g2]
          obtain ⟨e, D, e3, fD, hD⟩ := splitw_C (q := q) LB L2 (by omega) g k0 k1
          rw [tB] at hD
          rw [e3]
          simp only [Option.bind_some]
          rw [if_pos c121]
          have o := old D fD
          have ee := wd2_e hD g
          by_cases g3 : D 729 k 0 = 63
          · rw [if_pos g3]
            refine qW_some ⟨_, rfl, o.2.2.2, k, k0, k2, o.2.1, o.1, Or.inr ?_⟩
            rw [o.2.2.1]
            rw [g3] at hD
            exact ⟨by omega, g, g3, Or.inr ⟨_, _, hD⟩⟩
          · rw [if_neg g3, w32_id (x := k + 1) (by omega) (by omega)]
            refine qW_some ⟨by omega, e, D, rfl, by omega, ee.2.1, o.2.2.2, fun z => by omega, fun j j0 j1 => o.1 j j0 (by omega), fun _ => ?_⟩
            rw [show k + 1 - 1 = k by omega, o.2.2.1]
            exact ⟨o.2.1, by omega, g, g3, hD⟩
      · rw [if_neg g, if_pos c121]
        have o := old (qw B 729 k 0 101) (fun b x y h1 h2 => by rw [qw_ap, if_neg (by omega)])
        refine qW_some ⟨_, rfl, o.2.2.2, k, k0, k2, o.2.1, o.1, Or.inl ?_⟩
        rw [o.2.2.1]
        exact ⟨by omega, qw_s⟩
    · rintro _ ⟨h, _⟩
      omega
    · exact ⟨by decide, 0, M, rfl, Int.le_refl _, L1, fun _ _ _ _ _ _ => rfl, fun _ => rfl, fun j j0 j1 => by omega, fun z => by omega⟩
  refine ⟨A, n, ?_, fr, h⟩
  unfold qf_X6_splitWords
  rw [e1]
  rfl
end WDc
