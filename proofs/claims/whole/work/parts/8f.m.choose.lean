/-! ===== the giving: the calls that are given ===== -/
section GVm
variable {M K A W Z X Y V : qm} {a b d i j k n p q v w T x y : Int} {f : Int → Int}
theorem sI_up (i0 : 0 ≤ i) (hf : ∀ k, 0 ≤ k → k < n → 0 ≤ f k) : ∀ m : Nat, i + m ≤ n → sI f i ≤ sI f (i + m) := by
  intro m
  induction m with
  | zero =>
    intro _
    rw [show i + ((0 : Nat) : Int) = i by omega]
    exact Int.le_refl _
  | succ m ih =>
    intro h
    rw [show i + ((m + 1 : Nat) : Int) = i + m + 1 by omega, sI_s (by omega)]
    have h1 := ih (by omega)
    have h2 := hf (i + m) (by omega) (by omega)
    omega
/-- a call that is given: open, and some car may take it -/
def GIV (K : qm) (x : Int) : Prop := K 2279 x 0 = 1 ∧ ∃ j : Nat, (j : Int) < K 2270 0 0 ∧ mayT K j x
theorem choose_K (n0 : 0 ≤ K 2270 0 0) (n1 : K 2270 0 0 ≤ 4) (hh : K 2270 13 0 = 0) (c0 : 0 ≤ K 2270 6 0) (c1 : K 2270 6 0 ≤ 400) (ho : ∀ x, 0 ≤ x → x < K 2270 6 0 → K 2279 x 0 = 0 ∨ K 2279 x 0 = 1) (hs : sI (fun x => K 2279 x 0) (K 2270 6 0) ≤ 6) : ∃ Y, qf_X13_choose 20000 K = some ((), Y) ∧ (∀ e x y, e ≠ 2281 → ¬ (e = 2270 ∧ x = 14) → Y e x y = K e x y) ∧ 0 ≤ Y 2270 14 0 ∧ Y 2270 14 0 ≤ 6 ∧ (∀ k, 0 ≤ k → k < Y 2270 14 0 → 0 ≤ Y 2281 k 0 ∧ Y 2281 k 0 < K 2270 6 0 ∧ GIV K (Y 2281 k 0)) ∧ (∀ j k, 0 ≤ j → j < k → k < Y 2270 14 0 → Y 2281 j 0 < Y 2281 k 0) ∧ ∀ x, 0 ≤ x → x < K 2270 6 0 → GIV K x → ∃ k, 0 ≤ k ∧ k < Y 2270 14 0 ∧ Y 2281 k 0 = x := by
  obtain ⟨K1, hK1⟩ : ∃ X, qw K 2270 14 0 0 = X := ⟨_, rfl⟩
  have f1 : ∀ e x y, ¬ (e = 2270 ∧ x = 14) → K1 e x y = K e x y := fun e x y z => by rw [← hK1, qw_ap, if_neg (by omega)]
  have k14 : K1 2270 14 0 = 0 := by rw [← hK1]; exact qw_s
  have hf : ∀ k, 0 ≤ k → k < K 2270 6 0 → 0 ≤ (fun x => K 2279 x 0) k := fun k k0 k1 => by
    have := ho k k0 k1
    show 0 ≤ K 2279 k 0
    omega
  obtain ⟨o, e1, Y, rfl, y1, y2, y3, y4, y5, y6⟩ : qW (qf_X13_choose_L7 20000 20000 0 K1) (fun o => ∃ Y, o = .inr ((), Y) ∧ (∀ e x y, e ≠ 2281 → ¬ (e = 2270 ∧ x = 14) → Y e x y = K e x y) ∧ 0 ≤ Y 2270 14 0 ∧ Y 2270 14 0 ≤ sI (fun x => K 2279 x 0) (K 2270 6 0) ∧ (∀ k, 0 ≤ k → k < Y 2270 14 0 → 0 ≤ Y 2281 k 0 ∧ Y 2281 k 0 < K 2270 6 0 ∧ GIV K (Y 2281 k 0)) ∧ (∀ j k, 0 ≤ j → j < k → k < Y 2270 14 0 → Y 2281 j 0 < Y 2281 k 0) ∧ ∀ x, 0 ≤ x → x < K 2270 6 0 → GIV K x → ∃ k, 0 ≤ k ∧ k < Y 2270 14 0 ∧ Y 2281 k 0 = x) := by
    unfold qf_X13_choose_L7
    refine qW_for (K 2270 6 0) (fun i s => ∃ Y, s = (i, Y) ∧ (∀ e x y, e ≠ 2281 → ¬ (e = 2270 ∧ x = 14) → Y e x y = K e x y) ∧ 0 ≤ Y 2270 14 0 ∧ Y 2270 14 0 ≤ sI (fun x => K 2279 x 0) i ∧ (∀ k, 0 ≤ k → k < Y 2270 14 0 → 0 ≤ Y 2281 k 0 ∧ Y 2281 k 0 < i ∧ GIV K (Y 2281 k 0)) ∧ (∀ j k, 0 ≤ j → j < k → k < Y 2270 14 0 → Y 2281 j 0 < Y 2281 k 0) ∧ ∀ x, 0 ≤ x → x < i → GIV K x → ∃ k, 0 ≤ k ∧ k < Y 2270 14 0 ∧ Y 2281 k 0 = x) ?_ ?_ ⟨K1, rfl, fun e x y _ z => f1 e x y z, by omega, by rw [k14, sI_0]; exact Int.le_refl _, fun k k0 k1 => by omega, fun j k j0 jk k1 => by omega, fun x x0 x1 => by omega⟩ c0 (by omega)
    · rintro i _ i0 i1 ⟨Y, rfl, h1, h2, h3, h4, h5, h6⟩
      have ss : sI (fun x => K 2279 x 0) (i + 1) = sI (fun x => K 2279 x 0) i + K 2279 i 0 := sI_s i0
      have up := sI_up (f := fun x => K 2279 x 0) (i := i + 1) (n := K 2270 6 0) (by omega) hf (K 2270 6 0 - (i + 1)).toNat (by omega)
      rw [show i + 1 + (((K 2270 6 0 - (i + 1)).toNat : Nat) : Int) = K 2270 6 0 by omega] at up
      have y79 : Y 2279 i 0 = K 2279 i 0 := h1 _ _ _ (by decide) (by omega)
      have oi := ho i i0 i1
      obtain ⟨w, w16, ew, hw⟩ := carsOf_K (K := Y) (x := i) (by rw [h1 _ _ _ (by decide) (by omega)]; exact n0) (by rw [h1 _ _ _ (by decide) (by omega)]; exact n1) i0 (by omega) (by rw [h1 _ _ _ (by decide) (by omega)]; exact hh)
      have hw2 : ∀ j : Nat, j < 4 → (bitN w j = true ↔ (j : Int) < K 2270 0 0 ∧ mayT K j i) := fun j j1 => by
        have q := hw j j1
        unfold mayT at q ⊢
        rw [h1 2270 0 0 (by decide) (by omega), h1 2274 _ _ (by decide) (by omega), h1 2275 _ _ (by decide) (by omega), h1 2276 _ _ (by decide) (by omega), h1 2277 _ _ (by decide) (by omega), h1 2280 _ _ (by decide) (by omega)] at q
        exact q
      -- not given: nothing changes
      have stay : ¬ GIV K i → ∃ Q, ((i + 1, Y) : Int × qm) = (i + 1, Q) ∧ (∀ e x y, e ≠ 2281 → ¬ (e = 2270 ∧ x = 14) → Q e x y = K e x y) ∧ 0 ≤ Q 2270 14 0 ∧ Q 2270 14 0 ≤ sI (fun x => K 2279 x 0) (i + 1) ∧ (∀ k, 0 ≤ k → k < Q 2270 14 0 → 0 ≤ Q 2281 k 0 ∧ Q 2281 k 0 < i + 1 ∧ GIV K (Q 2281 k 0)) ∧ (∀ j k, 0 ≤ j → j < k → k < Q 2270 14 0 → Q 2281 j 0 < Q 2281 k 0) ∧ ∀ x, 0 ≤ x → x < i + 1 → GIV K x → ∃ k, 0 ≤ k ∧ k < Q 2270 14 0 ∧ Q 2281 k 0 = x := fun ng => by
        refine ⟨Y, rfl, h1, h2, by rw [ss]; omega, fun k k0 k1 => ?_, h5, fun x x0 x1 gx => ?_⟩
        · have := h4 k k0 k1
          exact ⟨this.1, by omega, this.2.2⟩
        · by_cases ex : x = i
          · rw [ex] at gx
            exact absurd gx ng
          · exact h6 x x0 (by omega) gx
      have st : qf_X13_choose_L7_b 20000 i Y = (if K 2279 i 0 = 0 then some (.inr (i + 1, Y)) else if (w : Int) ≤ 0 then some (.inr (i + 1, Y)) else if 0 ≤ Y 2270 14 0 ∧ Y 2270 14 0 < 6 then some (.inr (i + 1, qw (qw Y 2281 (Y 2270 14 0) 0 i) 2270 14 0 (w32 (Y 2270 14 0 + 1)))) else none) := by
        unfold qf_X13_choose_L7_b qbnd
        rw [if_neg (show ¬ Y 2270 6 0 ≤ i by rw [h1 _ _ _ (by decide) (by omega)]; omega), if_pos (show 0 ≤ i ∧ i < 400 by omega), y79, ew, w32_id (x := i + 1) (by omega) (by omega)]
        simp only [Option.bind_some]
        rw [show qw Y 2281 (Y 2270 14 0) 0 i 2270 14 0 = Y 2270 14 0 from qw_a (by decide)]
      show qW (qf_X13_choose_L7_b 20000 i Y) _
      by_cases g0 : K 2279 i 0 = 0
      · rw [if_pos g0] at st
        exact qW_at st (stay (fun z => by have := z.1; omega))
      · rw [if_neg g0] at st
        by_cases g1 : (w : Int) ≤ 0
        · rw [if_pos g1] at st
          refine qW_at st (stay (fun z => ?_))
          obtain ⟨j, j1, j2⟩ := z.2
          have q := (hw2 j (by omega)).mpr ⟨j1, j2⟩
          rw [show w = 0 by omega, bit_lo (n := 0) (m := j) (by omega) (Nat.pos_of_ne_zero (by simp))] at q
          cases q
        · rw [if_neg g1, if_pos (show 0 ≤ Y 2270 14 0 ∧ Y 2270 14 0 < 6 by omega), w32_id (x := Y 2270 14 0 + 1) (by omega) (by omega)] at st
          obtain ⟨C, hC⟩ : ∃ C, Y 2270 14 0 = C := ⟨_, rfl⟩
          rw [hC] at st h2 h3 h4 h5 h6
          obtain ⟨V, hV⟩ : ∃ V, qw (qw Y 2281 C 0 i) 2270 14 0 (C + 1) = V := ⟨_, rfl⟩
          rw [hV] at st
          have v14 : V 2270 14 0 = C + 1 := by rw [← hV]; exact qw_s
          have vC : V 2281 C 0 = i := by rw [← hV, qw_a (by decide)]; exact qw_s
          have vk : ∀ k, k ≠ C → V 2281 k 0 = Y 2281 k 0 := fun k z => by rw [← hV, qw_a (by decide), qw_i z]
          have gi : GIV K i := by
            refine ⟨by omega, ?_⟩
            refine Classical.byContradiction (fun z => g1 ?_)
            have e : w = 0 := bit_eq w16 (by decide) (fun j j1 => by
              rw [bit_lo (n := 0) (m := j) (by omega) (Nat.pos_of_ne_zero (by simp))]
              cases hb : bitN w j with
              | false => rfl
              | true => exact absurd ⟨j, (hw2 j j1).mp hb⟩ z)
            omega
          refine qW_at st ⟨V, rfl, fun e x y z1 z2 => ?_, by omega, by rw [v14, ss]; omega, fun k k0 k1 => ?_, fun j k j0 jk k1 => ?_, fun x x0 x1 gx => ?_⟩
          · rw [← hV, qw_ap, if_neg (by omega), qw_a z1]
            exact h1 e x y z1 z2
          · rw [v14] at k1
            by_cases ek : k = C
            · rw [ek, vC]
              exact ⟨i0, by omega, gi⟩
            · rw [vk k ek]
              have := h4 k k0 (by omega)
              exact ⟨this.1, by omega, this.2.2⟩
          · rw [v14] at k1
            rw [vk j (by omega)]
            by_cases ek : k = C
            · rw [ek, vC]
              exact (h4 j j0 (by omega)).2.1
            · rw [vk k ek]
              exact h5 j k j0 jk (by omega)
          · by_cases ex : x = i
            · exact ⟨C, h2, by omega, by rw [vC, ex]⟩
            · obtain ⟨k, k0, k1, k2⟩ := h6 x x0 (by omega) gx
              exact ⟨k, k0, by omega, by rw [vk k (by omega)]; exact k2⟩
    · rintro _ ⟨Y, rfl, h⟩
      show qW (qf_X13_choose_L7_b 20000 (K 2270 6 0) Y) _
      unfold qf_X13_choose_L7_b
      rw [if_pos (show Y 2270 6 0 ≤ K 2270 6 0 by rw [h.1 _ _ _ (by decide) (by omega)]; exact Int.le_refl _)]
      exact qW_some ⟨Y, rfl, h⟩
  refine ⟨Y, ?_, y1, y2, by omega, y4, y5, y6⟩
  unfold qf_X13_choose qbnd
  rw [hK1]
  (try dsimp only)
  rw [e1]
  rfl
end GVm
