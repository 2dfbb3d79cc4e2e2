/-! ===== the giving: what is made ready; both sides as a whole ===== -/
section GVx
variable {M K A X V Z Y : qm} {a b d i q w T hm x y : Int} {c n s r cs C : Nat} {t u pre E D : List Int} {B : Int × List Int}
theorem carsOf_H (hh : K 2270 13 0 ≠ 0) : qf_X13_carsOf 20000 x K = some 0 := by
  have b : qf_X13_carsOf_L4_b 20000 x 0 0 K = some (.inl (.inr 0)) := by
    unfold qf_X13_carsOf_L4_b
    by_cases g : K 2270 0 0 ≤ 0
    · rw [if_pos g]
    · rw [if_neg g, if_neg hh]
  have l : qf_X13_carsOf_L4 20000 20000 x 0 0 K = some (.inr 0) := by
    show qloop _ (19999 + 1) (x, 0, 0) = _
    rw [qloop.eq_2]
    (try dsimp only)
    rw [b]
  unfold qf_X13_carsOf
  rw [l]
  rfl
theorem choose_H (hh : K 2270 13 0 ≠ 0) (c0 : 0 ≤ K 2270 6 0) (c1 : K 2270 6 0 ≤ 400) : qf_X13_choose 20000 K = some ((), qw K 2270 14 0 0) := by
  obtain ⟨K1, hK1⟩ : ∃ X, qw K 2270 14 0 0 = X := ⟨_, rfl⟩
  have f1 : ∀ e x y, ¬ (e = 2270 ∧ x = 14) → K1 e x y = K e x y := fun e x y z => by rw [← hK1, qw_ap, if_neg (by omega)]
  have h6 : K1 2270 6 0 = K 2270 6 0 := f1 _ _ _ (by omega)
  have hh1 : K1 2270 13 0 ≠ 0 := by
    rw [f1 _ _ _ (by omega)]
    exact hh
  obtain ⟨o, e1, ho⟩ : qW (qf_X13_choose_L7 20000 20000 0 K1) (fun o => o = .inr ((), K1)) := by
    unfold qf_X13_choose_L7
    refine qW_for (K 2270 6 0) (fun i s => s = (i, K1)) ?_ ?_ rfl c0 (by omega)
    · rintro i _ i0 i1 rfl
      show qW (qf_X13_choose_L7_b 20000 i K1) _
      unfold qf_X13_choose_L7_b
      rw [if_neg (by omega), if_pos (show 0 ≤ i ∧ i < 400 by omega), w32_id (x := i + 1) (by omega) (by omega), carsOf_H hh1]
      by_cases g : K1 2279 i 0 = 0
      · rw [if_pos g]
        exact qW_some rfl
      · rw [if_neg g]
        simp only [Option.bind_some]
        rw [if_pos (by decide)]
        exact qW_some rfl
    · rintro _ rfl
      show qW (qf_X13_choose_L7_b 20000 (K 2270 6 0) K1) _
      unfold qf_X13_choose_L7_b
      rw [if_pos (by omega)]
      exact qW_some rfl
  unfold qf_X13_choose qbnd
  rw [hK1]
  (try dsimp only)
  rw [e1, ho]
  rfl
/-- the calls that are given, in the lifts' home or not -/
theorem choose_any (n0 : 0 ≤ K 2270 0 0) (n1 : K 2270 0 0 ≤ 4) (c0 : 0 ≤ K 2270 6 0) (c1 : K 2270 6 0 ≤ 400) (ho : ∀ x, 0 ≤ x → x < K 2270 6 0 → K 2279 x 0 = 0 ∨ K 2279 x 0 = 1) (hs : sI (fun x => K 2279 x 0) (K 2270 6 0) ≤ 6) : ∃ Y, qf_X13_choose 20000 K = some ((), Y) ∧ (∀ e x y, e ≠ 2281 → ¬ (e = 2270 ∧ x = 14) → Y e x y = K e x y) ∧ 0 ≤ Y 2270 14 0 ∧ Y 2270 14 0 ≤ 6 ∧ (∀ k, 0 ≤ k → k < Y 2270 14 0 → 0 ≤ Y 2281 k 0 ∧ Y 2281 k 0 < K 2270 6 0 ∧ K 2270 13 0 = 0 ∧ GIV K (Y 2281 k 0)) ∧ (∀ j k, 0 ≤ j → j < k → k < Y 2270 14 0 → Y 2281 j 0 < Y 2281 k 0) ∧ ∀ x, 0 ≤ x → x < K 2270 6 0 → K 2270 13 0 = 0 → GIV K x → ∃ k, 0 ≤ k ∧ k < Y 2270 14 0 ∧ Y 2281 k 0 = x := by
  by_cases hh : K 2270 13 0 = 0
  · obtain ⟨Y, e1, y1, y2, y3, y4, y5, y6⟩ := choose_K n0 n1 hh c0 c1 ho hs
    exact ⟨Y, e1, y1, y2, y3, fun k k0 k1 => ⟨(y4 k k0 k1).1, (y4 k k0 k1).2.1, hh, (y4 k k0 k1).2.2⟩, y5, fun x x0 x1 _ g => y6 x x0 x1 g⟩
  · have z : qw K 2270 14 0 0 2270 14 0 = 0 := qw_s
    refine ⟨_, choose_H hh c0 c1, fun e x y z1 z2 => ?_, by omega, by omega, fun k k0 k1 => by omega, fun j k j0 jk k1 => by omega, fun x _ _ z _ => absurd z hh⟩
    rw [qw_ap, if_neg (by omega)]
theorem clear_C (c0 : 0 ≤ M 1337 2 0) (c1 : M 1337 2 0 ≤ 400) : ∃ Y, qf_X3_makeGiving_L7 20000 20000 hm 0 M = some (.inr ((), Y)) ∧ (∀ e x y, e ≠ 1745 → Y e x y = M e x y) ∧ ∀ x y, 0 ≤ x → x < M 1337 2 0 → 0 ≤ y → y < 4 → Y 1745 x y = -1 := by
  obtain ⟨o, e1, Y, rfl, y1, y2⟩ : qW (qf_X3_makeGiving_L7 20000 20000 hm 0 M) (fun o => ∃ Y, o = .inr ((), Y) ∧ (∀ e x y, e ≠ 1745 → Y e x y = M e x y) ∧ ∀ x y, 0 ≤ x → x < M 1337 2 0 → 0 ≤ y → y < 4 → Y 1745 x y = -1) := by
    unfold qf_X3_makeGiving_L7
    refine qW_for (M 1337 2 0) (fun i s => ∃ Y, s = (hm, i, Y) ∧ (∀ e x y, e ≠ 1745 → Y e x y = M e x y) ∧ ∀ x y, 0 ≤ x → x < i → 0 ≤ y → y < 4 → Y 1745 x y = -1) ?_ ?_ ⟨M, rfl, fun _ _ _ _ => rfl, fun x y _ _ _ _ => by omega⟩ c0 (by omega)
    · rintro i _ i0 i1 ⟨Y, rfl, h1, h2⟩
      show qW (qf_X3_makeGiving_L7_b 20000 hm i Y) _
      unfold qf_X3_makeGiving_L7_b qbnd
      rw [if_neg (show ¬ Y 1337 2 0 ≤ i by rw [h1 _ _ _ (by decide)]; omega), if_pos (show 0 ≤ i ∧ i < 400 by omega), w32_id (x := i + 1) (by omega) (by omega)]
      refine qW_some ⟨_, rfl, fun e x y z => ?_, fun x y x0 x1 y0 y1 => ?_⟩
      · rw [qfl2_ap, if_neg (by omega)]
        exact h1 e x y z
      · rw [qfl2_ap]
        by_cases g : x = i
        · rw [if_pos (by omega)]
        · rw [if_neg (by omega)]
          exact h2 x y x0 (by omega) y0 y1
    · rintro _ ⟨Y, rfl, h1, h2⟩
      show qW (qf_X3_makeGiving_L7_b 20000 hm (M 1337 2 0) Y) _
      unfold qf_X3_makeGiving_L7_b
      rw [if_pos (show Y 1337 2 0 ≤ M 1337 2 0 by rw [h1 _ _ _ (by decide)]; exact Int.le_refl _)]
      exact qW_some ⟨Y, rfl, h1, h2⟩
  exact ⟨Y, e1, y1, y2⟩
theorem clear_K {v g : Int} (c0 : 0 ≤ K 2270 6 0) (c1 : K 2270 6 0 ≤ 400) : ∃ Y, qf_X13_give_L132 20000 20000 v g 0 K = some (.inr ((), Y)) ∧ (∀ e x y, ¬ (e = 2285 ∧ x < K 2270 6 0) → Y e x y = K e x y) ∧ ∀ x, 0 ≤ x → x < K 2270 6 0 → Y 2285 x 0 = -1 := by
  obtain ⟨o, e1, Y, rfl, y1, y2⟩ : qW (qf_X13_give_L132 20000 20000 v g 0 K) (fun o => ∃ Y, o = .inr ((), Y) ∧ (∀ e x y, ¬ (e = 2285 ∧ x < K 2270 6 0) → Y e x y = K e x y) ∧ ∀ x, 0 ≤ x → x < K 2270 6 0 → Y 2285 x 0 = -1) := by
    unfold qf_X13_give_L132
    refine qW_for (K 2270 6 0) (fun i s => ∃ Y, s = (v, g, i, Y) ∧ (∀ e x y, ¬ (e = 2285 ∧ x < K 2270 6 0) → Y e x y = K e x y) ∧ ∀ x, 0 ≤ x → x < i → Y 2285 x 0 = -1) ?_ ?_ ⟨K, rfl, fun _ _ _ _ => rfl, fun x _ _ => by omega⟩ c0 (by omega)
    · rintro i _ i0 i1 ⟨Y, rfl, h1, h2⟩
      show qW (qf_X13_give_L132_b 20000 v g i Y) _
      unfold qf_X13_give_L132_b qbnd
      rw [if_neg (show ¬ Y 2270 6 0 ≤ i by rw [h1 _ _ _ (by omega)]; omega), if_pos (show 0 ≤ i ∧ i < 400 by omega), w32_id (x := i + 1) (by omega) (by omega)]
      refine qW_some ⟨_, rfl, fun e x y z => ?_, fun x x0 x1 => ?_⟩
      · rw [qw_ap, if_neg (by omega)]
        exact h1 e x y z
      · by_cases e : x = i
        · rw [e]
          exact qw_s
        · rw [qw_i e]
          exact h2 x x0 (by omega)
    · rintro _ ⟨Y, rfl, h1, h2⟩
      show qW (qf_X13_give_L132_b 20000 v g (K 2270 6 0) Y) _
      unfold qf_X13_give_L132_b
      rw [if_pos (show Y 2270 6 0 ≤ K 2270 6 0 by rw [h1 _ _ _ (by omega)]; exact Int.le_refl _)]
      exact qW_some ⟨Y, rfl, h1, h2⟩
  exact ⟨Y, e1, y1, y2⟩
theorem cars33_C (hn : M 1337 4 0 = n) (n6 : n ≤ 6) (h13 : K 2270 13 0 = hm) (hc : ∀ (Z : qm), (∀ e x y, e ≠ 2146 → Z e x y = M e x y) → ∀ k : Nat, k < n → hm = 0 → ∃ w : Nat, w < 16 ∧ qf_X3_carsThatMayTake 20000 (M 1744 (k : Int) 0) Z = some (w : Int) ∧ ∀ j : Nat, j < 4 → (bitN w j = true ↔ (j : Int) < K 2270 0 0 ∧ mayT K j (M 1744 (k : Int) 0))) : ∃ Y, qf_X3_makeGiving_L33 20000 20000 hm 0 M = some (.inr ((), Y)) ∧ (∀ e x y, e ≠ 2146 → Y e x y = M e x y) ∧ WCF Y K n := by
  obtain ⟨o, e1, Y, rfl, y1, y2⟩ : qW (qf_X3_makeGiving_L33 20000 20000 hm 0 M) (fun o => ∃ Y, o = .inr ((), Y) ∧ (∀ e x y, e ≠ 2146 → Y e x y = M e x y) ∧ WCF Y K n) := by
    unfold qf_X3_makeGiving_L33
    refine qW_for n (fun i s => ∃ Y, s = (hm, i, Y) ∧ (∀ e x y, e ≠ 2146 → Y e x y = M e x y) ∧ ∀ k : Nat, (k : Int) < i → 0 ≤ Y 2146 (k : Int) 0 ∧ Y 2146 (k : Int) 0 < 16 ∧ ∀ j : Nat, j < 4 → (bitN (Y 2146 (k : Int) 0).toNat j = true ↔ K 2270 13 0 = 0 ∧ (j : Int) < K 2270 0 0 ∧ mayT K j (M 1744 (k : Int) 0))) ?_ ?_ ⟨M, rfl, fun _ _ _ _ => rfl, fun k k1 => by omega⟩ (by omega) (by omega)
    · rintro i _ i0 i1 ⟨Y, rfl, h1, h2⟩
      obtain ⟨I, rfl⟩ : ∃ I : Nat, i = I := ⟨i.toNat, by omega⟩
      have nx : ∀ w : Nat, w < 16 → (∀ j : Nat, j < 4 → (bitN w j = true ↔ K 2270 13 0 = 0 ∧ (j : Int) < K 2270 0 0 ∧ mayT K j (M 1744 (I : Int) 0))) → ∃ Q, ((hm, (I : Int) + 1, qw Y 2146 (I : Int) 0 w) : Int × Int × qm) = (hm, (I : Int) + 1, Q) ∧ (∀ e x y, e ≠ 2146 → Q e x y = M e x y) ∧ ∀ k : Nat, (k : Int) < (I : Int) + 1 → 0 ≤ Q 2146 (k : Int) 0 ∧ Q 2146 (k : Int) 0 < 16 ∧ ∀ j : Nat, j < 4 → (bitN (Q 2146 (k : Int) 0).toNat j = true ↔ K 2270 13 0 = 0 ∧ (j : Int) < K 2270 0 0 ∧ mayT K j (M 1744 (k : Int) 0)) := fun w w1 w2 => ⟨_, rfl, fun e x y z => by rw [qw_a z]; exact h1 e x y z, fun k k1 => by
        by_cases e : k = I
        · rw [e, show qw Y 2146 (I : Int) 0 w 2146 (I : Int) 0 = w from qw_s, show ((w : Int)).toNat = w by omega]
          exact ⟨by omega, by omega, w2⟩
        · rw [qw_i (show (k : Int) ≠ I by omega)]
          exact h2 k (by omega)⟩
      show qW (qf_X3_makeGiving_L33_b 20000 hm I Y) _
      unfold qf_X3_makeGiving_L33_b qbnd
      rw [if_neg (show ¬ Y 1337 4 0 ≤ (I : Int) by rw [h1 _ _ _ (by decide)]; omega)]
      simp only [if_pos (show 0 ≤ (I : Int) ∧ (I : Int) < 6 by omega)]
      rw [w32_id (x := (I : Int) + 1) (by omega) (by omega)]
      by_cases g : hm = 0
      · rw [if_pos g]
        obtain ⟨w, w1, w2, w3⟩ := hc Y h1 I (by omega) g
        rw [h1 1744 _ _ (by decide), w2]
        simp only [Option.bind_some]
        refine qW_some (nx w w1 (fun j j1 => ?_))
        rw [w3 j j1]
        exact ⟨fun z => ⟨h13.trans g, z⟩, fun z => z.2⟩
      · rw [if_neg g]
        refine qW_some (nx 0 (by decide) (fun j j1 => ?_))
        rw [bit_0]
        exact ⟨fun z => (by cases z), fun z => absurd (h13.symm.trans z.1) g⟩
    · rintro _ ⟨Y, rfl, h1, h2⟩
      show qW (qf_X3_makeGiving_L33_b 20000 hm n Y) _
      unfold qf_X3_makeGiving_L33_b
      rw [if_pos (show Y 1337 4 0 ≤ (n : Int) by rw [h1 _ _ _ (by decide)]; omega)]
      refine qW_some ⟨Y, rfl, h1, fun k k1 => ?_⟩
      rw [h1 1744 _ _ (by decide)]
      exact h2 k (by omega)
  exact ⟨Y, e1, y1, y2⟩
end GVx
