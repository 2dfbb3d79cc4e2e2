/-! ===== the giving: all cars, all sets, in the reference ===== -/
section GVl
variable {M K A W Z X Y V : qm} {a b d i j k p q v w T x y : Int} {c m n s r C : Nat} {l t u pre : List Int} {B : Int × List Int}
/-- besides the rows and what is best all is as in K -/
def AFR (K Y : qm) : Prop := ∀ e x y, e ≠ 2284 → e ≠ 2283 → e ≠ 2282 → ¬ (e = 2270 ∧ x = 16) → Y e x y = K e x y
theorem fbr_k (f : AFR K Z) (h : FBR Z Y c r C d) : FBR K Y c r C d := by
  have e1 : rok Z (c : Int) = rok K c := rok_o (fun e x y z => f e x y (by omega) (by omega) (by omega) (by omega))
  have e2 : ∀ k, Z 2281 k 0 = K 2281 k 0 := fun k => f _ _ _ (by decide) (by decide) (by decide) (by omega)
  have e3 : cal Z r C = cal K r C := by
    unfold cal
    rw [show (fun k => Z 2281 k 0) = (fun k => K 2281 k 0) from funext e2]
  have e4 : ∀ x, mayT Z c x ↔ mayT K c x := fun x => by
    unfold mayT
    rw [f 2274 _ _ (by decide) (by decide) (by decide) (by omega), f 2275 _ _ (by decide) (by decide) (by decide) (by omega), f 2276 _ _ (by decide) (by decide) (by decide) (by omega), f 2277 _ _ (by decide) (by decide) (by decide) (by omega), f 2280 _ _ (by decide) (by decide) (by decide) (by omega)]
  unfold FBR at h ⊢
  rw [e1, e3] at h
  rcases h with ⟨h1, h2⟩ | ⟨⟨k, h1, h2⟩, h3⟩
  · refine Or.inl ⟨fun k hk => ?_, h2⟩
    have q := h1 k hk
    rw [e2] at q
    exact (e4 _).mp q
  · refine Or.inr ⟨⟨k, h1, fun z => h2 ?_⟩, h3⟩
    rw [e2]
    exact (e4 _).mpr z
theorem fbr_o (C6 : C ≤ 6) (f : V 2283 d 0 = Y 2283 d 0) (g : ∀ x, 6 * d ≤ x → x < 6 * d + 6 → V 2284 x 0 = Y 2284 x 0) (h : FBR K Y c r C d) : FBR K V c r C d := by
  have l6 : (cal K r C).length ≤ 6 := by
    unfold cal
    rw [List.length_map]
    have := bts_len (x := r) C 0
    omega
  unfold FBR at h ⊢
  rcases h with ⟨h1, l0, h2, h3⟩ | ⟨h1, h3⟩
  · refine Or.inl ⟨h1, l0, f.trans h2, ?_⟩
    rw [← h3]
    exact rl_ext _ 0 (fun k k0 k1 => g _ (by omega) (by omega))
  · exact Or.inr ⟨h1, f.trans h3⟩
theorem pow_6 (h : C ≤ 6) : bL 1 (C : Int) = ((2 ^ C : Nat) : Int) ∧ 2 ^ C ≤ 64 := by
  have c : C = 0 ∨ C = 1 ∨ C = 2 ∨ C = 3 ∨ C = 4 ∨ C = 5 ∨ C = 6 := (by omega)
  rcases c with rfl | rfl | rfl | rfl | rfl | rfl | rfl <;> decide
/-- what the giving asks of cars and calls -/
def GVO (K : qm) (C : Nat) : Prop := (∀ c : Nat, (c : Int) < K 2270 0 0 → CAR K c) ∧ 0 ≤ K 2270 0 0 ∧ K 2270 0 0 ≤ 4 ∧ (0 < C → K 2270 13 0 = 0) ∧ K 2270 14 0 = C ∧ C ≤ 6 ∧ (∀ k, 0 ≤ k → k < (C : Int) → CLL K (K 2281 k 0)) ∧ ∀ j k, 0 ≤ j → j < k → k < (C : Int) → K 2281 j 0 < K 2281 k 0
theorem gvo_o (f : AFR K Z) (h : GVO K C) : GVO Z C := by
  obtain ⟨h1, h2, h3, h4, h5, h6, h7, h8⟩ := h
  have g : ∀ e x y, (2271 ≤ e ∧ e ≤ 2281) ∨ (e = 2270 ∧ x ≠ 16) → Z e x y = K e x y := fun e x y z => f e x y (by omega) (by omega) (by omega) (by omega)
  refine ⟨fun c hc => ?_, by rw [g 2270 0 0 (by omega)]; exact h2, by rw [g 2270 0 0 (by omega)]; exact h3, fun z => (g _ _ _ (by omega)).trans (h4 z), (g _ _ _ (by omega)).trans h5, h6, fun k k0 k1 => ?_, fun j k j0 jk k1 => ?_⟩
  · rw [g 2270 0 0 (by omega)] at hc
    have q := h1 c hc
    unfold CAR at q ⊢
    rw [g 2271 _ _ (by omega), g 2272 _ _ (by omega), g 2273 _ _ (by omega), g 2270 12 _ (by omega)]
    exact q
  · have q := h7 k k0 k1
    rw [g 2281 k 0 (by omega)]
    unfold CLL at q ⊢
    rw [g 2276 _ _ (by omega), g 2277 _ _ (by omega), g 2278 _ _ (by omega), g 2270 12 _ (by omega)]
    exact q
  · rw [g 2281 j 0 (by omega), g 2281 k 0 (by omega)]
    exact h8 j k j0 jk k1
theorem sets_K (hG : GVO K C) (hc : (c : Int) < K 2270 0 0) (f : AFR K Z) : ∃ Y, qf_X13_give_L41 20000 20000 T c 0 Z = some (.inr ((), Y)) ∧ AFR K Y ∧ (∀ r : Nat, r < 2 ^ C → FBR K Y c r C (64 * c + r)) ∧ ∀ e x y, ¬ (e = 2284 ∧ 384 * (c : Int) ≤ x) → ¬ (e = 2283 ∧ 64 * (c : Int) ≤ x) → e ≠ 2282 → ¬ (e = 2270 ∧ x = 16) → Y e x y = Z e x y := by
  have C6 := hG.2.2.2.2.2.1
  have p := pow_6 C6
  obtain ⟨o, e1, Y, rfl, y1, y2, y3⟩ : qW (qf_X13_give_L41 20000 20000 T c 0 Z) (fun o => ∃ Y, o = .inr ((), Y) ∧ AFR K Y ∧ (∀ r : Nat, r < 2 ^ C → FBR K Y c r C (64 * c + r)) ∧ ∀ e x y, ¬ (e = 2284 ∧ 384 * (c : Int) ≤ x) → ¬ (e = 2283 ∧ 64 * (c : Int) ≤ x) → e ≠ 2282 → ¬ (e = 2270 ∧ x = 16) → Y e x y = Z e x y) := by
    unfold qf_X13_give_L41
    refine qW_for ((2 ^ C : Nat) : Int) (fun i s => ∃ Y, s = (T, (c : Int), i, Y) ∧ AFR K Y ∧ (∀ r : Nat, (r : Int) < i → FBR K Y c r C (64 * c + r)) ∧ ∀ e x y, ¬ (e = 2284 ∧ 384 * (c : Int) ≤ x) → ¬ (e = 2283 ∧ 64 * (c : Int) ≤ x) → e ≠ 2282 → ¬ (e = 2270 ∧ x = 16) → Y e x y = Z e x y) ?_ ?_ ⟨Z, rfl, f, fun r h => by omega, fun _ _ _ _ _ _ _ => rfl⟩ (Int.ofNat_le.mpr (Nat.zero_le (2 ^ C))) (by omega)
    · rintro i _ i0 i1 ⟨Y, rfl, h1, h2, h3⟩
      obtain ⟨r, rfl⟩ : ∃ r : Nat, i = r := ⟨i.toNat, by omega⟩
      have gY := gvo_o h1 hG
      obtain ⟨g1, g2, g3, g4, g5, g6, g7, g8⟩ := gY
      have hcY : (c : Int) < Y 2270 0 0 := by rw [h1 _ _ _ (by decide) (by decide) (by decide) (by omega)]; exact hc
      obtain ⟨V, v1, v2, v3⟩ := findRow_K (K := Y) (r := r) (g1 c hcY) g3 g4 hcY g5 C6 (by omega) g7 g8
      show qW (qf_X13_give_L41_b 20000 T c r Y) _
      unfold qf_X13_give_L41_b
      rw [g5, p.1, if_neg (by omega), v1]
      simp only [Option.bind_some]
      rw [w32_id (x := (r : Int) + 1) (by omega) (by omega)]
      refine qW_some ⟨V, rfl, fun e x y z1 z2 z3 z4 => (v3 e x y (by omega) (by omega) z3 z4).trans (h1 e x y z1 z2 z3 z4), fun r' hr' => ?_, fun e x y z1 z2 z3 z4 => (v3 e x y (by omega) (by omega) z3 z4).trans (h3 e x y z1 z2 z3 z4)⟩
      by_cases er : r' = r
      · rw [er]
        exact fbr_k h1 v2
      · exact fbr_o C6 (v3 _ _ _ (by omega) (by omega) (by decide) (by omega)) (fun x x0 x1 => v3 _ _ _ (by omega) (by omega) (by decide) (by omega)) (h2 r' (by omega))
    · rintro _ ⟨Y, rfl, h1, h2, h3⟩
      have g5 := (gvo_o h1 hG).2.2.2.2.1
      show qW (qf_X13_give_L41_b 20000 T c ((2 ^ C : Nat) : Int) Y) _
      unfold qf_X13_give_L41_b
      rw [g5, p.1, if_pos (by omega)]
      exact qW_some ⟨Y, rfl, h1, fun r hr => h2 r (by omega), h3⟩
  exact ⟨Y, e1, y1, y2, y3⟩
theorem cars_K (hG : GVO K C) : ∃ Y, qf_X13_give_L31 20000 20000 T 0 K = some (.inr ((), Y)) ∧ AFR K Y ∧ ∀ c r : Nat, (c : Int) < K 2270 0 0 → r < 2 ^ C → FBR K Y c r C (64 * c + r) := by
  have C6 := hG.2.2.2.2.2.1
  have p := pow_6 C6
  obtain ⟨o, e1, Y, rfl, y1, y2⟩ : qW (qf_X13_give_L31 20000 20000 T 0 K) (fun o => ∃ Y, o = .inr ((), Y) ∧ AFR K Y ∧ ∀ c r : Nat, (c : Int) < K 2270 0 0 → r < 2 ^ C → FBR K Y c r C (64 * c + r)) := by
    unfold qf_X13_give_L31
    have h2 := hG.2.1
    have h3 := hG.2.2.1
    refine qW_for (K 2270 0 0) (fun i s => ∃ Y, s = (T, i, Y) ∧ AFR K Y ∧ ∀ c r : Nat, (c : Int) < i → r < 2 ^ C → FBR K Y c r C (64 * c + r)) ?_ ?_ ⟨K, rfl, fun _ _ _ _ _ _ _ => rfl, fun c r h => by omega⟩ h2 (by omega)
    · rintro i _ i0 i1 ⟨Y, rfl, h4, h5⟩
      obtain ⟨c, rfl⟩ : ∃ c : Nat, i = c := ⟨i.toNat, by omega⟩
      obtain ⟨V, v1, v2, v3, v4⟩ := sets_K (T := T) hG i1 h4
      show qW (qf_X13_give_L31_b 20000 T c Y) _
      unfold qf_X13_give_L31_b
      rw [if_neg (by rw [h4 _ _ _ (by decide) (by decide) (by decide) (by omega)]; omega), v1]
      simp only [Option.bind_some]
      rw [w32_id (x := (c : Int) + 1) (by omega) (by omega)]
      refine qW_some ⟨V, rfl, v2, fun c' r' hc' hr' => ?_⟩
      by_cases ec : c' = c
      · rw [ec]
        exact v3 r' hr'
      · exact fbr_o C6 (v4 _ _ _ (by omega) (by omega) (by decide) (by omega)) (fun x x0 x1 => v4 _ _ _ (by omega) (by omega) (by decide) (by omega)) (h5 c' r' (by omega) hr')
    · rintro _ ⟨Y, rfl, h4, h5⟩
      show qW (qf_X13_give_L31_b 20000 T (K 2270 0 0) Y) _
      unfold qf_X13_give_L31_b
      rw [if_pos (by rw [h4 _ _ _ (by decide) (by decide) (by decide) (by omega)]; omega)]
      exact qW_some ⟨Y, rfl, h4, h5⟩
  exact ⟨Y, e1, y1, y2⟩
end GVl
