section NC
variable {M K A B C D D0 E F G H T : qm} {n m p k v z l x y w c r i j a b s t L R N f L0 S : Int} {q stt cnt u o : Int → Int}
def NFR (H T : qm) : Prop := ∀ b i j, b ≠ 2182 → b ≠ 2168 → ¬ (b = 2157 ∧ i = 17) → T b i j = H b i j
def NLD (T : qm) (u o : Int → Int) (L0 i : Int) : Prop := ∀ c, 0 ≤ c → c < 1764 → (c = L0 → (T 2182 c 0) = -1) ∧ (c ≠ L0 → (∀ r, 0 ≤ r → r < i → u r = c → (T 2182 c 0) = o r) ∧ ((∀ r, 0 ≤ r → r < i → u r ≠ c) → (T 2182 c 0) = -2))
/-- the numbers of the cells, by the rings -/
theorem number_1 (hR : 0 ≤ R) (R5 : R ≤ 220) (hu : ∀ r, 0 ≤ r → r < R → 0 ≤ u r ∧ u r < 1764) (ho : ∀ r, 0 ≤ r → r < R → -1 ≤ o r ∧ o r < 100) (h1 : ∀ r t, 0 ≤ r → r < R → 0 ≤ t → t < R → (u r = u t ↔ o r = o t)) (h2 : ∀ r, 0 ≤ r → r < R → (u r = L0 ↔ o r = -1)) (h3 : ∀ r t, 0 ≤ r → r < R → 0 ≤ t → t < o r → ∃ i, 0 ≤ i ∧ i < r ∧ o i = t) (L00 : 0 ≤ L0) (L01 : L0 < 1764) (hr : (H 2157 35 0) = R) (hl : ∀ T i, (∀ b i j, b ≠ 2182 → ¬ (b = 2157 ∧ i = 17) → T b i j = H b i j) → 0 ≤ i → i < R → qf_X16_left 20000 (T 2180 i 0) T = some (u i)) (hT : ∀ b i j, b ≠ 2182 → ¬ (b = 2157 ∧ i = 17) → T b i j = H b i j) (hs : T 2157 17 0 = 0) (hL : NLD T u o L0 0) : qW (qf_X16_number_L44 20000 20000 0 T) (fun q => ∃ V k, q = .inr ((), V) ∧ (∀ b i j, b ≠ 2182 → ¬ (b = 2157 ∧ i = 17) → V b i j = H b i j) ∧ V 2157 17 0 = k ∧ 0 ≤ k ∧ (∀ v, 0 ≤ v → v < k → ∃ r, 0 ≤ r ∧ r < R ∧ o r = v) ∧ (∀ r, 0 ≤ r → r < R → o r < k) ∧ NLD V u o L0 R) := by
  unfold qf_X16_number_L44
  refine qW_for R (fun i s => ∃ V k, s = (i, V) ∧ (∀ b i j, b ≠ 2182 → ¬ (b = 2157 ∧ i = 17) → V b i j = H b i j) ∧ V 2157 17 0 = k ∧ 0 ≤ k ∧ k ≤ i ∧ (∀ v, 0 ≤ v → v < k → ∃ r, 0 ≤ r ∧ r < i ∧ o r = v) ∧ (∀ r, 0 ≤ r → r < i → o r < k) ∧ NLD V u o L0 i) ?_ ?_ ⟨T, 0, rfl, hT, hs, by decide, by decide, fun v a b => by omega, fun r a b => by omega, hL⟩ hR (by omega)
  · rintro i _ i0 i1 ⟨V, k, rfl, v1, v2, v3, v4, v5, v6, v7⟩
    have er := (v1 2157 35 0 (by decide) (by omega)).trans hr
    have el := hl V i v1 i0 i1
    have ui := hu i i0 i1
    have oi := ho i i0 i1
    have ld := v7 (u i) ui.1 ui.2
    have neg : o i = -1 ∨ 0 ≤ o i := by omega
    unfold qf_X16_number_L44_b
    (try dsimp only)
    rw [if_neg (by omega), if_pos (by omega), w32_id (x := i + 1) (by omega) (by omega)]
    refine qW_eq el ?_
    (try dsimp only)
    rw [if_pos ui]
    have stay : (o i = -1 ∨ ∃ r, 0 ≤ r ∧ r < i ∧ o r = o i) → ∃ V' k', (i + 1, V) = (i + 1, V') ∧ (∀ b i j, b ≠ 2182 → ¬ (b = 2157 ∧ i = 17) → V' b i j = H b i j) ∧ V' 2157 17 0 = k' ∧ 0 ≤ k' ∧ k' ≤ i + 1 ∧ (∀ v, 0 ≤ v → v < k' → ∃ r, 0 ≤ r ∧ r < i + 1 ∧ o r = v) ∧ (∀ r, 0 ≤ r → r < i + 1 → o r < k') ∧ NLD V' u o L0 (i + 1) := by
      intro hh
      refine ⟨V, k, rfl, v1, v2, v3, by omega, fun v a b => ?_, fun r a b => ?_, fun c c0 c1 => ⟨(v7 c c0 c1).1, fun hc => ⟨fun r r0 r1 e => ?_, fun no => ?_⟩⟩⟩
      · obtain ⟨r, r0, r1, r2⟩ := v5 v a b
        exact ⟨r, r0, by omega, r2⟩
      · by_cases g : r = i
        · rw [g]
          rcases hh with z | ⟨r', a', b', z⟩
          · omega
          · have := v6 r' a' b'
            omega
        · exact v6 r a (by omega)
      · by_cases g : r = i
        · rw [g] at e ⊢
          rcases hh with z | ⟨r', a', b', z⟩
          · exact absurd (e.symm.trans ((h2 i i0 i1).mpr z)) hc
          · rw [← z]
            exact ((v7 c c0 c1).2 hc).1 r' a' b' (((h1 r' i a' (by omega) i0 i1).mpr z).trans e)
        · exact ((v7 c c0 c1).2 hc).1 r r0 (by omega) e
      · exact ((v7 c c0 c1).2 hc).2 (fun r r0 r1 => no r r0 (by omega))
    by_cases seen : o i = -1 ∨ ∃ r, 0 ≤ r ∧ r < i ∧ o r = o i
    · have nl : V 2182 (u i) 0 ≠ -2 := by
        rcases seen with z | ⟨r', a', b', z⟩
        · have := ld.1 ((h2 i i0 i1).mpr z)
          omega
        · by_cases g : o i = -1
          · have := ld.1 ((h2 i i0 i1).mpr g)
            omega
          · have hc : u i ≠ L0 := fun y => g ((h2 i i0 i1).mp y)
            have := (ld.2 hc).1 r' a' b' ((h1 r' i a' (by omega) i0 i1).mpr z)
            omega
      rw [if_neg nl]
      exact qW_some (stay seen)
    · have g : ¬ o i = -1 := fun z => seen (Or.inl z)
      have ns : ∀ r, 0 ≤ r → r < i → o r ≠ o i := fun r r0 r1 z => seen (Or.inr ⟨r, r0, r1, z⟩)
      have hc : u i ≠ L0 := fun y => g ((h2 i i0 i1).mp y)
      have nl := (ld.2 hc).2 (fun r r0 r1 e => ns r r0 r1 ((h1 r i r0 (by omega) i0 i1).mp e))
      have ek : o i = k := by
        rcases Int.lt_trichotomy (o i) k with z | z | z
        · obtain ⟨r, r0, r1, r2⟩ := v5 (o i) (by omega) z
          exact absurd r2 (ns r r0 r1)
        · exact z
        · obtain ⟨r, r0, r1, r2⟩ := h3 i k i0 i1 v3 z
          have := v6 r r0 r1
          omega
      rw [if_pos nl, if_pos ui]
      refine qW_bnd ?_
      have e17 : qw V 2182 (u i) 0 (V 2157 17 0) 2157 17 0 = k := (qw_a (by decide)).trans v2
      rw [e17, v2, w32_id (x := k + 1) (by omega) (by omega)]
      have el2 : ∀ c, qw (qw V 2182 (u i) 0 k) 2157 17 0 (k + 1) 2182 c 0 = if c = u i then k else (V 2182 c 0) := fun c => by
        simp only [qw_ap, false_and, true_and, and_true, and_false, and_self, if_false, if_true, reduceIte, Nat.reduceEqDiff, Int.reduceEq]
      refine qW_bnd (qW_some ⟨_, k + 1, rfl, fun b i j b1 b2 => ?_, qw_s, by omega, by omega, fun v a b => ?_, fun r a b => ?_, fun c c0 c1 => ⟨fun e => ?_, fun hc2 => ⟨fun r r0 r1 e => ?_, fun no => ?_⟩⟩⟩)
      · rw [qw_ap, if_neg (by omega), qw_a b1]
        exact v1 b i j b1 b2
      · by_cases gv : v = k
        · exact ⟨i, i0, by omega, by omega⟩
        · obtain ⟨r, r0, r1, r2⟩ := v5 v a (by omega)
          exact ⟨r, r0, by omega, r2⟩
      · by_cases gr : r = i
        · rw [gr]
          omega
        · have := v6 r a (by omega)
          omega
      · rw [el2, if_neg (by omega)]
        exact (v7 c c0 c1).1 e
      · rw [el2]
        by_cases gc : c = u i
        · rw [if_pos gc]
          have := (h1 r i r0 (by omega) i0 i1).mp (e.trans gc)
          omega
        · rw [if_neg gc]
          have gr : r ≠ i := fun z => gc (by rw [← z]; exact e.symm)
          exact ((v7 c c0 c1).2 hc2).1 r r0 (by omega) e
      · rw [el2, if_neg (fun z => no i i0 (by omega) z.symm)]
        exact ((v7 c c0 c1).2 hc2).2 (fun r r0 r1 => no r r0 (by omega))
  · rintro _ ⟨V, k, rfl, v1, v2, v3, v4, v5, v6, v7⟩
    have er := (v1 2157 35 0 (by decide) (by omega)).trans hr
    unfold qf_X16_number_L44_b
    (try dsimp only)
    rw [if_pos (by omega)]
    exact qW_some ⟨V, k, rfl, v1, v2, v3, v5, v6, v7⟩
/-- all cells by their leads -/
theorem number_2 (hC : CR5 T) (hc : ∀ k, 0 ≤ k → k < 1764 → 0 ≤ (T 2168 k 0) ∧ (T 2168 k 0) < 1764) : qW (qf_X16_number_L102 20000 20000 0 T) (fun q => ∃ V, q = .inr ((), V) ∧ ofr 2168 T V ∧ ∀ r c, 0 ≤ r → r ≤ (T 2157 13 0) → 0 ≤ c → c ≤ (T 2157 12 0) → (V 2168 (42 * r + c) 0) = (T 2182 (T 2168 (42 * r + c) 0) 0)) := by
  obtain ⟨C0, C5, R0, R5⟩ := hC
  unfold qf_X16_number_L102
  refine qW_for ((T 2157 13 0) + 1) (fun r s => ∃ V, s = (r, V) ∧ ofr 2168 T V ∧ (∀ d c, 0 ≤ d → d ≤ (T 2157 13 0) → 0 ≤ c → c ≤ (T 2157 12 0) → (V 2168 (42 * d + c) 0) = if d < r then (T 2182 (T 2168 (42 * d + c) 0) 0) else (T 2168 (42 * d + c) 0))) ?_ ?_ ⟨T, rfl, ofr_r, fun d c d0 d1 c0 c1 => by rw [if_neg (by omega)]⟩ (by omega) (by omega)
  · rintro r _ r0 r1 ⟨V, rfl, v1, v2⟩
    have er := v1 2157 13 0 (by decide)
    unfold qf_X16_number_L102_b
    (try dsimp only)
    rw [if_neg (by omega), w32_id (x := r + 1) (by omega) (by omega)]
    refine qW_call (Q := fun o => ∃ V, o = .inr ((), V) ∧ ofr 2168 T V ∧ (∀ d c, 0 ≤ d → d ≤ (T 2157 13 0) → 0 ≤ c → c ≤ (T 2157 12 0) → (V 2168 (42 * d + c) 0) = if d < r + 1 then (T 2182 (T 2168 (42 * d + c) 0) 0) else (T 2168 (42 * d + c) 0))) ?_ ?_
    · unfold qf_X16_number_L112
      refine qW_for ((T 2157 12 0) + 1) (fun e s => ∃ V, s = (r, e, V) ∧ ofr 2168 T V ∧ (∀ d c, 0 ≤ d → d ≤ (T 2157 13 0) → 0 ≤ c → c ≤ (T 2157 12 0) → (V 2168 (42 * d + c) 0) = if d < r ∨ (d = r ∧ c < e) then (T 2182 (T 2168 (42 * d + c) 0) 0) else (T 2168 (42 * d + c) 0))) ?_ ?_ ⟨V, rfl, v1, fun d c d0 d1 c0 c1 => ?_⟩ (by omega) (by omega)
      · rintro e _ e0 e1 ⟨V, rfl, v1, v2⟩
        have ec := v1 2157 12 0 (by decide)
        have me := v2 r e r0 (by omega) e0 (by omega)
        rw [if_neg (by omega)] at me
        have cr := hc (42 * r + e) (by omega) (by omega)
        unfold qf_X16_number_L112_b
        (try dsimp only)
        rw [if_neg (by omega), w32_id (x := 42 * r) (by omega) (by omega), w32_id (x := 42 * r + e) (by omega) (by omega), w32_id (x := e + 1) (by omega) (by omega), if_pos (by omega), if_pos (show 0 ≤ V 2168 (42 * r + e) 0 ∧ V 2168 (42 * r + e) 0 < 1764 by omega), if_pos (by omega), me, v1 2182 _ 0 (by decide)]
        refine qW_bnd (qW_some ⟨_, rfl, ofr_w v1, fun d c d0 d1 c0 c1 => ?_⟩)
        have e3 : ∀ z, qw V 2168 (42 * r + e) 0 z 2168 (42 * d + c) 0 = if 42 * d + c = 42 * r + e then z else (V 2168 (42 * d + c) 0) := fun z => by
          simp only [qw_ap, false_and, true_and, and_true, and_false, and_self, if_false, if_true, reduceIte, Nat.reduceEqDiff, Int.reduceEq]
        rw [e3]
        by_cases g : d = r ∧ c = e
        · rw [if_pos (by omega), if_pos (by omega), g.1, g.2]
        · rw [if_neg (by omega), v2 d c d0 d1 c0 c1]
          by_cases g2 : d < r ∨ (d = r ∧ c < e)
          · rw [if_pos g2, if_pos (by omega)]
          · rw [if_neg g2, if_neg (by omega)]
      · rintro _ ⟨V, rfl, v1, v2⟩
        have ec := v1 2157 12 0 (by decide)
        unfold qf_X16_number_L112_b
        (try dsimp only)
        rw [if_pos (by omega)]
        refine qW_some ⟨V, rfl, v1, fun d c d0 d1 c0 c1 => ?_⟩
        rw [v2 d c d0 d1 c0 c1]
        by_cases g : d < r + 1
        · rw [if_pos g, if_pos (by omega)]
        · rw [if_neg g, if_neg (by omega)]
      · rw [v2 d c d0 d1 c0 c1]
        by_cases g : d < r
        · rw [if_pos g, if_pos (by omega)]
        · rw [if_neg g, if_neg (by omega)]
    · rintro _ ⟨V, rfl, v1, v2⟩
      exact qW_some ⟨V, rfl, v1, v2⟩
  · rintro _ ⟨V, rfl, v1, v2⟩
    have er := v1 2157 13 0 (by decide)
    unfold qf_X16_number_L102_b
    (try dsimp only)
    rw [if_pos (by omega)]
    refine qW_some ⟨V, rfl, v1, fun d c d0 d1 c0 c1 => ?_⟩
    rw [v2 d c d0 d1 c0 c1, if_pos (by omega)]
end NC
