/-! ===== passing: who goes next (reference) ===== -/
section PSn
variable {M K N : qm} {a c d e i k l n m p r s t u v x y z τ : Int}
/-- the number of the person's cell -/
def NBR (K : qm) (p : Int) : Int := K 2328 (24 * K 2308 p 0 + K 2307 p 0) 0
/-- inside, not caught, and it is long enough ago -/
def MAY (K : qm) (p : Int) : Prop := K 2306 p 0 < K 2156 9 0 ∧ K 2309 p 0 < 0 ∧ K 2305 p 0 ≤ w32 (K 2156 2 0 - K 2311 p 0)
def MGO (K : qm) (p : Int) : Prop := K 2331 p 0 = 0 ∧ MAY K p ∧ 0 < NBR K p
def PPS (K : qm) : Prop := ∀ p, 0 ≤ p → p < K 2156 27 0 → K 2306 p 0 < K 2156 9 0 → 0 ≤ K 2307 p 0 ∧ K 2307 p 0 < 24 ∧ 0 ≤ K 2308 p 0 ∧ K 2308 p 0 < 24
theorem nx_98 (hP : PPS K) (hn : K 2156 27 0 ≤ 40) (i0 : 0 ≤ i) (i1 : i < 40) (ha : a < 0 ∨ (0 ≤ a ∧ a < K 2156 27 0 ∧ MGO K a)) : ((0 < t ∧ (a < 0 ∨ t < NBR K a)) ∧ qf_X18_nextOne_J98 20000 a i t K = some (.inr (i, i + 1))) ∨ (¬ (0 < t ∧ (a < 0 ∨ t < NBR K a)) ∧ qf_X18_nextOne_J98 20000 a i t K = some (.inr (a, i + 1))) := by
  have w1 : w32 (i + 1) = i + 1 := w32_id (by omega) (by omega)
  unfold qf_X18_nextOne_J98 qf_X18_nextOne_J135
  rw [w1]
  by_cases g : t ≤ 0
  · rw [if_pos g]
    exact Or.inr ⟨by omega, rfl⟩
  · rw [if_neg g]
    by_cases g2 : a < 0
    · rw [if_pos g2]
      exact Or.inl ⟨⟨by omega, Or.inl g2⟩, rfl⟩
    · have ha' : 0 ≤ a ∧ a < K 2156 27 0 ∧ MGO K a := ha.resolve_left g2
      have pb := hP a ha'.1 ha'.2.1 ha'.2.2.2.1.1
      have c40 : 0 ≤ a ∧ a < 40 := ⟨ha'.1, by omega⟩
      have eN : K 2328 (24 * K 2308 a 0 + K 2307 a 0) 0 = NBR K a := rfl
      rw [if_neg g2, if_pos c40, if_pos c40, w32_id (x := 24 * K 2308 a 0) (by omega) (by omega), w32_id (x := 24 * K 2308 a 0 + K 2307 a 0) (by omega) (by omega), if_pos (show 0 ≤ 24 * K 2308 a 0 + K 2307 a 0 ∧ 24 * K 2308 a 0 + K 2307 a 0 < 576 by omega), eN]
      by_cases g3 : NBR K a ≤ t
      · rw [if_pos g3]
        exact Or.inr ⟨by omega, rfl⟩
      · rw [if_neg g3]
        exact Or.inl ⟨⟨by omega, Or.inr (by omega)⟩, rfl⟩
theorem nx_b (hP : PPS K) (hn : K 2156 27 0 ≤ 40) (i0 : 0 ≤ i) (i1 : i < K 2156 27 0) (ha : a < 0 ∨ (0 ≤ a ∧ a < K 2156 27 0 ∧ MGO K a)) : ((MGO K i ∧ (a < 0 ∨ NBR K i < NBR K a)) ∧ qf_X18_nextOne_L4_b 20000 a i K = some (.inr (i, i + 1))) ∨ (¬ (MGO K i ∧ (a < 0 ∨ NBR K i < NBR K a)) ∧ qf_X18_nextOne_L4_b 20000 a i K = some (.inr (a, i + 1))) := by
  have c40 : 0 ≤ i ∧ i < 40 := ⟨i0, by omega⟩
  have J0 : qf_X18_nextOne_J67 20000 a i K = some (.inr (a, i + 1)) := by
    unfold qf_X18_nextOne_J67 qf_X18_nextOne_J68
    rw [if_pos rfl]
    rcases nx_98 (t := 0) hP hn i0 c40.2 ha with ⟨z, _⟩ | ⟨_, z⟩
    · omega
    · exact z
  unfold qf_X18_nextOne_L4_b
  rw [if_neg (show ¬ K 2156 27 0 ≤ i by omega), if_pos c40]
  by_cases g1 : K 2331 i 0 = 0
  · rw [if_pos g1, if_pos c40]
    by_cases g2 : K 2156 9 0 ≤ K 2306 i 0
    · rw [if_pos g2, J0]
      exact Or.inr ⟨fun w => by have := w.1.2.1.1; omega, rfl⟩
    · rw [if_neg g2, if_pos c40]
      by_cases g3 : 0 ≤ K 2309 i 0
      · rw [if_pos g3, J0]
        exact Or.inr ⟨fun w => by have := w.1.2.1.2.1; omega, rfl⟩
      · rw [if_neg g3, if_pos c40, if_pos c40]
        by_cases g4 : w32 (K 2156 2 0 - K 2311 i 0) < K 2305 i 0
        · rw [if_pos g4, J0]
          exact Or.inr ⟨fun w => by have := w.1.2.1.2.2; omega, rfl⟩
        · rw [if_neg g4]
          have my : MAY K i := ⟨by omega, by omega, by omega⟩
          have pb := hP i i0 i1 my.1
          have J1 : qf_X18_nextOne_J68 20000 a i 1 K = qf_X18_nextOne_J98 20000 a i (NBR K i) K := by
            unfold qf_X18_nextOne_J68
            rw [if_neg (by decide), if_pos c40, if_pos c40, w32_id (x := 24 * K 2308 i 0) (by omega) (by omega), w32_id (x := 24 * K 2308 i 0 + K 2307 i 0) (by omega) (by omega), if_pos (show 0 ≤ 24 * K 2308 i 0 + K 2307 i 0 ∧ 24 * K 2308 i 0 + K 2307 i 0 < 576 by omega)]
            rfl
          rw [J1]
          rcases nx_98 (t := NBR K i) hP hn i0 c40.2 ha with ⟨z1, z2⟩ | ⟨z1, z2⟩
          · exact Or.inl ⟨⟨⟨g1, my, z1.1⟩, z1.2⟩, z2⟩
          · exact Or.inr ⟨fun w => z1 ⟨w.1.2.2, w.2⟩, z2⟩
  · rw [if_neg g1, J0]
    exact Or.inr ⟨fun w => g1 w.1.1, rfl⟩
/-- the one who goes next, or none -/
def NXG (K : qm) (n r : Int) : Prop := (r = -1 ∧ ∀ p, 0 ≤ p → p < n → ¬ MGO K p) ∨ (0 ≤ r ∧ r < n ∧ MGO K r ∧ ∀ p, 0 ≤ p → p < n → MGO K p → NBR K r ≤ NBR K p ∧ (p < r → NBR K r < NBR K p))
theorem next_K (hP : PPS K) (h0 : 0 ≤ K 2156 27 0) (hn : K 2156 27 0 ≤ 40) : ∃ r, qf_X18_nextOne 20000 K = some r ∧ NXG K (K 2156 27 0) r := by
  obtain ⟨o, e1, r, rfl, h1⟩ : qW (qf_X18_nextOne_L4 20000 20000 (-1) 0 K) (fun o => ∃ r, o = .inr r ∧ NXG K (K 2156 27 0) r) := by
    unfold qf_X18_nextOne_L4
    refine qW_for (K 2156 27 0) (fun i s => ∃ a, s = (a, i) ∧ NXG K i a) ?_ ?_ ⟨-1, rfl, Or.inl ⟨rfl, fun p p0 p1 => by omega⟩⟩ (by omega) (by omega)
    · rintro i _ i0 i1 ⟨a, rfl, hA⟩
      have ha : a < 0 ∨ (0 ≤ a ∧ a < K 2156 27 0 ∧ MGO K a) := by
        rcases hA with ⟨z, _⟩ | ⟨z1, z2, z3, _⟩
        · exact Or.inl (by omega)
        · exact Or.inr ⟨z1, by omega, z3⟩
      show qW (qf_X18_nextOne_L4_b 20000 a i K) _
      rcases nx_b hP hn i0 i1 ha with ⟨z1, z2⟩ | ⟨z1, z2⟩
      · rw [z2]
        refine qW_some ⟨i, rfl, Or.inr ⟨i0, by omega, z1.1, fun p p0 p1 hp => ?_⟩⟩
        by_cases e : p = i
        · rw [e]
          exact ⟨Int.le_refl _, fun w => by omega⟩
        · rcases hA with ⟨_, q2⟩ | ⟨q1, _, _, q4⟩
          · exact absurd hp (q2 p p0 (by omega))
          · have q := (q4 p p0 (by omega) hp).1
            have z := z1.2.resolve_left (by omega)
            exact ⟨by omega, fun _ => by omega⟩
      · rw [z2]
        refine qW_some ⟨a, rfl, ?_⟩
        rcases hA with ⟨q1, q2⟩ | ⟨q1, q2, q3, q4⟩
        · refine Or.inl ⟨q1, fun p p0 p1 hp => ?_⟩
          by_cases e : p = i
          · rw [e] at hp
            exact z1 ⟨hp, Or.inl (by omega)⟩
          · exact q2 p p0 (by omega) hp
        · refine Or.inr ⟨q1, by omega, q3, fun p p0 p1 hp => ?_⟩
          by_cases e : p = i
          · rw [e] at hp ⊢
            have nz : ¬ NBR K i < NBR K a := fun w => z1 ⟨hp, Or.inr w⟩
            exact ⟨by omega, fun w => by omega⟩
          · exact q4 p p0 (by omega) hp
    · rintro _ ⟨a, rfl, hA⟩
      show qW (qf_X18_nextOne_L4_b 20000 a (K 2156 27 0) K) _
      unfold qf_X18_nextOne_L4_b
      rw [if_pos (Int.le_refl _)]
      exact qW_some ⟨a, rfl, hA⟩
  refine ⟨r, ?_, h1⟩
  unfold qf_X18_nextOne
  rw [e1]
  rfl
end PSn
