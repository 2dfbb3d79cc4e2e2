/-! ===== passing: who may go, both sides ===== -/
section PSr
variable {M K N V : qm} {p x y τ : Int}
theorem may_both (h_persons : R_persons M K) (h_personb : R_personb M K) (h_rooms : R_rooms M K) (hb : M 6 11 0 ≠ 0) (p0 : 0 ≤ p) (p1 : p < M 756 7 0) (et : K 2156 2 0 = τ) : (GOE M τ p ↔ MAY K p) ∧ (GOE M τ p → 0 ≤ K 2307 p 0 ∧ K 2307 p 0 < 24 ∧ 0 ≤ K 2308 p 0 ∧ K 2308 p 0 < 24 ∧ M 761 p 1 = K 2307 p 0 ∧ M 761 p 2 = K 2308 p 0) := by
  have z := h_persons p p0 p1
  have b := h_personb p p0 p1
  unfold GOE MAY
  rw [et, z.2.2.2.2.2.1, ← z.2.1, ← z.2.2.1, z.2.2.2.2.2.2.2, z.2.2.2.1]
  rw [z.2.2.2.1] at b
  by_cases g : K 2306 p 0 = K 2156 9 0
  · rw [if_pos g] at b
    refine ⟨⟨fun w => absurd b.2.2.2.2.2.1 w.1.1, fun w => by omega⟩, fun w => absurd b.2.2.2.2.2.1 w.1.1⟩
  · rw [if_neg g] at b
    refine ⟨⟨fun w => ⟨by omega, by omega, w.2⟩, fun w => ⟨⟨by omega, by omega⟩, w.2.2⟩⟩, fun _ => ⟨by omega, by omega, by omega, by omega, rfl, rfl⟩⟩
theorem urg_both (h_persons : R_persons M K) (h_personb : R_personb M K) (h_rooms : R_rooms M K) (h_walk : R_walk M K) (hb : M 6 11 0 ≠ 0) (p0 : 0 ≤ p) (p1 : p < M 756 7 0) (et : K 2156 2 0 = τ) (hg : GOE M τ p) : (NBR K p = 0 ∧ URG M p = 2147483647) ∨ (0 < NBR K p ∧ URG M p = NBR K p) := by
  obtain ⟨_, m⟩ := may_both h_persons h_personb h_rooms hb p0 p1 et
  have q := m hg
  have w := h_walk (K 2307 p 0) (K 2308 p 0) q.1 q.2.1 q.2.2.1 q.2.2.2.1 hb
  unfold NBR URG
  rw [q.2.2.2.2.1, q.2.2.2.2.2]
  rcases w with ⟨w1, w2⟩ | ⟨w1, w2⟩
  · rw [if_pos w2]
    exact Or.inl ⟨w1, rfl⟩
  · rw [if_neg (by omega)]
    exact Or.inr ⟨w1, w2⟩
end PSr
