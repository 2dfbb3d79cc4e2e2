/-! ===== passing: the row of turns (class), all of it ===== -/
section PSp
variable {M K N V V0 : qm} {a c d e i j k l n m p r s t u v x y z τ : Int}
/-- the person may go (class) -/
def GOE (M : qm) (τ p : Int) : Prop := (M 761 p 1 ≠ -1 ∧ M 761 p 3 = -1) ∧ M 761 p 7 ≤ w32 (τ - M 761 p 5)
/-- goes before -/
def BEF (M : qm) (a b : Int) : Prop := URG M a < URG M b ∨ (URG M a = URG M b ∧ a < b)
def LIN (M V : qm) (τ i n : Int) : Prop := 0 ≤ n ∧ n ≤ i ∧ SUR M V ∧ (∀ k, 0 ≤ k → k < n → 0 ≤ V 802 k 0 ∧ V 802 k 0 < i ∧ GOE M τ (V 802 k 0)) ∧ (∀ p, 0 ≤ p → p < i → GOE M τ p → ∃ k, 0 ≤ k ∧ k < n ∧ V 802 k 0 = p) ∧ ∀ j k, 0 ≤ j → j < k → k < n → BEF M (V 802 j 0) (V 802 k 0)
theorem lin_put (h : LIN M V0 τ i n) (hg : GOE M τ i) (i0 : 0 ≤ i) (hr : INR M V0 n i (.inr (j, V))) : LIN M (qw V 802 j 0 i) τ (i + 1) (n + 1) ∧ 0 ≤ j ∧ j ≤ n := by
  obtain ⟨g0, g1, g2, g3, g4, g5⟩ := h
  obtain ⟨j', V', e, a0, a1, a2, a3, a4, a5⟩ := hr
  have e2 := Sum.inr.inj e
  have ej : j' = j := ((Prod.mk.inj e2).1).symm
  have eV : V' = V := ((Prod.mk.inj e2).2).symm
  rw [ej] at a0 a1 a3 a4 a5
  rw [eV] at a2 a3 a4
  have lo : ∀ k, 0 ≤ k → k < j → (qw V 802 j 0 i) 802 k 0 = V0 802 k 0 := fun k k0 k1 => (qw_i (by omega)).trans (a3 k k0 k1)
  have hi : ∀ k, j < k → k ≤ n → (qw V 802 j 0 i) 802 k 0 = V0 802 (k - 1) 0 := fun k k0 k1 => (qw_i (by omega)).trans (a4 k k0 k1).1
  have me : (qw V 802 j 0 i) 802 j 0 = i := qw_s
  have bl : ∀ k, 0 ≤ k → k < j → BEF M (V0 802 k 0) i := fun k k0 k1 => by
    have z := (g3 k k0 (by omega)).2.1
    have u : URG M (V0 802 (j - 1) 0) ≤ URG M i := a5.resolve_left (by omega)
    by_cases e : k = j - 1
    · rw [← e] at u
      unfold BEF
      omega
    · have b := g5 k (j - 1) k0 (by omega) (by omega)
      unfold BEF at b ⊢
      omega
  have bh : ∀ k, j < k → k ≤ n → BEF M i (V0 802 (k - 1) 0) := fun k k0 k1 => Or.inl (a4 k k0 k1).2
  refine ⟨⟨by omega, by omega, fun e x y z => (qw_a z).trans (a2 e x y z), fun k k0 k1 => ?_, fun p p0 p1 hp => ?_, fun a k b0 b1 b2 => ?_⟩, a0, a1⟩
  · rcases Int.lt_trichotomy k j with w | w | w
    · rw [lo k k0 w]
      have z := g3 k k0 (by omega)
      exact ⟨z.1, by omega, z.2.2⟩
    · rw [w, me]
      exact ⟨i0, by omega, hg⟩
    · rw [hi k w (by omega)]
      have z := g3 (k - 1) (by omega) (by omega)
      exact ⟨z.1, by omega, z.2.2⟩
  · by_cases e : p = i
    · rw [e]
      exact ⟨j, a0, by omega, me⟩
    · obtain ⟨k, k0, k1, ek⟩ := g4 p p0 (by omega) hp
      by_cases w : k < j
      · exact ⟨k, k0, by omega, (lo k k0 w).trans ek⟩
      · refine ⟨k + 1, by omega, by omega, (hi (k + 1) (by omega) (by omega)).trans ?_⟩
        rw [show k + 1 - 1 = k by omega]
        exact ek
  · rcases Int.lt_trichotomy k j with w | w | w
    · rw [lo k (by omega) w, lo a b0 (by omega)]
      exact g5 a k b0 b1 (by omega)
    · rw [w, me, lo a b0 (by omega)]
      exact bl a b0 (by omega)
    · rw [hi k w (by omega)]
      rcases Int.lt_trichotomy a j with w2 | w2 | w2
      · rw [lo a b0 w2]
        exact g5 a (k - 1) b0 (by omega) (by omega)
      · rw [w2, me]
        exact bh k w (by omega)
      · rw [hi a w2 (by omega)]
        exact g5 (a - 1) (k - 1) (by omega) (by omega) (by omega)
end PSp
