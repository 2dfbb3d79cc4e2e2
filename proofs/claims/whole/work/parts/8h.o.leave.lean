/-! ===== passing: the row of turns (class) ===== -/
section PSo
variable {M K N V V0 : qm} {a c d e i j k l n m p r s t u v x y z τ : Int}
/-- how urgent a person goes -/
noncomputable def URG (M : qm) (p : Int) : Int := if M 759 (24 * M 761 p 1 + M 761 p 2) 0 = -1 then 2147483647 else M 759 (24 * M 761 p 1 + M 761 p 2) 0
/-- all but the turns -/
def SUR (M V : qm) : Prop := ∀ e x y, e ≠ 802 → V e x y = M e x y
theorem urg_C (h : SUR M V) (p0 : 0 ≤ p) (p1 : p < 40) (x0 : 0 ≤ M 761 p 1) (x1 : M 761 p 1 < 24) (y0 : 0 ≤ M 761 p 2) (y1 : M 761 p 2 < 24) : qf_X10_urgencyOf 20000 p V = some (URG M p) := by
  have c40 : 0 ≤ p ∧ p < 40 := ⟨p0, p1⟩
  have e1 : V 761 p 1 = M 761 p 1 := h _ _ _ (by decide)
  have e2 : V 761 p 2 = M 761 p 2 := h _ _ _ (by decide)
  have ec : qf_X10_cellOf 20000 p V = some (24 * M 761 p 1 + M 761 p 2) := by
    unfold qf_X10_cellOf qf_X2_cellNumber
    rw [if_pos c40, e1, e2, if_neg (show ¬ M 761 p 1 = -1 by omega), w32_id (x := M 761 p 1 * 24) (by omega) (by omega), w32_id (x := M 761 p 1 * 24 + M 761 p 2) (by omega) (by omega), Option.bind_some, show M 761 p 1 * 24 + M 761 p 2 = 24 * M 761 p 1 + M 761 p 2 by omega]
  unfold qf_X10_urgencyOf URG
  rw [ec, Option.bind_some, if_pos (show 0 ≤ 24 * M 761 p 1 + M 761 p 2 ∧ 24 * M 761 p 1 + M 761 p 2 < 576 by omega), h _ _ _ (by decide)]
  by_cases g : M 759 (24 * M 761 p 1 + M 761 p 2) 0 = -1
  · rw [if_pos g, if_pos g]
  · rw [if_neg g, if_neg g]
def INR (M V0 : qm) (n p : Int) (r : (Int × qm) ⊕ (Int × qm)) : Prop := ∃ j V, r = .inr (j, V) ∧ 0 ≤ j ∧ j ≤ n ∧ SUR M V ∧ (∀ k, 0 ≤ k → k < j → V 802 k 0 = V0 802 k 0) ∧ (∀ k, j < k → k ≤ n → V 802 k 0 = V0 802 (k - 1) 0 ∧ URG M p < URG M (V0 802 (k - 1) 0)) ∧ (j = 0 ∨ URG M (V0 802 (j - 1) 0) ≤ URG M p)
theorem ins_C (hU : ∀ V, SUR M V → ∀ k, 0 ≤ k → k < n → qf_X10_urgencyOf 20000 (V0 802 k 0) V = some (URG M (V0 802 k 0))) (hp : ∀ V, SUR M V → qf_X10_urgencyOf 20000 p V = some (URG M p)) (h0 : SUR M V0) (n0 : 0 ≤ n) (n1 : n < 40) : qW (qf_X10_lineUp_L45 20000 20000 τ n p n V0) (INR M V0 n p) := by
  unfold qf_X10_lineUp_L45
  refine qW_for n (fun i s => ∃ j V, j = n - i ∧ s = (τ, n, p, j, V) ∧ SUR M V ∧ (∀ k, 0 ≤ k → k < j → V 802 k 0 = V0 802 k 0) ∧ ∀ k, j < k → k ≤ n → V 802 k 0 = V0 802 (k - 1) 0 ∧ URG M p < URG M (V0 802 (k - 1) 0)) ?_ ?_ ⟨n, V0, by omega, rfl, h0, fun _ _ _ => rfl, fun k k0 k1 => by omega⟩ (by omega) (by omega)
  · rintro i _ i0 i1 ⟨j, V, hj, rfl, h1, h2, h3⟩
    have w1 : w32 (j - 1) = j - 1 := w32_id (by omega) (by omega)
    have j40 : 0 ≤ j - 1 ∧ j - 1 < 40 := ⟨by omega, by omega⟩
    show qW (qf_X10_lineUp_L45_b 20000 τ n p j V) _
    unfold qf_X10_lineUp_L45_b
    rw [if_neg (show ¬ j ≤ 0 by omega), w1, if_pos j40, h2 (j - 1) j40.1 (by omega)]
    refine qW_eq (hU V h1 (j - 1) j40.1 (by omega)) ?_
    refine qW_eq (hp V h1) ?_
    by_cases g : URG M (V0 802 (j - 1) 0) ≤ URG M p
    · rw [if_pos g]
      exact qW_some ⟨j, V, rfl, by omega, by omega, h1, h2, h3, Or.inr g⟩
    · rw [if_neg g, if_pos j40, if_pos (show 0 ≤ j ∧ j < 40 by omega)]
      refine qW_bnd ?_
      refine qW_some ⟨j - 1, _, by omega, rfl, fun e x y z => (qw_a z).trans (h1 e x y z), fun k k0 k1 => (qw_i (by omega)).trans (h2 k k0 (by omega)), fun k k0 k1 => ?_⟩
      by_cases e : k = j
      · rw [e]
        exact ⟨qw_s, by omega⟩
      · rw [qw_i e]
        exact h3 k (by omega) k1
  · rintro _ ⟨j, V, hj, rfl, h1, h2, h3⟩
    show qW (qf_X10_lineUp_L45_b 20000 τ n p j V) _
    unfold qf_X10_lineUp_L45_b
    rw [if_pos (show j ≤ 0 by omega)]
    exact qW_some ⟨j, V, rfl, by omega, by omega, h1, h2, h3, Or.inl (by omega)⟩
end PSo
