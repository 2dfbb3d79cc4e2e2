/-! ===== what class and reference hold alike, in pieces (wip/tools/q/rels.py) ===== -/
def R_sorted (M K : qm) : Prop := (M 1003 13 0) = 0 ∨ ((M 1003 13 0) = 1 ∧ Srt (M 1003 0 0) (fun c => (M 1004 c 0)) (fun c i => (M 1008 c i)) (fun k => (M 1136 k 0)) (M 1003 14 0) ∧ ∀ k, 0 ≤ k → k < (M 1003 0 0) → (M 1137 (M 1136 k 0) 0) = k)
theorem R_sorted_x {M M' K K' : qm} (e0 : M' 1003 0 0 = M 1003 0 0) (e1 : M' 1003 13 0 = M 1003 13 0) (e2 : M' 1003 14 0 = M 1003 14 0) (e3 : ∀ i j, M' 1004 i j = M 1004 i j) (e4 : ∀ i j, M' 1008 i j = M 1008 i j) (e5 : ∀ i j, M' 1136 i j = M 1136 i j) (e6 : ∀ i j, M' 1137 i j = M 1137 i j) (h : R_sorted M K) : R_sorted M' K' := by
  unfold R_sorted at *
  simp only [e0, e1, e2, e3, e4, e5, e6]
  exact h
