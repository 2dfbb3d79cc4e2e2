/-! ===== what class and reference hold alike, in pieces (wip/tools/q/rels.py) ===== -/
def R_zport (M K : qm) : Prop := (M 6 11 0) = 0 → ∀ j, 0 ≤ j → j < 1400 → (K 2294 j 0) = 0 ∧ (K 2295 j 0) = 0 ∧ (K 2296 j 0) = 0 ∧ (K 2298 j 0) = 0
def R_znum (M K : qm) : Prop := (M 6 11 0) = 0 → ∀ j, 0 ≤ j → j < 576 → (K 2328 j 0) = 0
def R_zpers (M K : qm) : Prop := (M 6 11 0) = 0 → (M 756 7 0) = 0
def R_zzone (M K : qm) : Prop := (M 6 11 0) = 0 → ∀ z, 0 ≤ z → z < 20 → (K 2215 z 0) = 0
theorem R_zport_x {M M' K K' : qm} (e0 : M' 6 11 0 = M 6 11 0) (e1 : ∀ i j, K' 2294 i j = K 2294 i j) (e2 : ∀ i j, K' 2295 i j = K 2295 i j) (e3 : ∀ i j, K' 2296 i j = K 2296 i j) (e4 : ∀ i j, K' 2298 i j = K 2298 i j) (h : R_zport M K) : R_zport M' K' := by
  unfold R_zport at *
  simp only [e0, e1, e2, e3, e4]
  exact h
theorem R_znum_x {M M' K K' : qm} (e0 : M' 6 11 0 = M 6 11 0) (e1 : ∀ i j, K' 2328 i j = K 2328 i j) (h : R_znum M K) : R_znum M' K' := by
  unfold R_znum at *
  simp only [e0, e1]
  exact h
theorem R_zpers_x {M M' K K' : qm} (e0 : M' 6 11 0 = M 6 11 0) (e1 : M' 756 7 0 = M 756 7 0) (h : R_zpers M K) : R_zpers M' K' := by
  unfold R_zpers at *
  simp only [e0, e1]
  exact h
theorem R_zzone_x {M M' K K' : qm} (e0 : M' 6 11 0 = M 6 11 0) (e1 : ∀ i j, K' 2215 i j = K 2215 i j) (h : R_zzone M K) : R_zzone M' K' := by
  unfold R_zzone at *
  simp only [e0, e1]
  exact h
