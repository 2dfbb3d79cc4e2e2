/-! ===== what class and reference hold alike, in pieces (wip/tools/q/rels.py) ===== -/
def R_ltime (M K : qm) : Prop := (K 2270 12 0) = (M 6 12 0)
def R_boundz (M K : qm) : Prop := ∀ b, (M 1003 0 0) ≤ b → b < 40 → (K 2248 b 0) = 0
theorem R_ltime_x {M M' K K' : qm} (e0 : M' 6 12 0 = M 6 12 0) (e1 : K' 2270 12 0 = K 2270 12 0) (h : R_ltime M K) : R_ltime M' K' := by
  unfold R_ltime at *
  simp only [e0, e1]
  exact h
theorem R_boundz_x {M M' K K' : qm} (e0 : M' 1003 0 0 = M 1003 0 0) (e1 : ∀ i j, K' 2248 i j = K 2248 i j) (h : R_boundz M K) : R_boundz M' K' := by
  unfold R_boundz at *
  simp only [e0, e1]
  exact h
