/-! ===== what class and reference hold alike, in pieces (wip/tools/q/rels.py) ===== -/
def R_tellt (M K : qm) : Prop := ∀ t, 0 ≤ t → t < (M 824 12 0) → 0 ≤ (K 2319 t 0) ∧ (K 2319 t 0) ≤ 3 ∧ 0 ≤ (K 2320 t 0) ∧ 0 ≤ (K 2321 t 0) ∧ ((K 2319 t 0) = 0 → (K 2320 t 0) < (M 824 8 0) ∧ (M 828 (K 2320 t 0) 2) = t) ∧ ((K 2319 t 0) = 1 → (K 2320 t 0) < (M 824 10 0) ∧ (M 889 (K 2320 t 0) 5) = t)
def R_tellc (M K : qm) : Prop := ∀ c, 0 ≤ c → c < (M 824 8 0) → 0 ≤ (M 828 c 2) ∧ (M 828 c 2) < (M 824 12 0) ∧ (K 2319 (M 828 c 2) 0) = 0 ∧ (K 2320 (M 828 c 2) 0) = c
def R_tellr (M K : qm) : Prop := ∀ r, 0 ≤ r → r < (M 824 10 0) → 0 ≤ (M 889 r 5) ∧ (M 889 r 5) < (M 824 12 0) ∧ (K 2319 (M 889 r 5) 0) = 1 ∧ (K 2320 (M 889 r 5) 0) = r
def R_notek (M K : qm) : Prop := ∀ k, 0 ≤ k → k < (M 824 13 0) → 0 ≤ (M 906 (3 * k + 2) 0) ∧ (M 906 (3 * k + 2) 0) < (M 824 12 0) ∧ (((K 2319 (M 906 (3 * k + 2) 0) 0) = 2 ∧ (K 2320 (M 906 (3 * k + 2) 0) 0) = (M 906 (3 * k) 0) ∧ (M 906 (3 * k) 0) < 100) ∨ ((K 2319 (M 906 (3 * k + 2) 0) 0) = 3 ∧ (K 2320 (M 906 (3 * k + 2) 0) 0) + 100 = (M 906 (3 * k) 0))) ∧ (K 2321 (M 906 (3 * k + 2) 0) 0) = (M 906 (3 * k + 1) 0) ∧ 0 ≤ (K 2320 (M 906 (3 * k + 2) 0) 0)
def R_noteo (M K : qm) : Prop := ∀ j k, 0 ≤ j → j < k → k < (M 824 13 0) → (M 906 (3 * j + 2) 0) < (M 906 (3 * k + 2) 0)
def R_notex (M K : qm) : Prop := ∀ t, 0 ≤ t → t < (M 824 12 0) → 2 ≤ (K 2319 t 0) → ∃ k, 0 ≤ k ∧ k < (M 824 13 0) ∧ (M 906 (3 * k + 2) 0) = t
def R_locku (M K : qm) : Prop := 0 ≤ (K 2156 24 0) ∧ (∀ j k, 0 ≤ j → j < k → k < (K 2156 24 0) → ¬ (((K 2302 j 0) = (K 2302 k 0) ∧ (K 2303 j 0) = (K 2303 k 0)) ∨ ((K 2302 j 0) = (K 2303 k 0) ∧ (K 2303 j 0) = (K 2302 k 0))))
def R_lockr (M K : qm) : Prop := ∀ k, 0 ≤ k → k < (K 2156 24 0) → 0 ≤ (K 2302 k 0) ∧ (K 2302 k 0) < (M 824 3 0) ∧ 0 ≤ (K 2303 k 0) ∧ (K 2303 k 0) < (M 824 3 0) ∧ (K 2302 k 0) ≠ (K 2303 k 0)
def R_portq (M K : qm) : Prop := ∀ p, 0 ≤ p → p < (M 824 3 0) → ((M 825 (13 * p) 0) ≠ (K 2156 9 0) → 0 ≤ (M 825 (13 * p + 4) 0) ∧ (M 825 (13 * p + 4) 0) < 24 ∧ 0 ≤ (M 825 (13 * p + 5) 0) ∧ (M 825 (13 * p + 5) 0) < 24 ∧ (M 56 (24 * (M 825 (13 * p + 4) 0) + (M 825 (13 * p + 5) 0)) 0) = (M 825 (13 * p) 0)) ∧ ((M 825 (13 * p + 1) 0) ≠ (K 2156 9 0) → 0 ≤ (M 825 (13 * p + 6) 0) ∧ (M 825 (13 * p + 6) 0) < 24 ∧ 0 ≤ (M 825 (13 * p + 7) 0) ∧ (M 825 (13 * p + 7) 0) < 24 ∧ (M 56 (24 * (M 825 (13 * p + 6) 0) + (M 825 (13 * p + 7) 0)) 0) = (M 825 (13 * p + 1) 0))
def R_msince (M K : qm) : Prop := ∀ a, 0 ≤ a → a < 20 → (K 2219 a 0) = 1 → (K 2227 a 0) ≠ 1 → (K 2228 a 0) = -1
theorem R_tellt_x {M M' K K' : qm} (e0 : M' 824 8 0 = M 824 8 0) (e1 : M' 824 10 0 = M 824 10 0) (e2 : M' 824 12 0 = M 824 12 0) (e3 : ∀ i j, M' 828 i j = M 828 i j) (e4 : ∀ i j, M' 889 i j = M 889 i j) (e5 : ∀ i j, K' 2319 i j = K 2319 i j) (e6 : ∀ i j, K' 2320 i j = K 2320 i j) (e7 : ∀ i j, K' 2321 i j = K 2321 i j) (h : R_tellt M K) : R_tellt M' K' := by
  unfold R_tellt at *
  simp only [e0, e1, e2, e3, e4, e5, e6, e7]
  exact h
theorem R_tellc_x {M M' K K' : qm} (e0 : M' 824 8 0 = M 824 8 0) (e1 : M' 824 12 0 = M 824 12 0) (e2 : ∀ i j, M' 828 i j = M 828 i j) (e3 : ∀ i j, K' 2319 i j = K 2319 i j) (e4 : ∀ i j, K' 2320 i j = K 2320 i j) (h : R_tellc M K) : R_tellc M' K' := by
  unfold R_tellc at *
  simp only [e0, e1, e2, e3, e4]
  exact h
theorem R_tellr_x {M M' K K' : qm} (e0 : M' 824 10 0 = M 824 10 0) (e1 : M' 824 12 0 = M 824 12 0) (e2 : ∀ i j, M' 889 i j = M 889 i j) (e3 : ∀ i j, K' 2319 i j = K 2319 i j) (e4 : ∀ i j, K' 2320 i j = K 2320 i j) (h : R_tellr M K) : R_tellr M' K' := by
  unfold R_tellr at *
  simp only [e0, e1, e2, e3, e4]
  exact h
theorem R_notek_x {M M' K K' : qm} (e0 : M' 824 12 0 = M 824 12 0) (e1 : M' 824 13 0 = M 824 13 0) (e2 : ∀ i j, M' 906 i j = M 906 i j) (e3 : ∀ i j, K' 2319 i j = K 2319 i j) (e4 : ∀ i j, K' 2320 i j = K 2320 i j) (e5 : ∀ i j, K' 2321 i j = K 2321 i j) (h : R_notek M K) : R_notek M' K' := by
  unfold R_notek at *
  simp only [e0, e1, e2, e3, e4, e5]
  exact h
theorem R_noteo_x {M M' K K' : qm} (e0 : M' 824 13 0 = M 824 13 0) (e1 : ∀ i j, M' 906 i j = M 906 i j) (h : R_noteo M K) : R_noteo M' K' := by
  unfold R_noteo at *
  simp only [e0, e1]
  exact h
theorem R_notex_x {M M' K K' : qm} (e0 : M' 824 12 0 = M 824 12 0) (e1 : M' 824 13 0 = M 824 13 0) (e2 : ∀ i j, M' 906 i j = M 906 i j) (e3 : ∀ i j, K' 2319 i j = K 2319 i j) (h : R_notex M K) : R_notex M' K' := by
  unfold R_notex at *
  simp only [e0, e1, e2, e3]
  exact h
theorem R_locku_x {M M' K K' : qm} (e0 : K' 2156 24 0 = K 2156 24 0) (e1 : ∀ i j, K' 2302 i j = K 2302 i j) (e2 : ∀ i j, K' 2303 i j = K 2303 i j) (h : R_locku M K) : R_locku M' K' := by
  unfold R_locku at *
  simp only [e0, e1, e2]
  exact h
theorem R_lockr_x {M M' K K' : qm} (e0 : M' 824 3 0 = M 824 3 0) (e1 : K' 2156 24 0 = K 2156 24 0) (e2 : ∀ i j, K' 2302 i j = K 2302 i j) (e3 : ∀ i j, K' 2303 i j = K 2303 i j) (h : R_lockr M K) : R_lockr M' K' := by
  unfold R_lockr at *
  simp only [e0, e1, e2, e3]
  exact h
theorem R_portq_x {M M' K K' : qm} (e0 : ∀ i j, M' 56 i j = M 56 i j) (e1 : M' 824 3 0 = M 824 3 0) (e2 : ∀ i j, M' 825 i j = M 825 i j) (e3 : K' 2156 9 0 = K 2156 9 0) (h : R_portq M K) : R_portq M' K' := by
  unfold R_portq at *
  simp only [e0, e1, e2, e3]
  exact h
theorem R_msince_x {M M' K K' : qm} (e0 : ∀ i j, K' 2219 i j = K 2219 i j) (e1 : ∀ i j, K' 2227 i j = K 2227 i j) (e2 : ∀ i j, K' 2228 i j = K 2228 i j) (h : R_msince M K) : R_msince M' K' := by
  unfold R_msince at *
  simp only [e0, e1, e2]
  exact h
