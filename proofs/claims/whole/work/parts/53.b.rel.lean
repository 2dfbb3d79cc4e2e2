/-! ===== what class and reference hold alike, in pieces (wip/tools/q/rels.py) ===== -/
def R_smoky (M K : qm) : Prop := (M 756 4 0) = sI (fun c => if (K 2326 c 0) = 0 then 0 else 1) 576
def R_sroom (M K : qm) : Prop := ∀ r, 0 ≤ r → r < 40 → (M 758 r 0) = sI (fun c => if (K 2326 c 0) ≠ 0 ∧ (K 2329 c 0) = r then 1 else 0) 576
def R_spaceof (M K : qm) : Prop := (M 6 11 0) ≠ 0 → ∀ x y, 0 ≤ x → x < 24 → 0 ≤ y → y < 24 → (K 2329 (24 * y + x) 0) = (M 56 (24 * x + y) 0) ∧ -1 ≤ (K 2329 (24 * y + x) 0) ∧ (K 2329 (24 * y + x) 0) < (M 51 3 0)
def R_smoke0 (M K : qm) : Prop := (M 6 11 0) = 0 → ∀ c, 0 ≤ c → c < 576 → (K 2326 c 0) = 0
theorem R_smoky_x {M M' K K' : qm} (e0 : M' 756 4 0 = M 756 4 0) (e1 : ∀ i j, K' 2326 i j = K 2326 i j) (h : R_smoky M K) : R_smoky M' K' := by
  unfold R_smoky at *
  simp only [e0, e1]
  exact h
theorem R_sroom_x {M M' K K' : qm} (e0 : ∀ i j, M' 758 i j = M 758 i j) (e1 : ∀ i j, K' 2326 i j = K 2326 i j) (e2 : ∀ i j, K' 2329 i j = K 2329 i j) (h : R_sroom M K) : R_sroom M' K' := by
  unfold R_sroom at *
  simp only [e0, e1, e2]
  exact h
theorem R_spaceof_x {M M' K K' : qm} (e0 : M' 6 11 0 = M 6 11 0) (e1 : M' 51 3 0 = M 51 3 0) (e2 : ∀ i j, M' 56 i j = M 56 i j) (e3 : ∀ i j, K' 2329 i j = K 2329 i j) (h : R_spaceof M K) : R_spaceof M' K' := by
  unfold R_spaceof at *
  simp only [e0, e1, e2, e3]
  exact h
theorem R_smoke0_x {M M' K K' : qm} (e0 : M' 6 11 0 = M 6 11 0) (e1 : ∀ i j, K' 2326 i j = K 2326 i j) (h : R_smoke0 M K) : R_smoke0 M' K' := by
  unfold R_smoke0 at *
  simp only [e0, e1]
  exact h
