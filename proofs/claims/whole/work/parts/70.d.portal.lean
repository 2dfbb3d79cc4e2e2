/-! ===== a portal's fields ===== -/
def pnM (M : qm) : Prop := 0 ≤ (M 824 3 0) ∧ (M 824 3 0) ≤ 1320 ∧ M 825 (-1) 0 = 13 * (M 824 3 0)
theorem pnM_of {M K : qm} (h : R_portn M K) : pnM M := ⟨h.1, h.2.1, h.2.2.2.1⟩
theorem pnM_w {M : qm} {i v : Int} (h : pnM M) (i0 : 0 ≤ i) : pnM (qw M 825 i 0 v) := by
  obtain ⟨h1, h2, h3⟩ := h
  refine ⟨h1, h2, ?_⟩
  rw [qw_i (by omega)]
  exact h3
section PF
variable {M : qm} {p f v w t : Int}
theorem factOf_r (h : pnM M) (p0 : 0 ≤ p) (p1 : p < (M 824 3 0)) (f0 : 0 ≤ f) (f1 : f < 13) : qf_X0_factOf 20000 p f M = some (M 825 (13 * p + f) 0) := by
  obtain ⟨h1, h2, h3⟩ := h
  unfold qf_X0_factOf
  rw [w32_id (x := p * 13) (by omega) (by omega), w32_id (x := p * 13 + f) (by omega) (by omega), if_pos (show 0 ≤ p * 13 + f ∧ p * 13 + f < M 825 (-1) 0 by omega), Int.mul_comm p 13]
theorem setFact_r (h : pnM M) (p0 : 0 ≤ p) (p1 : p < (M 824 3 0)) (f0 : 0 ≤ f) (f1 : f < 13) : qf_X0_setFact 20000 p f v M = some ((), qw M 825 (13 * p + f) 0 v) := by
  obtain ⟨h1, h2, h3⟩ := h
  unfold qf_X0_setFact
  rw [w32_id (x := p * 13) (by omega) (by omega), w32_id (x := p * 13 + f) (by omega) (by omega), if_pos (show 0 ≤ p * 13 + f ∧ p * 13 + f < M 825 (-1) 0 by omega), Int.mul_comm p 13]
  rfl
theorem setTwo_r (h : pnM M) (p0 : 0 ≤ p) (p1 : p < (M 824 3 0)) (hv : v = 0 ∨ v = 1) (hw : M 825 (13 * p + 10) 0 = 0 ∨ M 825 (13 * p + 10) 0 = 1) : qf_X0_setTwo 20000 p v M = some (M 825 (13 * p + 10) 0, qw M 825 (13 * p + 10) 0 v) := by
  unfold qf_X0_setTwo qf_X0_setTwo_J15
  rw [factOf_r h p0 p1 (by decide) (by decide)]
  show (if M 825 (13 * p + 10) 0 = 0 then _ else _) = _
  rw [setFact_r h p0 p1 (by decide) (by decide), setFact_r h p0 p1 (by decide) (by decide)]
  rcases hv with rfl | rfl <;> rcases hw with e | e <;> rw [e] <;> rfl
theorem setOpen_s (h : pnM M) (p0 : 0 ≤ p) (p1 : p < (M 824 3 0)) (hv : v = 0 ∨ v = 1) (hw : M 825 (13 * p + 8) 0 = v) (h9 : 0 ≤ M 825 (13 * p + 9) 0) (h9t : M 825 (13 * p + 9) 0 ≤ t) (ht : t ≤ 6000) : qf_X0_setOpen 20000 p v t M = some (t - M 825 (13 * p + 9) 0, M) := by
  unfold qf_X0_setOpen qf_X0_setOpen_J27
  rw [factOf_r h p0 p1 (by decide) (by decide), factOf_r h p0 p1 (by decide) (by decide)]
  show (if M 825 (13 * p + 8) 0 = 0 then _ else _) = _
  rw [w32_id (x := t - M 825 (13 * p + 9) 0) (by omega) (by omega), hw]
  rcases hv with rfl | rfl <;> rfl
theorem setOpen_d (h : pnM M) (p0 : 0 ≤ p) (p1 : p < (M 824 3 0)) (hv : v = 0 ∨ v = 1) (hx : M 825 (13 * p + 8) 0 = 0 ∨ M 825 (13 * p + 8) 0 = 1) (hw : M 825 (13 * p + 8) 0 ≠ v) (h9 : 0 ≤ M 825 (13 * p + 9) 0) (h9t : M 825 (13 * p + 9) 0 ≤ t) (ht : t ≤ 6000) : qf_X0_setOpen 20000 p v t M = some (t - M 825 (13 * p + 9) 0, qw (qw M 825 (13 * p + 8) 0 v) 825 (13 * p + 9) 0 t) := by
  unfold qf_X0_setOpen qf_X0_setOpen_J27 qf_X0_setOpen_J43
  rw [factOf_r h p0 p1 (by decide) (by decide), factOf_r h p0 p1 (by decide) (by decide)]
  show (if M 825 (13 * p + 8) 0 = 0 then _ else _) = _
  rw [w32_id (x := t - M 825 (13 * p + 9) 0) (by omega) (by omega)]
  have k : ∀ v, (qf_X0_setFact 20000 p 8 v M).bind (fun r6 => (qf_X0_setFact 20000 p 9 t r6.2).bind (fun r8 => some (t - M 825 (13 * p + 9) 0, r8.2))) = some (t - M 825 (13 * p + 9) 0, qw (qw M 825 (13 * p + 8) 0 v) 825 (13 * p + 9) 0 t) := by
    intro v
    rw [setFact_r h p0 p1 (by decide) (by decide)]
    show (qf_X0_setFact 20000 p 9 t (qw M 825 (13 * p + 8) 0 v)).bind _ = _
    rw [setFact_r (pnM_w h (by omega)) p0 p1 (by decide) (by decide)]
    rfl
  rcases hv with rfl | rfl <;> rcases hx with e | e
  · exact absurd e hw
  · rw [if_neg (by omega), if_neg (by decide), if_pos rfl]
    exact k 0
  · rw [if_pos e, if_neg (by decide), if_neg (by decide)]
    exact k 1
  · exact absurd e hw
end PF
/-- the cells beside a portal -/
theorem cellAt_r {M K : qm} (h_lines : R_lines M K) (h_ends : R_ends M K) (h_portw : R_portw M K) (h_portc : R_portc M K) {p : Int} (p0 : 0 ≤ p) (p1 : p < (M 824 3 0)) : qf_X16_cellAt 20000 (K 2291 p 0) (K 2293 p 0) 1 1 K = some (M 825 (13 * p + 4) 0) ∧ qf_X16_cellAt 20000 (K 2291 p 0) (K 2293 p 0) 1 0 K = some (M 825 (13 * p + 5) 0) ∧ qf_X16_cellAt 20000 (K 2291 p 0) (K 2293 p 0) 0 1 K = some (M 825 (13 * p + 6) 0) ∧ qf_X16_cellAt 20000 (K 2291 p 0) (K 2293 p 0) 0 0 K = some (M 825 (13 * p + 7) 0) := by
  have q := h_portw p p0 p1
  have r := h_portc p p0 p1
  have s_lines := h_lines
  unfold R_lines at s_lines
  have e := h_ends (K 2291 p 0) q.2.2.2.2.2.2.2.2.2.1 q.2.2.2.2.2.2.2.2.2.2
  have hl : 0 ≤ (K 2291 p 0) ∧ (K 2291 p 0) < 20 := by omega
  clear q
  generalize (K 2291 p 0) = l at *
  generalize (K 2293 p 0) = d at *
  unfold qf_X16_cellAt
  rcases e.1 with g | g
  · rw [g, if_pos rfl, if_pos rfl] at e
    rw [g, if_pos rfl] at r
    simp only [if_pos hl, g, if_pos rfl, if_neg (show ¬ (1 : Int) = 0 by decide)]
    rw [w32_id (by omega) (by omega), w32_id (by omega) (by omega), w32_id (by omega) (by omega)]
    refine ⟨?_, ?_, ?_, ?_⟩ <;> (refine congrArg some ?_; omega)
  · rw [g, if_neg (by decide), if_neg (by decide)] at e
    rw [g, if_neg (by decide)] at r
    simp only [if_pos hl, g, if_pos rfl, if_neg (show ¬ (1 : Int) = 0 by decide)]
    rw [w32_id (by omega) (by omega), w32_id (by omega) (by omega), w32_id (by omega) (by omega)]
    refine ⟨?_, ?_, ?_, ?_⟩ <;> (refine congrArg some ?_; omega)
