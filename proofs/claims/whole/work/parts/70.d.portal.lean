/-! ===== a portal's fields ===== -/
def pnM (M : qm) : Prop := 0 ≤ (M 824 3 0) ∧ (M 824 3 0) ≤ 1320 ∧ M 825 (-1) 0 = 13 * (M 824 3 0)
theorem pnM_of {M K : qm} (h : R_portn M K) : pnM M := ⟨h.1, h.2.1, h.2.2.2.1⟩
theorem pnM_w {M : qm} {i v : Int} (h : pnM M) (i0 : 0 ≤ i) : pnM (qw M 825 i 0 v) := by
  obtain ⟨h1, h2, h3⟩ := h
  refine ⟨h1, h2, ?_⟩
  rw [qw_i (by omega)]
  exact h3
section PF
variable {M : qm} {p f v w t : Int}
theorem factOf_r (h : pnM M) (p0 : 0 ≤ p) (p1 : p < (M 824 3 0)) (f0 : 0 ≤ f) (f1 : f < 13) : qf_X0_factOf 20000 p f M = some (M 825 (13 * p + f) 0) := by
  obtain ⟨h1, h2, h3⟩ := h
  unfold qf_X0_factOf
  rw [w32_id (x := p * 13) (by omega) (by omega), w32_id (x := p * 13 + f) (by omega) (by omega), if_pos (show 0 ≤ p * 13 + f ∧ p * 13 + f < M 825 (-1) 0 by omega), Int.mul_comm p 13]
theorem setFact_r (h : pnM M) (p0 : 0 ≤ p) (p1 : p < (M 824 3 0)) (f0 : 0 ≤ f) (f1 : f < 13) : qf_X0_setFact 20000 p f v M = some ((), qw M 825 (13 * p + f) 0 v) := by
  obtain ⟨h1, h2, h3⟩ := h
  unfold qf_X0_setFact
  rw [w32_id (x := p * 13) (by omega) (by omega), w32_id (x := p * 13 + f) (by omega) (by omega), if_pos (show 0 ≤ p * 13 + f ∧ p * 13 + f < M 825 (-1) 0 by omega), Int.mul_comm p 13]
  rfl
theorem setTwo_r (h : pnM M) (p0 : 0 ≤ p) (p1 : p < (M 824 3 0)) (hv : v = 0 ∨ v = 1) (hw : M 825 (13 * p + 10) 0 = 0 ∨ M 825 (13 * p + 10) 0 = 1) : qf_X0_setTwo 20000 p v M = some (M 825 (13 * p + 10) 0, qw M 825 (13 * p + 10) 0 v) := by
  unfold qf_X0_setTwo qf_X0_setTwo_J15
  rw [factOf_r h p0 p1 (by decide) (by decide)]
  show (if M 825 (13 * p + 10) 0 = 0 then _ else _) = _
  rw [setFact_r h p0 p1 (by decide) (by decide), setFact_r h p0 p1 (by decide) (by decide)]
  rcases hv with rfl | rfl <;> rcases hw with e | e <;> rw [e] <;> rfl
theorem setOpen_s (h : pnM M) (p0 : 0 ≤ p) (p1 : p < (M 824 3 0)) (hv : v = 0 ∨ v = 1) (hw : M 825 (13 * p + 8) 0 = v) (h9 : 0 ≤ M 825 (13 * p + 9) 0) (h9t : M 825 (13 * p + 9) 0 ≤ t) (ht : t ≤ 6000) : qf_X0_setOpen 20000 p v t M = some (t - M 825 (13 * p + 9) 0, M) := by
  unfold qf_X0_setOpen qf_X0_setOpen_J27
  rw [factOf_r h p0 p1 (by decide) (by decide), factOf_r h p0 p1 (by decide) (by decide)]
  show (if M 825 (13 * p + 8) 0 = 0 then _ else _) = _
  rw [w32_id (x := t - M 825 (13 * p + 9) 0) (by omega) (by omega), hw]
  rcases hv with rfl | rfl <;> rfl
theorem setOpen_d (h : pnM M) (p0 : 0 ≤ p) (p1 : p < (M 824 3 0)) (hv : v = 0 ∨ v = 1) (hx : M 825 (13 * p + 8) 0 = 0 ∨ M 825 (13 * p + 8) 0 = 1) (hw : M 825 (13 * p + 8) 0 ≠ v) (h9 : 0 ≤ M 825 (13 * p + 9) 0) (h9t : M 825 (13 * p + 9) 0 ≤ t) (ht : t ≤ 6000) : qf_X0_setOpen 20000 p v t M = some (t - M 825 (13 * p + 9) 0, qw (qw M 825 (13 * p + 8) 0 v) 825 (13 * p + 9) 0 t) := by
  unfold qf_X0_setOpen qf_X0_setOpen_J27 qf_X0_setOpen_J43
  rw [factOf_r h p0 p1 (by decide) (by decide), factOf_r h p0 p1 (by decide) (by decide)]
  show (if M 825 (13 * p + 8) 0 = 0 then _ else _) = _
  rw [w32_id (x := t - M 825 (13 * p + 9) 0) (by omega) (by omega)]
  have k : ∀ v, (qf_X0_setFact 20000 p 8 v M).bind (fun r6 => (qf_X0_setFact 20000 p 9 t r6.2).bind (fun r8 => some (t - M 825 (13 * p + 9) 0, r8.2))) = some (t - M 825 (13 * p + 9) 0, qw (qw M 825 (13 * p + 8) 0 v) 825 (13 * p + 9) 0 t) := by
    intro v
    rw [setFact_r h p0 p1 (by decide) (by decide)]
    show (qf_X0_setFact 20000 p 9 t (qw M 825 (13 * p + 8) 0 v)).bind _ = _
    rw [setFact_r (pnM_w h (by omega)) p0 p1 (by decide) (by decide)]
    rfl
  rcases hv with rfl | rfl <;> rcases hx with e | e
  · exact absurd e hw
  · rw [if_neg (by omega), if_neg (by decide), if_pos rfl]
    exact k 0
  · rw [if_pos e, if_neg (by decide), if_neg (by decide)]
    exact k 1
  · exact absurd e hw
end PF
/-- the cells beside a portal -/
theorem cellAt_r {M K : qm} (h_lines : R_lines M K) (h_ends : R_ends M K) (h_portw : R_portw M K) (h_portc : R_portc M K) {p : Int} (p0 : 0 ≤ p) (p1 : p < (M 824 3 0)) : qf_X16_cellAt 20000 (K 2291 p 0) (K 2293 p 0) 1 1 K = some (M 825 (13 * p + 4) 0) ∧ qf_X16_cellAt 20000 (K 2291 p 0) (K 2293 p 0) 1 0 K = some (M 825 (13 * p + 5) 0) ∧ qf_X16_cellAt 20000 (K 2291 p 0) (K 2293 p 0) 0 1 K = some (M 825 (13 * p + 6) 0) ∧ qf_X16_cellAt 20000 (K 2291 p 0) (K 2293 p 0) 0 0 K = some (M 825 (13 * p + 7) 0) := by
  have q := h_portw p p0 p1
  have r := h_portc p p0 p1
  have s_lines := h_lines
  unfold R_lines at s_lines
  have e := h_ends (K 2291 p 0) q.2.2.2.2.2.2.2.2.2.1 q.2.2.2.2.2.2.2.2.2.2
  have hl : 0 ≤ (K 2291 p 0) ∧ (K 2291 p 0) < 20 := by omega
  clear q
  generalize (K 2291 p 0) = l at *
  generalize (K 2293 p 0) = d at *
  unfold qf_X16_cellAt
  rcases e.1 with g | g
  · rw [g, if_pos rfl, if_pos rfl] at e
    rw [g, if_pos rfl] at r
    simp only [if_pos hl, g, if_pos rfl, if_neg (show ¬ (1 : Int) = 0 by decide)]
    have a1 : w32 ((K 2158 l 0) - 0) = (K 2158 l 0) := (w32_id (by omega) (by omega)).trans (by omega)
    have a2 : w32 ((K 2158 l 0) - 1) = (K 2158 l 0) - 1 := w32_id (by omega) (by omega)
    have a3 : w32 ((K 2159 l 0) + d) = (K 2159 l 0) + d := w32_id (by omega) (by omega)
    simp only [a1, a2, a3]
    refine ⟨?_, ?_, ?_, ?_⟩ <;> (refine congrArg some ?_; omega)
  · rw [g, if_neg (by decide), if_neg (by decide)] at e
    rw [g, if_neg (by decide)] at r
    simp only [if_pos hl, g, if_pos rfl, if_neg (show ¬ (1 : Int) = 0 by decide)]
    have a1 : w32 ((K 2159 l 0) - 0) = (K 2159 l 0) := (w32_id (by omega) (by omega)).trans (by omega)
    have a2 : w32 ((K 2159 l 0) - 1) = (K 2159 l 0) - 1 := w32_id (by omega) (by omega)
    have a3 : w32 ((K 2158 l 0) + d) = (K 2158 l 0) + d := w32_id (by omega) (by omega)
    simp only [a1, a2, a3]
    refine ⟨?_, ?_, ?_, ?_⟩ <;> (refine congrArg some ?_; omega)
/-! ===== the calls two, stands, portal ===== -/
def pk8 (M S : qm) : Prop := (∀ i f, 0 ≤ f → f < 8 → S 825 (13 * i + f) 0 = M 825 (13 * i + f) 0) ∧ S 825 (-1) 0 = M 825 (-1) 0 ∧ ∀ b i j, b ≠ 825 → b ≠ 2332 → S b i j = M b i j
def kk8 (K T : qm) : Prop := ∀ b (i j : Int), (b < 2294 ∨ 2301 < b) → (b ≠ 2156 ∨ i ≠ 0) → T b i j = K b i j
def P4 (M K : qm) : Prop := R_portn M K ∧ R_portw M K ∧ R_portc M K ∧ R_portq M K
theorem pk8_all {M K S T : qm} (h : pk8 M S) (k : kk8 K T) (hp : P4 M K) : P4 S T := by
  obtain ⟨h1, h2, h3⟩ := h
  obtain ⟨h_portn, h_portw, h_portc, h_portq⟩ := hp
  have z : ∀ i, S 825 (13 * i) 0 = M 825 (13 * i) 0 := fun i => by
    have := h1 i 0 (by decide) (by decide)
    rw [Int.add_zero] at this
    exact this
  have c : ∀ b i j, b ≠ 825 → b ≠ 2332 → S b i j = M b i j := h3
  have r : ∀ b (i j : Int), (b < 2294 ∨ 2301 < b) → b ≠ 2156 → T b i j = K b i j := fun b i j x y => k b i j x (Or.inl y)
  refine ⟨?_, ?_, ?_, ?_⟩
  · unfold R_portn
    rw [h2, c 824 _ _ (by decide) (by decide), c 826 _ _ (by decide) (by decide), c 824 _ _ (by decide) (by decide), c 827 _ _ (by decide) (by decide), c 6 _ _ (by decide) (by decide), k 2156 10 0 (by decide) (by decide)]
    exact h_portn
  · intro i i0 i1
    rw [c 824 _ _ (by decide) (by decide)] at i1
    have q := h_portw i i0 i1
    rw [z, h1 i 1 (by decide) (by decide), h1 i 2 (by decide) (by decide), h1 i 3 (by decide) (by decide), r 2289 _ _ (by decide) (by decide), r 2290 _ _ (by decide) (by decide), r 2291 _ _ (by decide) (by decide), r 2292 _ _ (by decide) (by decide), k 2156 9 0 (by decide) (by decide), c 7 _ _ (by decide) (by decide)]
    exact q
  · intro i i0 i1
    rw [c 824 _ _ (by decide) (by decide)] at i1
    have q := h_portc i i0 i1
    rw [h1 i 4 (by decide) (by decide), h1 i 5 (by decide) (by decide), h1 i 6 (by decide) (by decide), h1 i 7 (by decide) (by decide), r 2291 _ _ (by decide) (by decide), r 2293 _ _ (by decide) (by decide), r 2160 _ _ (by decide) (by decide), r 2161 _ _ (by decide) (by decide), r 2158 _ _ (by decide) (by decide), r 2159 _ _ (by decide) (by decide)]
    exact q
  · intro i i0 i1
    rw [c 824 _ _ (by decide) (by decide)] at i1
    have q := h_portq i i0 i1
    rw [z, h1 i 1 (by decide) (by decide), h1 i 4 (by decide) (by decide), h1 i 5 (by decide) (by decide), h1 i 6 (by decide) (by decide), h1 i 7 (by decide) (by decide), k 2156 9 0 (by decide) (by decide), c 56 _ _ (by decide) (by decide), c 56 _ _ (by decide) (by decide)]
    exact q
theorem pk8_w {M : qm} {i f v w : Int} (f0 : 8 ≤ f) (f1 : f < 13) (i0 : 0 ≤ i) : pk8 M (qw (qw M 825 (13 * i + f) 0 v) 2332 0 0 w) := by
  refine ⟨fun j g g0 g1 => ?_, ?_, fun b x y h1 h2 => ?_⟩
  · rw [qw_a (by decide), qw_i (by omega)]
  · rw [qw_a (by decide), qw_i (by omega)]
  · rw [qw_a h2, qw_a h1]
theorem pk8_0 {M : qm} {w : Int} : pk8 M (qw M 2332 0 0 w) := ⟨fun _ _ _ _ => rfl, rfl, fun b x y h1 h2 => qw_a h2⟩
theorem pk8_t {M S T : qm} (h : pk8 M S) (h2 : pk8 S T) : pk8 M T := ⟨fun i f a b => (h2.1 i f a b).trans (h.1 i f a b), h2.2.1.trans h.2.1, fun b i j x y => (h2.2.2 b i j x y).trans (h.2.2 b i j x y)⟩
theorem P4_E {M K : qm} {v : Int} (h : P4 M K) : P4 M (qw K 2156 0 0 v) := by
  obtain ⟨h_portn, h_portw, h_portc, h_portq⟩ := h
  exact ⟨R_portn_x (M := M) (K := K) rfl rfl rfl (fun _ _ => rfl) (fun _ _ => rfl) (fun _ _ => rfl) rfl h_portn, R_portw_x (M := M) (K := K) rfl rfl (fun _ _ => rfl) rfl (fun _ _ => rfl) (fun _ _ => rfl) (fun _ _ => rfl) (fun _ _ => rfl) h_portw, R_portc_x (M := M) (K := K) rfl (fun _ _ => rfl) (fun _ _ => rfl) (fun _ _ => rfl) (fun _ _ => rfl) (fun _ _ => rfl) (fun _ _ => rfl) (fun _ _ => rfl) h_portc, R_portq_x (M := M) (K := K) (fun _ _ => rfl) rfl (fun _ _ => rfl) rfl h_portq⟩
section PO
variable {M K : qm} {x1 x2 : Int}
theorem op_two (b2 : x2 = 0 ∨ x2 = 1) (h_built : R_built M K) (h_porto : R_porto M K) (h_portk : R_portk M K) (hP : P4 M K) : oK2 cB (qf_L_two 20000 x1 x2 M) (qf_X18_two 20000 x1 x2 K) (fun M' K' => P4 M' K' ∧ R_porto M' K' ∧ R_portk M' K') := by
  have s_built := h_built
  unfold R_built at s_built
  have h_portn : R_portn M K := hP.1
  have s_portn := h_portn
  unfold R_portn at s_portn
  have w1 : w32 ((M 824 3 0) - 1) = (M 824 3 0) - 1 := w32_id (by omega) (by omega)
  unfold oK2
  by_cases hx : 0 ≤ x1 ∧ x1 < (M 824 3 0)
  · have q := h_porto x1 hx.1 hx.2
    have q1 : (K 2294 x1 0) = M 825 (13 * x1 + 10) 0 := q.2.2.2.2.2.1
    have q2 : (K 2294 x1 0) = 0 ∨ (K 2294 x1 0) = 1 := q.2.2.2.2.2.2
    clear q
    unfold qf_L_two qf_L_two_J16 qf_X11_two qf_X11_isPortal qf_X18_two
    repeat' first
      | ((with_reducible refine qW_eq (setTwo_r (pnM_of h_portn) hx.1 hx.2 b2 (by omega)) ?_); (try dsimp only))
      | with_reducible refine qW_within (fun _ => ?_) (fun _ _ => ?_)
      | with_reducible refine qW_isIn (fun _ => ?_) (fun _ _ => ?_)
      | with_reducible refine qW_na (fun _ => ?_) (fun _ => ?_)
      | with_reducible refine qW_ns (fun _ => ?_) (fun _ => ?_)
      | (with_reducible refine qW_goes (fun _ => ?_) (fun _ _ => ?_) (fun _ _ => ?_) <;> (try dsimp only) <;> (try simp only [qw_ap, qfl1_ap, qfl2_ap, qcp1_ap, qcp2_ap, false_and, true_and, and_true, and_false, and_self, if_false, if_true, reduceIte, Nat.reduceEqDiff, Int.reduceEq, Int.reduceNeg]))
      | (with_reducible refine qW_stays (by omega) (fun _ => ?_) (fun _ => ?_) <;> (try dsimp only) <;> (try simp only [qw_ap, qfl1_ap, qfl2_ap, qcp1_ap, qcp2_ap, false_and, true_and, and_true, and_false, and_self, if_false, if_true, reduceIte, Nat.reduceEqDiff, Int.reduceEq, Int.reduceNeg]))
      | (exfalso; omega)
      | with_reducible refine qW_bind ?_
      | (with_reducible refine qW_bnd ?_; try simp only [qw_ap, qfl1_ap, qfl2_ap, qcp1_ap, qcp2_ap, false_and, true_and, and_true, and_false, and_self, if_false, if_true, reduceIte, Nat.reduceEqDiff, Int.reduceEq, Int.reduceNeg])
      | (with_reducible refine qW_some ?_; (try dsimp only); try simp only [qw_ap, qfl1_ap, qfl2_ap, qcp1_ap, qcp2_ap, false_and, true_and, and_true, and_false, and_self, if_false, if_true, reduceIte, Nat.reduceEqDiff, Int.reduceEq, Int.reduceNeg])
      | ((with_reducible refine qW_no ?_); omega)
      | with_reducible refine qW_pos rfl ?_
      | ((with_reducible refine qW_pos ?_ ?_); omega)
      | ((with_reducible refine qW_neg ?_ ?_); (first | omega | decide))
      | with_reducible refine qW_ite (fun _ => ?_) (fun _ => ?_)
      | dsimp only
    all_goals first
      | exact ⟨fun x => absurd x (by decide), P4_E hP, R_porto_x (M := M) (K := K) rfl rfl (fun _ _ => rfl) (fun _ _ => rfl) (fun _ _ => rfl) (fun _ _ => rfl) h_porto, R_portk_x (M := M) (K := K) rfl rfl (fun _ _ => rfl) (fun _ _ => rfl) (fun _ _ => rfl) h_portk⟩
      | skip
    all_goals (
      refine ⟨fun _ => ?_, pk8_all (pk8_w (by decide) (by decide) hx.1) (fun b i j h1 h2 => ?_) hP, ?_, ?_⟩
      · unfold cB
        split <;> omega
      · rw [qw_a (by omega), qw_ap, if_neg (by omega)]
      · intro p p0 p1
        have z := h_porto p p0 p1
        have n1 : ¬ (13 * p + 8 = 13 * x1 + 10) := by omega
        have n2 : ¬ (13 * p + 9 = 13 * x1 + 10) := by omega
        by_cases e : p = x1
        · subst e
          simp only [qw_ap, n1, n2, false_and, true_and, and_true, and_false, and_self, if_false, if_true, reduceIte, Nat.reduceEqDiff, Int.reduceEq]
          exact ⟨z.1, z.2.1, z.2.2.1, z.2.2.2.1, z.2.2.2.2.1, b2⟩
        · have n3 : ¬ (13 * p + 10 = 13 * x1 + 10) := by omega
          simp only [qw_ap, n1, n2, n3, e, false_and, true_and, and_true, and_false, and_self, if_false, if_true, reduceIte, Nat.reduceEqDiff, Int.reduceEq]
          exact z
      · intro p p0 p1
        have z := h_portk p p0 p1
        have n1 : ¬ (13 * p + 11 = 13 * x1 + 10) := by omega
        have n2 : ¬ (13 * p + 12 = 13 * x1 + 10) := by omega
        simp only [qw_ap, n1, n2, false_and, true_and, and_true, and_false, and_self, if_false, if_true, reduceIte, Nat.reduceEqDiff, Int.reduceEq]
        exact z)
  · unfold qf_L_two qf_L_two_J16 qf_X11_two qf_X0_setTwo qf_X0_setTwo_J15 qf_X0_setFact qf_X0_factOf qf_X11_isPortal qf_X18_two
    repeat' first
      | with_reducible refine qW_within (fun _ => ?_) (fun _ _ => ?_)
      | with_reducible refine qW_isIn (fun _ => ?_) (fun _ _ => ?_)
      | with_reducible refine qW_na (fun _ => ?_) (fun _ => ?_)
      | with_reducible refine qW_ns (fun _ => ?_) (fun _ => ?_)
      | (with_reducible refine qW_goes (fun _ => ?_) (fun _ _ => ?_) (fun _ _ => ?_) <;> (try dsimp only) <;> (try simp only [qw_ap, qfl1_ap, qfl2_ap, qcp1_ap, qcp2_ap, false_and, true_and, and_true, and_false, and_self, if_false, if_true, reduceIte, Nat.reduceEqDiff, Int.reduceEq, Int.reduceNeg]))
      | (with_reducible refine qW_stays (by omega) (fun _ => ?_) (fun _ => ?_) <;> (try dsimp only) <;> (try simp only [qw_ap, qfl1_ap, qfl2_ap, qcp1_ap, qcp2_ap, false_and, true_and, and_true, and_false, and_self, if_false, if_true, reduceIte, Nat.reduceEqDiff, Int.reduceEq, Int.reduceNeg]))
      | (exfalso; omega)
      | with_reducible refine qW_bind ?_
      | (with_reducible refine qW_bnd ?_; try simp only [qw_ap, qfl1_ap, qfl2_ap, qcp1_ap, qcp2_ap, false_and, true_and, and_true, and_false, and_self, if_false, if_true, reduceIte, Nat.reduceEqDiff, Int.reduceEq, Int.reduceNeg])
      | (with_reducible refine qW_some ?_; (try dsimp only); try simp only [qw_ap, qfl1_ap, qfl2_ap, qcp1_ap, qcp2_ap, false_and, true_and, and_true, and_false, and_self, if_false, if_true, reduceIte, Nat.reduceEqDiff, Int.reduceEq, Int.reduceNeg])
      | ((with_reducible refine qW_no ?_); omega)
      | with_reducible refine qW_pos rfl ?_
      | ((with_reducible refine qW_pos ?_ ?_); omega)
      | ((with_reducible refine qW_neg ?_ ?_); (first | omega | decide))
      | with_reducible refine qW_ite (fun _ => ?_) (fun _ => ?_)
      | dsimp only
    all_goals exact ⟨fun x => absurd x (by decide), P4_E hP, R_porto_x (M := M) (K := K) rfl rfl (fun _ _ => rfl) (fun _ _ => rfl) (fun _ _ => rfl) (fun _ _ => rfl) h_porto, R_portk_x (M := M) (K := K) rfl rfl (fun _ _ => rfl) (fun _ _ => rfl) (fun _ _ => rfl) h_portk⟩
theorem op_stands (b2 : x2 = 0 ∨ x2 = 1) (h_built : R_built M K) (h_time : R_time M K) (h_porto : R_porto M K) (h_portk : R_portk M K) (hP : P4 M K) : oK2 cI (qf_L_stands 20000 x1 x2 M) (qf_X18_stands 20000 x1 x2 K) (fun M' K' => P4 M' K' ∧ R_porto M' K' ∧ R_portk M' K') := by
  have s_built := h_built
  unfold R_built at s_built
  have s_time := h_time
  unfold R_time at s_time
  have h_portn : R_portn M K := hP.1
  have s_portn := h_portn
  unfold R_portn at s_portn
  have w1 : w32 ((M 824 3 0) - 1) = (M 824 3 0) - 1 := w32_id (by omega) (by omega)
  unfold oK2
  by_cases hx : 0 ≤ x1 ∧ x1 < (M 824 3 0)
  · have q := h_porto x1 hx.1 hx.2
    have q1 : (K 2295 x1 0) = M 825 (13 * x1 + 8) 0 := q.1
    have q2 : (K 2295 x1 0) = 0 ∨ (K 2295 x1 0) = 1 := q.2.1
    have q3 : (K 2296 x1 0) = M 825 (13 * x1 + 9) 0 := q.2.2.1
    have q4 : 0 ≤ (K 2296 x1 0) ∧ (K 2296 x1 0) ≤ (M 6 12 0) := ⟨q.2.2.2.1, q.2.2.2.2.1⟩
    clear q
    unfold qf_L_stands qf_X11_stands qf_X11_isPortal qf_X18_stands qf_X18_stands_J61
    by_cases g : M 825 (13 * x1 + 8) 0 = x2
    · skip
      repeat' first
        | ((with_reducible refine qW_eq (setOpen_s (pnM_of h_portn) hx.1 hx.2 b2 g (by omega) (by omega) (by omega)) ?_); (try dsimp only))
        | with_reducible refine qW_within (fun _ => ?_) (fun _ _ => ?_)
        | with_reducible refine qW_isIn (fun _ => ?_) (fun _ _ => ?_)
        | with_reducible refine qW_na (fun _ => ?_) (fun _ => ?_)
        | with_reducible refine qW_ns (fun _ => ?_) (fun _ => ?_)
        | (with_reducible refine qW_goes (fun _ => ?_) (fun _ _ => ?_) (fun _ _ => ?_) <;> (try dsimp only) <;> (try simp only [qw_ap, qfl1_ap, qfl2_ap, qcp1_ap, qcp2_ap, false_and, true_and, and_true, and_false, and_self, if_false, if_true, reduceIte, Nat.reduceEqDiff, Int.reduceEq, Int.reduceNeg]))
        | (with_reducible refine qW_stays (by omega) (fun _ => ?_) (fun _ => ?_) <;> (try dsimp only) <;> (try simp only [qw_ap, qfl1_ap, qfl2_ap, qcp1_ap, qcp2_ap, false_and, true_and, and_true, and_false, and_self, if_false, if_true, reduceIte, Nat.reduceEqDiff, Int.reduceEq, Int.reduceNeg]))
        | (exfalso; omega)
        | with_reducible refine qW_bind ?_
        | (with_reducible refine qW_bnd ?_; try simp only [qw_ap, qfl1_ap, qfl2_ap, qcp1_ap, qcp2_ap, false_and, true_and, and_true, and_false, and_self, if_false, if_true, reduceIte, Nat.reduceEqDiff, Int.reduceEq, Int.reduceNeg])
        | (with_reducible refine qW_some ?_; (try dsimp only); try simp only [qw_ap, qfl1_ap, qfl2_ap, qcp1_ap, qcp2_ap, false_and, true_and, and_true, and_false, and_self, if_false, if_true, reduceIte, Nat.reduceEqDiff, Int.reduceEq, Int.reduceNeg])
        | ((with_reducible refine qW_no ?_); omega)
        | with_reducible refine qW_pos rfl ?_
        | ((with_reducible refine qW_pos ?_ ?_); omega)
        | ((with_reducible refine qW_neg ?_ ?_); (first | omega | decide))
        | with_reducible refine qW_ite (fun _ => ?_) (fun _ => ?_)
        | dsimp only
      all_goals first
        | exact ⟨fun x => absurd x (by decide), P4_E hP, R_porto_x (M := M) (K := K) rfl rfl (fun _ _ => rfl) (fun _ _ => rfl) (fun _ _ => rfl) (fun _ _ => rfl) h_porto, R_portk_x (M := M) (K := K) rfl rfl (fun _ _ => rfl) (fun _ _ => rfl) (fun _ _ => rfl) h_portk⟩
        | skip
      all_goals (
        refine ⟨fun _ => ?_, pk8_all pk8_0 (fun b i j h1 h2 => ?_) hP, ?_, R_portk_x (M := M) (K := K) rfl rfl (fun _ _ => rfl) (fun _ _ => rfl) (fun _ _ => rfl) h_portk⟩
        · show _ = w32 _
          rw [w32_id (by omega) (by omega)]
          omega
        · rw [qw_a (by omega), qw_a (by omega), qw_ap, if_neg (by omega)]
        · intro p p0 p1
          have z := h_porto p p0 p1
          by_cases e : p = x1
          · subst e
            simp only [qw_ap, false_and, true_and, and_true, and_false, and_self, if_false, if_true, reduceIte, Nat.reduceEqDiff, Int.reduceEq]
            exact ⟨g.symm, b2, z.2.2.1, z.2.2.2⟩
          · simp only [qw_ap, e, false_and, true_and, and_true, and_false, and_self, if_false, if_true, reduceIte, Nat.reduceEqDiff, Int.reduceEq]
            exact z)
    · skip
      repeat' first
        | ((with_reducible refine qW_eq (setOpen_d (pnM_of h_portn) hx.1 hx.2 b2 (by omega) g (by omega) (by omega) (by omega)) ?_); (try dsimp only))
        | with_reducible refine qW_within (fun _ => ?_) (fun _ _ => ?_)
        | with_reducible refine qW_isIn (fun _ => ?_) (fun _ _ => ?_)
        | with_reducible refine qW_na (fun _ => ?_) (fun _ => ?_)
        | with_reducible refine qW_ns (fun _ => ?_) (fun _ => ?_)
        | (with_reducible refine qW_goes (fun _ => ?_) (fun _ _ => ?_) (fun _ _ => ?_) <;> (try dsimp only) <;> (try simp only [qw_ap, qfl1_ap, qfl2_ap, qcp1_ap, qcp2_ap, false_and, true_and, and_true, and_false, and_self, if_false, if_true, reduceIte, Nat.reduceEqDiff, Int.reduceEq, Int.reduceNeg]))
        | (with_reducible refine qW_stays (by omega) (fun _ => ?_) (fun _ => ?_) <;> (try dsimp only) <;> (try simp only [qw_ap, qfl1_ap, qfl2_ap, qcp1_ap, qcp2_ap, false_and, true_and, and_true, and_false, and_self, if_false, if_true, reduceIte, Nat.reduceEqDiff, Int.reduceEq, Int.reduceNeg]))
        | (exfalso; omega)
        | with_reducible refine qW_bind ?_
        | (with_reducible refine qW_bnd ?_; try simp only [qw_ap, qfl1_ap, qfl2_ap, qcp1_ap, qcp2_ap, false_and, true_and, and_true, and_false, and_self, if_false, if_true, reduceIte, Nat.reduceEqDiff, Int.reduceEq, Int.reduceNeg])
        | (with_reducible refine qW_some ?_; (try dsimp only); try simp only [qw_ap, qfl1_ap, qfl2_ap, qcp1_ap, qcp2_ap, false_and, true_and, and_true, and_false, and_self, if_false, if_true, reduceIte, Nat.reduceEqDiff, Int.reduceEq, Int.reduceNeg])
        | ((with_reducible refine qW_no ?_); omega)
        | with_reducible refine qW_pos rfl ?_
        | ((with_reducible refine qW_pos ?_ ?_); omega)
        | ((with_reducible refine qW_neg ?_ ?_); (first | omega | decide))
        | with_reducible refine qW_ite (fun _ => ?_) (fun _ => ?_)
        | dsimp only
      all_goals first
        | exact ⟨fun x => absurd x (by decide), P4_E hP, R_porto_x (M := M) (K := K) rfl rfl (fun _ _ => rfl) (fun _ _ => rfl) (fun _ _ => rfl) (fun _ _ => rfl) h_porto, R_portk_x (M := M) (K := K) rfl rfl (fun _ _ => rfl) (fun _ _ => rfl) (fun _ _ => rfl) h_portk⟩
        | skip
      all_goals (
        refine ⟨fun _ => ?_, pk8_all (pk8_t (pk8_w (w := 0) (i := x1) (f := 8) (v := x2) (by decide) (by decide) hx.1) ⟨fun i f a b => ?_, ?_, fun b i j h1 h2 => ?_⟩) (fun b i j h1 h2 => ?_) hP, ?_, ?_⟩
        · show _ = w32 _
          rw [w32_id (by omega) (by omega)]
          omega
        · rw [qw_a (by decide), qw_i (by omega), qw_a (b := 825) (a := 2332) (by decide)]
        · rw [qw_a (by decide), qw_i (by omega), qw_a (b := 825) (a := 2332) (by decide)]
        · rw [qw_a h2, qw_a h1, qw_a h1, qw_a (a := 2332) h2, qw_a h1]
        · rw [qw_a (by omega), qw_a (by omega), qw_ap, if_neg (by omega)]
        · intro p p0 p1
          have z := h_porto p p0 p1
          have n1 : ¬ (13 * p + 8 = 13 * x1 + 9) := by omega
          have n2 : ¬ (13 * p + 9 = 13 * x1 + 8) := by omega
          have n3 : ¬ (13 * p + 10 = 13 * x1 + 8) := by omega
          have n4 : ¬ (13 * p + 10 = 13 * x1 + 9) := by omega
          by_cases e : p = x1
          · subst e
            simp only [qw_ap, n1, n2, n3, n4, false_and, true_and, and_true, and_false, and_self, if_false, if_true, reduceIte, Nat.reduceEqDiff, Int.reduceEq]
            refine ⟨b2, s_time.2.2, ?_, ?_, z.2.2.2.2.2⟩
            · omega
            · omega
          · have n5 : ¬ (13 * p + 8 = 13 * x1 + 8) := by omega
            have n6 : ¬ (13 * p + 9 = 13 * x1 + 9) := by omega
            simp only [qw_ap, n1, n2, n3, n4, n5, n6, e, false_and, true_and, and_true, and_false, and_self, if_false, if_true, reduceIte, Nat.reduceEqDiff, Int.reduceEq]
            exact z
        · intro p p0 p1
          have z := h_portk p p0 p1
          have n1 : ¬ (13 * p + 11 = 13 * x1 + 9) := by omega
          have n2 : ¬ (13 * p + 11 = 13 * x1 + 8) := by omega
          have n3 : ¬ (13 * p + 12 = 13 * x1 + 9) := by omega
          have n4 : ¬ (13 * p + 12 = 13 * x1 + 8) := by omega
          simp only [qw_ap, n1, n2, n3, n4, false_and, true_and, and_true, and_false, and_self, if_false, if_true, reduceIte, Nat.reduceEqDiff, Int.reduceEq]
          exact z)
  · unfold qf_L_stands qf_X11_stands qf_X0_setOpen qf_X0_setOpen_J27 qf_X0_setOpen_J43 qf_X0_setFact qf_X0_factOf qf_X11_isPortal qf_X18_stands qf_X18_stands_J61
    repeat' first
      | with_reducible refine qW_within (fun _ => ?_) (fun _ _ => ?_)
      | with_reducible refine qW_isIn (fun _ => ?_) (fun _ _ => ?_)
      | with_reducible refine qW_na (fun _ => ?_) (fun _ => ?_)
      | with_reducible refine qW_ns (fun _ => ?_) (fun _ => ?_)
      | (with_reducible refine qW_goes (fun _ => ?_) (fun _ _ => ?_) (fun _ _ => ?_) <;> (try dsimp only) <;> (try simp only [qw_ap, qfl1_ap, qfl2_ap, qcp1_ap, qcp2_ap, false_and, true_and, and_true, and_false, and_self, if_false, if_true, reduceIte, Nat.reduceEqDiff, Int.reduceEq, Int.reduceNeg]))
      | (with_reducible refine qW_stays (by omega) (fun _ => ?_) (fun _ => ?_) <;> (try dsimp only) <;> (try simp only [qw_ap, qfl1_ap, qfl2_ap, qcp1_ap, qcp2_ap, false_and, true_and, and_true, and_false, and_self, if_false, if_true, reduceIte, Nat.reduceEqDiff, Int.reduceEq, Int.reduceNeg]))
      | (exfalso; omega)
      | with_reducible refine qW_bind ?_
      | (with_reducible refine qW_bnd ?_; try simp only [qw_ap, qfl1_ap, qfl2_ap, qcp1_ap, qcp2_ap, false_and, true_and, and_true, and_false, and_self, if_false, if_true, reduceIte, Nat.reduceEqDiff, Int.reduceEq, Int.reduceNeg])
      | (with_reducible refine qW_some ?_; (try dsimp only); try simp only [qw_ap, qfl1_ap, qfl2_ap, qcp1_ap, qcp2_ap, false_and, true_and, and_true, and_false, and_self, if_false, if_true, reduceIte, Nat.reduceEqDiff, Int.reduceEq, Int.reduceNeg])
      | ((with_reducible refine qW_no ?_); omega)
      | with_reducible refine qW_pos rfl ?_
      | ((with_reducible refine qW_pos ?_ ?_); omega)
      | ((with_reducible refine qW_neg ?_ ?_); (first | omega | decide))
      | with_reducible refine qW_ite (fun _ => ?_) (fun _ => ?_)
      | dsimp only
    all_goals exact ⟨fun x => absurd x (by decide), P4_E hP, R_porto_x (M := M) (K := K) rfl rfl (fun _ _ => rfl) (fun _ _ => rfl) (fun _ _ => rfl) (fun _ _ => rfl) h_porto, R_portk_x (M := M) (K := K) rfl rfl (fun _ _ => rfl) (fun _ _ => rfl) (fun _ _ => rfl) h_portk⟩
theorem op_portal (h_built : R_built M K) (h_portn : R_portn M K) (h_lines : R_lines M K) (h_ends : R_ends M K) (h_portw : R_portw M K) (h_portc : R_portc M K) : oK2 cI (qf_L_portal 20000 x1 x2 M) (qf_X18_portal_ 20000 x1 x2 K) (fun _ _ => True) := by
  have s_built := h_built
  unfold R_built at s_built
  have s_portn := h_portn
  unfold R_portn at s_portn
  have w1 : w32 ((M 824 3 0) - 1) = (M 824 3 0) - 1 := w32_id (by omega) (by omega)
  unfold oK2
  by_cases hx : 0 ≤ x1 ∧ x1 < (M 824 3 0)
  · have c := cellAt_r (M := M) (K := qw K 2156 0 0 0) (R_lines_x (M := M) (K := K) rfl rfl h_lines) (R_ends_x (M := M) (K := K) rfl (fun _ _ => rfl) (fun _ _ => rfl) (fun _ _ => rfl) (fun _ _ => rfl) (fun _ _ => rfl) h_ends) (R_portw_x (M := M) (K := K) rfl rfl (fun _ _ => rfl) rfl (fun _ _ => rfl) (fun _ _ => rfl) (fun _ _ => rfl) (fun _ _ => rfl) h_portw) (R_portc_x (M := M) (K := K) rfl (fun _ _ => rfl) (fun _ _ => rfl) (fun _ _ => rfl) (fun _ _ => rfl) (fun _ _ => rfl) (fun _ _ => rfl) (fun _ _ => rfl) h_portc) hx.1 hx.2
    have c1 : qf_X16_cellAt 20000 (K 2291 x1 0) (K 2293 x1 0) 1 1 (qw K 2156 0 0 0) = some (M 825 (13 * x1 + 4) 0) := c.1
    have c2 : qf_X16_cellAt 20000 (K 2291 x1 0) (K 2293 x1 0) 1 0 (qw K 2156 0 0 0) = some (M 825 (13 * x1 + 5) 0) := c.2.1
    clear c
    unfold qf_L_portal qf_X11_portal qf_X11_portal_J21 qf_X11_portal_J22 qf_X11_isPortal qf_X18_portal_ qf_X18_portal__J25 qf_X18_portal__J26
    repeat' first
      | ((with_reducible refine qW_eq (factOf_r (pnM_of h_portn) hx.1 hx.2 (by omega) (by omega)) ?_); (try dsimp only))
      | ((with_reducible refine qW_eq c1 ?_); (try dsimp only))
      | ((with_reducible refine qW_eq c2 ?_); (try dsimp only))
      | with_reducible refine qW_within (fun _ => ?_) (fun _ _ => ?_)
      | with_reducible refine qW_isIn (fun _ => ?_) (fun _ _ => ?_)
      | with_reducible refine qW_na (fun _ => ?_) (fun _ => ?_)
      | with_reducible refine qW_ns (fun _ => ?_) (fun _ => ?_)
      | (with_reducible refine qW_goes (fun _ => ?_) (fun _ _ => ?_) (fun _ _ => ?_) <;> (try dsimp only) <;> (try simp only [qw_ap, qfl1_ap, qfl2_ap, qcp1_ap, qcp2_ap, false_and, true_and, and_true, and_false, and_self, if_false, if_true, reduceIte, Nat.reduceEqDiff, Int.reduceEq, Int.reduceNeg]))
      | (with_reducible refine qW_stays (by omega) (fun _ => ?_) (fun _ => ?_) <;> (try dsimp only) <;> (try simp only [qw_ap, qfl1_ap, qfl2_ap, qcp1_ap, qcp2_ap, false_and, true_and, and_true, and_false, and_self, if_false, if_true, reduceIte, Nat.reduceEqDiff, Int.reduceEq, Int.reduceNeg]))
      | (exfalso; omega)
      | with_reducible refine qW_bind ?_
      | (with_reducible refine qW_bnd ?_; try simp only [qw_ap, qfl1_ap, qfl2_ap, qcp1_ap, qcp2_ap, false_and, true_and, and_true, and_false, and_self, if_false, if_true, reduceIte, Nat.reduceEqDiff, Int.reduceEq, Int.reduceNeg])
      | (with_reducible refine qW_some ?_; (try dsimp only); try simp only [qw_ap, qfl1_ap, qfl2_ap, qcp1_ap, qcp2_ap, false_and, true_and, and_true, and_false, and_self, if_false, if_true, reduceIte, Nat.reduceEqDiff, Int.reduceEq, Int.reduceNeg])
      | ((with_reducible refine qW_no ?_); omega)
      | with_reducible refine qW_pos rfl ?_
      | ((with_reducible refine qW_pos ?_ ?_); omega)
      | ((with_reducible refine qW_neg ?_ ?_); (first | omega | decide))
      | with_reducible refine qW_ite (fun _ => ?_) (fun _ => ?_)
      | dsimp only
    all_goals first
      | exact fun x => absurd x (by decide)
      | (intro _; have z := h_portw x1 hx.1 hx.2; unfold cI; first | omega | (rw [show x2 = 0 by omega, Int.add_zero]; omega) | (rw [show x2 = 1 by omega]; omega) | (rw [show x2 = 2 by omega]; omega) | (rw [show x2 = 3 by omega]; omega) | (rw [show x2 = 4 by omega]; done) | (rw [show x2 = 5 by omega]; done))
  · unfold qf_L_portal qf_X11_portal qf_X11_portal_J21 qf_X11_portal_J22 qf_X0_factOf qf_X11_isPortal qf_X18_portal_ qf_X18_portal__J25 qf_X18_portal__J26 qf_X16_cellAt
    repeat' first
      | with_reducible refine qW_within (fun _ => ?_) (fun _ _ => ?_)
      | with_reducible refine qW_isIn (fun _ => ?_) (fun _ _ => ?_)
      | with_reducible refine qW_na (fun _ => ?_) (fun _ => ?_)
      | with_reducible refine qW_ns (fun _ => ?_) (fun _ => ?_)
      | (with_reducible refine qW_goes (fun _ => ?_) (fun _ _ => ?_) (fun _ _ => ?_) <;> (try dsimp only) <;> (try simp only [qw_ap, qfl1_ap, qfl2_ap, qcp1_ap, qcp2_ap, false_and, true_and, and_true, and_false, and_self, if_false, if_true, reduceIte, Nat.reduceEqDiff, Int.reduceEq, Int.reduceNeg]))
      | (with_reducible refine qW_stays (by omega) (fun _ => ?_) (fun _ => ?_) <;> (try dsimp only) <;> (try simp only [qw_ap, qfl1_ap, qfl2_ap, qcp1_ap, qcp2_ap, false_and, true_and, and_true, and_false, and_self, if_false, if_true, reduceIte, Nat.reduceEqDiff, Int.reduceEq, Int.reduceNeg]))
      | (exfalso; omega)
      | with_reducible refine qW_bind ?_
      | (with_reducible refine qW_bnd ?_; try simp only [qw_ap, qfl1_ap, qfl2_ap, qcp1_ap, qcp2_ap, false_and, true_and, and_true, and_false, and_self, if_false, if_true, reduceIte, Nat.reduceEqDiff, Int.reduceEq, Int.reduceNeg])
      | (with_reducible refine qW_some ?_; (try dsimp only); try simp only [qw_ap, qfl1_ap, qfl2_ap, qcp1_ap, qcp2_ap, false_and, true_and, and_true, and_false, and_self, if_false, if_true, reduceIte, Nat.reduceEqDiff, Int.reduceEq, Int.reduceNeg])
      | ((with_reducible refine qW_no ?_); omega)
      | with_reducible refine qW_pos rfl ?_
      | ((with_reducible refine qW_pos ?_ ?_); omega)
      | ((with_reducible refine qW_neg ?_ ?_); (first | omega | decide))
      | with_reducible refine qW_ite (fun _ => ?_) (fun _ => ?_)
      | dsimp only
    all_goals exact fun x => absurd x (by decide)
end PO
