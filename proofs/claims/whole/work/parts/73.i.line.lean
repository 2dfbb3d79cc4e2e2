section LJ
variable {M K : qm} {l f x y n hx hy x1 x2 x3 x4 : Int}
def lnC (M : qm) (l x y hx hy : Int) : qm := qw (qw (qw (qw M 8 l 0 x) 8 l 1 y) 8 l 2 hx) 8 l 3 hy
theorem setEnds_r (hl : 0 ≤ l ∧ l < 20) : qf_X8_setEnds 20000 l x y hx hy M = some ((), lnC M l x y hx hy) := by
  unfold qf_X8_setEnds
  rw [if_pos hl]
  rfl
theorem addLine_r (h_lines : R_lines M K) (h_ends : R_ends M K) (hl : (M 7 0 0) = l) (l20 : l < 20) (hf : f = if x2 = x4 then 1 else 0) (ex : x = min x1 x3) (ey : y = min x2 x4) (en : n = x1 + x3 - 2 * x + x2 + x4 - 2 * y) (hd : (x1 = x3 ∧ x2 ≠ x4) ∨ (x1 ≠ x3 ∧ x2 = x4)) : qf_X8_addLine 20000 x1 x2 x3 x4 M = some (if b01 (crE K l (-1) f x y n) = 0 then (l, qw (lnC M l x y (max x1 x3) (max x2 x4)) 7 0 0 (l + 1)) else (-1, M)) := by
  have s_lines := h_lines
  unfold R_lines at s_lines
  have f01 : (f = 1 ∧ x2 = x4) ∨ (f = 0 ∧ x2 ≠ x4) := by
    by_cases g : x2 = x4
    · rw [if_pos g] at hf
      exact Or.inl ⟨hf, g⟩
    · rw [if_neg g] at hf
      exact Or.inr ⟨hf, g⟩
  have eL := liesAlong_r (M := M) (K := K) (e := -1) (f := f) (x := min x1 x3) (y := min x2 x4) (n := n) (hx := max x1 x3) (hy := max x2 x4) h_lines h_ends (by omega) (by omega) (by split <;> omega) (by split <;> omega)
  refine qW_e ?_
  unfold qf_X8_addLine
  rw [if_neg (by omega), eL, hl, ← ex, ← ey]
  refine qW_bind (qW_some ?_)
  by_cases g : b01 (crE K l (-1) f x y n) = 0
  · rw [if_pos g, if_pos g, setEnds_r (by omega)]
    refine qW_bind (qW_some (qW_bnd (qW_some ?_)))
    show (w32 (w32 ((M 7 0 0) + 1) - 1), qw (lnC M l x y (max x1 x3) (max x2 x4)) 7 0 0 (w32 ((M 7 0 0) + 1))) = _
    rw [hl, w32_id (x := l + 1) (by omega) (by omega), w32_id (by omega) (by omega), show l + 1 - 1 = l by omega]
  · rw [if_neg g, if_neg g]
    exact qW_some rfl
def LNT (M K : qm) : Prop := R_lines M K ∧ R_ends M K ∧ R_doorn M K ∧ R_doors M K ∧ R_find0 M K ∧ R_portn M K ∧ R_portw M K ∧ R_portc M K
theorem LNT_K {v : Int} (h : LNT M K) : LNT M (qw K 2156 0 0 v) := by
  obtain ⟨h_lines, h_ends, h_doorn, h_doors, h_find0, h_portn, h_portw, h_portc⟩ := h
  exact ⟨R_lines_x (M := M) (K := K) rfl rfl h_lines, R_ends_x (M := M) (K := K) rfl (fun _ _ => rfl) (fun _ _ => rfl) (fun _ _ => rfl) (fun _ _ => rfl) (fun _ _ => rfl) h_ends, R_doorn_x (M := M) (K := K) rfl (fun _ _ => rfl) (fun _ _ => rfl) h_doorn, R_doors_x (M := M) (K := K) (fun _ _ => rfl) (fun _ _ => rfl) (fun _ _ => rfl) (fun _ _ => rfl) (fun _ _ => rfl) (fun _ _ => rfl) h_doors, R_find0_x (M := M) (K := K) rfl rfl rfl rfl rfl h_find0, R_portn_x (M := M) (K := K) rfl rfl rfl (fun _ _ => rfl) (fun _ _ => rfl) (fun _ _ => rfl) rfl h_portn, R_portw_x (M := M) (K := K) rfl rfl (fun _ _ => rfl) rfl (fun _ _ => rfl) (fun _ _ => rfl) (fun _ _ => rfl) (fun _ _ => rfl) h_portw, R_portc_x (M := M) (K := K) rfl (fun _ _ => rfl) (fun _ _ => rfl) (fun _ _ => rfl) (fun _ _ => rfl) (fun _ _ => rfl) (fun _ _ => rfl) (fun _ _ => rfl) h_portc⟩
theorem LNT_A {v : Int} (h : LNT M K) : LNT (qw M 2332 0 0 v) K := by
  obtain ⟨h_lines, h_ends, h_doorn, h_doors, h_find0, h_portn, h_portw, h_portc⟩ := h
  exact ⟨R_lines_x (M := M) (K := K) rfl rfl h_lines, R_ends_x (M := M) (K := K) rfl (fun _ _ => rfl) (fun _ _ => rfl) (fun _ _ => rfl) (fun _ _ => rfl) (fun _ _ => rfl) h_ends, R_doorn_x (M := M) (K := K) rfl (fun _ _ => rfl) (fun _ _ => rfl) h_doorn, R_doors_x (M := M) (K := K) (fun _ _ => rfl) (fun _ _ => rfl) (fun _ _ => rfl) (fun _ _ => rfl) (fun _ _ => rfl) (fun _ _ => rfl) h_doors, R_find0_x (M := M) (K := K) rfl rfl rfl rfl rfl h_find0, R_portn_x (M := M) (K := K) rfl rfl rfl (fun _ _ => rfl) (fun _ _ => rfl) (fun _ _ => rfl) rfl h_portn, R_portw_x (M := M) (K := K) rfl rfl (fun _ _ => rfl) rfl (fun _ _ => rfl) (fun _ _ => rfl) (fun _ _ => rfl) (fun _ _ => rfl) h_portw, R_portc_x (M := M) (K := K) rfl (fun _ _ => rfl) (fun _ _ => rfl) (fun _ _ => rfl) (fun _ _ => rfl) (fun _ _ => rfl) (fun _ _ => rfl) (fun _ _ => rfl) h_portc⟩
theorem lnR_at {i : Int} : (lnR K l f x y n) 2158 i 0 = (if i = l then x else (K 2158 i 0)) ∧ (lnR K l f x y n) 2159 i 0 = (if i = l then y else (K 2159 i 0)) ∧ (lnR K l f x y n) 2160 i 0 = (if i = l then f else (K 2160 i 0)) ∧ (lnR K l f x y n) 2161 i 0 = (if i = l then n else (K 2161 i 0)) ∧ (lnR K l f x y n) 2162 i 0 = (if i = l then 0 else (K 2162 i 0)) := by
  unfold lnR
  refine ⟨?_, ?_, ?_, ?_, ?_⟩
  · simp only [qw_ap, false_and, true_and, and_true, and_false, and_self, if_false, if_true, reduceIte, Nat.reduceEqDiff, Int.reduceEq]
  · simp only [qw_ap, false_and, true_and, and_true, and_false, and_self, if_false, if_true, reduceIte, Nat.reduceEqDiff, Int.reduceEq]
  · simp only [qw_ap, false_and, true_and, and_true, and_false, and_self, if_false, if_true, reduceIte, Nat.reduceEqDiff, Int.reduceEq]
  · simp only [qw_ap, false_and, true_and, and_true, and_false, and_self, if_false, if_true, reduceIte, Nat.reduceEqDiff, Int.reduceEq]
  · simp only [qw_ap, false_and, true_and, and_true, and_false, and_self, if_false, if_true, reduceIte, Nat.reduceEqDiff, Int.reduceEq]
theorem lnR_o {b : Nat} {i j : Int} (h : b < 2158 ∨ 2162 < b) : (lnR K l f x y n) b i j = K b i j := by
  unfold lnR
  rw [qw_a (by omega), qw_a (by omega), qw_a (by omega), qw_a (by omega), qw_a (by omega)]
/-- a line that was not taken: what stands behind the last line does not count -/
theorem line_no (h : LNT M K) (hb : (M 6 11 0) = 0) (hl : (M 7 0 0) = l) (l0 : 0 ≤ l) (l20 : l < 20) : LNT M (lnR K l f x y n) := by
  obtain ⟨h_lines, h_ends, h_doorn, h_doors, h_find0, h_portn, h_portw, h_portc⟩ := h
  have p0 : (M 824 3 0) = 0 := h_portn.2.2.2.2.2.2.2 hb
  refine ⟨R_lines_x (M := M) (K := K) rfl (lnR_o (by decide)) h_lines, ?_, ?_, ?_, (by unfold R_find0; rw [show (lnR K l f x y n) 2157 11 0 = K 2157 11 0 from lnR_o (by decide), show (lnR K l f x y n) 2157 10 0 = K 2157 10 0 from lnR_o (by decide), show (lnR K l f x y n) 2157 9 0 = K 2157 9 0 from lnR_o (by decide)]; exact h_find0), (by unfold R_portn; rw [show (lnR K l f x y n) 2156 10 0 = K 2156 10 0 from lnR_o (by decide)]; exact h_portn), fun p a b => by omega, fun p a b => by omega⟩
  · intro i i0 i1
    have a := lnR_at (K := K) (l := l) (f := f) (x := x) (y := y) (n := n) (i := i)
    have e : ¬ i = l := by omega
    rw [if_neg e, if_neg e, if_neg e, if_neg e] at a
    rw [a.1, a.2.1, a.2.2.1, a.2.2.2.1]
    exact h_ends i i0 i1
  · intro i i0 i1
    have a := lnR_at (K := K) (l := l) (f := f) (x := x) (y := y) (n := n) (i := i)
    have q := h_doorn i i0 i1
    rw [a.2.2.2.2]
    by_cases e : i = l
    · rw [if_pos e]
      have z := q.2.2.2 (by omega)
      exact ⟨z.symm, by omega, by omega, q.2.2.2⟩
    · rw [if_neg e]
      exact q
  · intro i d i0 i1 d0 d1
    have a := lnR_at (K := K) (l := l) (f := f) (x := x) (y := y) (n := n) (i := i)
    have q := h_doors i d i0 i1 d0 d1
    have qn := h_doorn i i0 i1
    have e : ¬ i = l := by
      intro e
      have := qn.2.2.2 (by omega)
      omega
    rw [if_neg e, if_neg e, if_neg e, if_neg e] at a
    rw [a.2.2.2.1, lnR_o (by decide), lnR_o (by decide), lnR_o (by decide)]
    exact q
theorem line_ok (h : LNT M K) (hb : (M 6 11 0) = 0) (hl : (M 7 0 0) = l) (l0 : 0 ≤ l) (l20 : l < 20) (hf : f = 0 ∨ f = 1) (hn : 1 ≤ n) (x0 : 0 ≤ x) (y0 : 0 ≤ y) (ex : hx = if f = 0 then x else x + n) (ey : hy = if f = 0 then y + n else y) (x24 : hx ≤ 24) (y24 : hy ≤ 24) : LNT (qw (qw (lnC M l x y hx hy) 7 0 0 (l + 1)) 51 2 0 0) (qw (qw (lnR K l f x y n) 2157 0 0 (l + 1)) 2157 10 0 0) := by
  have hh := line_no (f := f) (x := x) (y := y) (n := n) h hb hl l0 l20
  obtain ⟨h_lines, h_ends, h_doorn, h_doors, h_find0, h_portn, h_portw, h_portc⟩ := h
  obtain ⟨g_lines, g_ends, g_doorn, g_doors, g_find0, g_portn, g_portw, g_portc⟩ := hh
  have p0 : (M 824 3 0) = 0 := h_portn.2.2.2.2.2.2.2 hb
  have s1 : ∀ i j, (lnC M l x y hx hy) 8 i j = if i = l ∧ j = 3 then hy else if i = l ∧ j = 2 then hx else if i = l ∧ j = 1 then y else if i = l ∧ j = 0 then x else (M 8 i j) := by
    intro i j
    unfold lnC
    simp only [qw_ap, false_and, true_and, and_true, and_false, and_self, if_false, if_true, reduceIte, Nat.reduceEqDiff, Int.reduceEq]
  have t1 : (qw (qw (lnR K l f x y n) 2157 0 0 (l + 1)) 2157 10 0 0) 2157 0 0 = l + 1 := by
    simp only [qw_ap, false_and, true_and, and_true, and_false, and_self, if_false, if_true, reduceIte, Nat.reduceEqDiff, Int.reduceEq]
  have t2 : ∀ b i j, b ≠ 2157 → (qw (qw (lnR K l f x y n) 2157 0 0 (l + 1)) 2157 10 0 0) b i j = (lnR K l f x y n) b i j := fun b i j hb => by rw [qw_a hb, qw_a hb]
  refine ⟨⟨?_, ?_, ?_⟩, ?_, ?_, ?_, ?_, ?_, fun p a b => ?_, fun p a b => ?_⟩
  · show 0 ≤ l + 1
    omega
  · show l + 1 ≤ 20
    omega
  · rw [t1]
    rfl
  · refine ends_set (l := l) (f := f) (x := x) (y := y) (n := n) (hx := hx) (hy := hy) h_ends hf hn x0 y0 ex ey x24 y24 l0 (Or.inr ⟨?_, hl.symm⟩) s1 (fun i => ?_) (fun i => ?_) (fun i => ?_) (fun i => ?_)
    · show l + 1 = _
      omega
    · rw [t2 _ _ _ (by decide)]
      exact lnR_at.1
    · rw [t2 _ _ _ (by decide)]
      exact lnR_at.2.1
    · rw [t2 _ _ _ (by decide)]
      exact lnR_at.2.2.1
    · rw [t2 _ _ _ (by decide)]
      exact lnR_at.2.2.2.1
  · intro i i0 i1
    have q := g_doorn i i0 i1
    rw [t2 _ _ _ (by decide)]
    refine ⟨q.1, q.2.1, q.2.2.1, fun z => q.2.2.2 ?_⟩
    have z : l + 1 ≤ i := z
    show (M 7 0 0) ≤ i
    omega
  · intro i d i0 i1 d0 d1
    have q := g_doors i d i0 i1 d0 d1
    rw [t2 _ _ _ (by decide), t2 _ _ _ (by decide), t2 _ _ _ (by decide), t2 _ _ _ (by decide)]
    exact q
  · unfold R_find0 at g_find0 ⊢
    obtain ⟨q1, q2, q3, q4, q5, q6⟩ := g_find0
    exact ⟨q1, q2, q3, Or.inl rfl, rfl, q6⟩
  · unfold R_portn
    exact g_portn
  · have b : p < (M 824 3 0) := b
    omega
  · have b : p < (M 824 3 0) := b
    omega
theorem op_line (h_built : R_built M K) (h : LNT M K) : oK2 cI (qf_L_line 20000 x1 x2 x3 x4 M) (qf_X18_line 20000 x1 x2 x3 x4 K) (fun M' K' => LNT M' K') := by
  have s_built := h_built
  unfold R_built at s_built
  have h_lines := h.1
  have h_ends := h.2.1
  have s_lines := h_lines
  unfold R_lines at s_lines
  unfold oK2
  by_cases hx : ((0 ≤ x1 ∧ x1 ≤ 24) ∧ 0 ≤ x2 ∧ x2 ≤ 24) ∧ ((0 ≤ x3 ∧ x3 ≤ 24) ∧ 0 ≤ x4 ∧ x4 ≤ 24) ∧ ((x1 = x3 ∧ x2 ≠ x4) ∨ (x1 ≠ x3 ∧ x2 = x4)) ∧ (M 7 0 0) < 20 ∧ (M 6 11 0) = 0
  · obtain ⟨⟨c1, c2⟩, ⟨c3, c4⟩, hd, l20, hb⟩ := hx
    obtain ⟨l, hl⟩ : ∃ l, (M 7 0 0) = l := ⟨_, rfl⟩
    obtain ⟨f, hf⟩ : ∃ f : Int, f = if x2 = x4 then 1 else 0 := ⟨_, rfl⟩
    obtain ⟨x, ex⟩ : ∃ x, x = min x1 x3 := ⟨_, rfl⟩
    obtain ⟨y, ey⟩ : ∃ y, y = min x2 x4 := ⟨_, rfl⟩
    obtain ⟨n, en⟩ : ∃ n, n = x1 + x3 - 2 * x + x2 + x4 - 2 * y := ⟨_, rfl⟩
    have eC := addLine_r (M := M) (K := K) h_lines h_ends hl (by omega) hf ex ey en hd
    have eR := line_r (M := M) (K := qw K 2156 0 0 0) (R_lines_x (M := M) (K := K) rfl rfl h_lines) (R_ends_x (M := M) (K := K) rfl (fun _ _ => rfl) (fun _ _ => rfl) (fun _ _ => rfl) (fun _ _ => rfl) (fun _ _ => rfl) h_ends) hl (by omega) hf ex ey en c1 c2 c3 c4 hd
    have hE : crE (qw K 2156 0 0 0) l (-1) f x y n = crE K l (-1) f x y n := rfl
    rw [hE] at eR
    rcases b01_o (p := crE K l (-1) f x y n) with ⟨g, _⟩ | ⟨g, _⟩
    · rw [g, if_neg (by decide)] at eC eR
      unfold qf_L_line qf_X11_line qf_X11_line_J21 qf_X11_line_J22 qf_X11_line_J35 qf_X11_line_J46 qf_X11_line_J54 qf_X11_line_J80 qf_X11_line_J81 qf_X11_isOnPlan qf_X18_line qf_X18_line_J49 qf_X18_line_J53 qf_X18_line_J54 qf_X18_line_J82 qf_X18_line_J83 qf_X16_isIn
      repeat' first
        | ((with_reducible refine qW_eq eC ?_); (try dsimp only))
        | ((with_reducible refine qW_eq eR ?_); (try dsimp only))
        | with_reducible refine qW_pos (Or.inl trivial) ?_
        | with_reducible refine qW_pos (Or.inr trivial) ?_
        | with_reducible refine qW_within (fun _ => ?_) (fun _ _ => ?_)
        | with_reducible refine qW_isIn (fun _ => ?_) (fun _ _ => ?_)
        | with_reducible refine qW_na (fun _ => ?_) (fun _ => ?_)
        | with_reducible refine qW_ns (fun _ => ?_) (fun _ => ?_)
        | (with_reducible refine qW_goes (fun _ => ?_) (fun _ _ => ?_) (fun _ _ => ?_) <;> (try dsimp only) <;> (try simp only [qw_ap, qfl1_ap, qfl2_ap, qcp1_ap, qcp2_ap, false_and, true_and, and_true, and_false, and_self, if_false, if_true, reduceIte, Nat.reduceEqDiff, Int.reduceEq, Int.reduceNeg]))
        | (with_reducible refine qW_stays (by omega) (fun _ => ?_) (fun _ => ?_) <;> (try dsimp only) <;> (try simp only [qw_ap, qfl1_ap, qfl2_ap, qcp1_ap, qcp2_ap, false_and, true_and, and_true, and_false, and_self, if_false, if_true, reduceIte, Nat.reduceEqDiff, Int.reduceEq, Int.reduceNeg]))
        | (exfalso; omega)
        | with_reducible refine qW_bind ?_
        | (with_reducible refine qW_bnd ?_; try simp only [qw_ap, qfl1_ap, qfl2_ap, qcp1_ap, qcp2_ap, false_and, true_and, and_true, and_false, and_self, if_false, if_true, reduceIte, Nat.reduceEqDiff, Int.reduceEq, Int.reduceNeg])
        | (with_reducible refine qW_some ?_; (try dsimp only); try simp only [qw_ap, qfl1_ap, qfl2_ap, qcp1_ap, qcp2_ap, false_and, true_and, and_true, and_false, and_self, if_false, if_true, reduceIte, Nat.reduceEqDiff, Int.reduceEq, Int.reduceNeg])
        | ((with_reducible refine qW_no ?_); omega)
        | with_reducible refine qW_pos rfl ?_
        | ((with_reducible refine qW_pos ?_ ?_); omega)
        | ((with_reducible refine qW_neg ?_ ?_); (first | omega | decide))
        | with_reducible refine qW_ite (fun _ => ?_) (fun _ => ?_)
        | dsimp only
      all_goals first
        | exact ⟨fun x => absurd x (by decide), LNT_K h⟩
        | exact ⟨fun _ => rfl, LNT_A (line_no (LNT_K h) hb hl (by omega) (by omega))⟩
        | exact ⟨lnR_o (Or.inl (by decide)), fun _ => rfl, LNT_A (line_no (LNT_K h) hb hl (by omega) (by omega))⟩
    · rw [g, if_pos rfl] at eC eR
      have f01 : (f = 1 ∧ x2 = x4) ∨ (f = 0 ∧ x2 ≠ x4) := by
        by_cases g : x2 = x4
        · rw [if_pos g] at hf
          exact Or.inl ⟨hf, g⟩
        · rw [if_neg g] at hf
          exact Or.inr ⟨hf, g⟩
      have fin := line_ok (M := M) (K := qw K 2156 0 0 0) (l := l) (f := f) (x := x) (y := y) (n := n) (hx := max x1 x3) (hy := max x2 x4) (LNT_K h) hb hl (by omega) (by omega) (by omega) (by omega) (by omega) (by omega) (by split <;> omega) (by split <;> omega) (by omega) (by omega)
      unfold qf_L_line qf_X11_line qf_X11_line_J21 qf_X11_line_J22 qf_X11_line_J35 qf_X11_line_J46 qf_X11_line_J54 qf_X11_line_J80 qf_X11_line_J81 qf_X11_isOnPlan qf_X18_line qf_X18_line_J49 qf_X18_line_J53 qf_X18_line_J54 qf_X18_line_J82 qf_X18_line_J83 qf_X16_isIn
      repeat' first
        | ((with_reducible refine qW_eq eC ?_); (try dsimp only))
        | ((with_reducible refine qW_eq eR ?_); (try dsimp only))
        | with_reducible refine qW_pos (Or.inl trivial) ?_
        | with_reducible refine qW_pos (Or.inr trivial) ?_
        | with_reducible refine qW_within (fun _ => ?_) (fun _ _ => ?_)
        | with_reducible refine qW_isIn (fun _ => ?_) (fun _ _ => ?_)
        | with_reducible refine qW_na (fun _ => ?_) (fun _ => ?_)
        | with_reducible refine qW_ns (fun _ => ?_) (fun _ => ?_)
        | (with_reducible refine qW_goes (fun _ => ?_) (fun _ _ => ?_) (fun _ _ => ?_) <;> (try dsimp only) <;> (try simp only [qw_ap, qfl1_ap, qfl2_ap, qcp1_ap, qcp2_ap, false_and, true_and, and_true, and_false, and_self, if_false, if_true, reduceIte, Nat.reduceEqDiff, Int.reduceEq, Int.reduceNeg]))
        | (with_reducible refine qW_stays (by omega) (fun _ => ?_) (fun _ => ?_) <;> (try dsimp only) <;> (try simp only [qw_ap, qfl1_ap, qfl2_ap, qcp1_ap, qcp2_ap, false_and, true_and, and_true, and_false, and_self, if_false, if_true, reduceIte, Nat.reduceEqDiff, Int.reduceEq, Int.reduceNeg]))
        | (exfalso; omega)
        | with_reducible refine qW_bind ?_
        | (with_reducible refine qW_bnd ?_; try simp only [qw_ap, qfl1_ap, qfl2_ap, qcp1_ap, qcp2_ap, false_and, true_and, and_true, and_false, and_self, if_false, if_true, reduceIte, Nat.reduceEqDiff, Int.reduceEq, Int.reduceNeg])
        | (with_reducible refine qW_some ?_; (try dsimp only); try simp only [qw_ap, qfl1_ap, qfl2_ap, qcp1_ap, qcp2_ap, false_and, true_and, and_true, and_false, and_self, if_false, if_true, reduceIte, Nat.reduceEqDiff, Int.reduceEq, Int.reduceNeg])
        | ((with_reducible refine qW_no ?_); omega)
        | with_reducible refine qW_pos rfl ?_
        | ((with_reducible refine qW_pos ?_ ?_); omega)
        | ((with_reducible refine qW_neg ?_ ?_); (first | omega | decide))
        | with_reducible refine qW_ite (fun _ => ?_) (fun _ => ?_)
        | dsimp only
      all_goals first
        | exact ⟨fun x => absurd x (by decide), LNT_K h⟩
        | exact ⟨fun _ => rfl, LNT_A fin⟩
        | exact ⟨lnR_o (Or.inl (by decide)), fun _ => rfl, LNT_A fin⟩
  · unfold qf_L_line qf_X11_line qf_X11_line_J21 qf_X11_line_J22 qf_X11_line_J35 qf_X11_line_J46 qf_X11_line_J54 qf_X11_line_J80 qf_X11_line_J81 qf_X11_isOnPlan qf_X18_line qf_X18_line_J49 qf_X18_line_J53 qf_X18_line_J54 qf_X18_line_J82 qf_X18_line_J83 qf_X16_isIn
    repeat' first
      | with_reducible refine qW_pos (Or.inl trivial) ?_
      | with_reducible refine qW_pos (Or.inr trivial) ?_
      | with_reducible refine qW_within (fun _ => ?_) (fun _ _ => ?_)
      | with_reducible refine qW_isIn (fun _ => ?_) (fun _ _ => ?_)
      | with_reducible refine qW_na (fun _ => ?_) (fun _ => ?_)
      | with_reducible refine qW_ns (fun _ => ?_) (fun _ => ?_)
      | (with_reducible refine qW_goes (fun _ => ?_) (fun _ _ => ?_) (fun _ _ => ?_) <;> (try dsimp only) <;> (try simp only [qw_ap, qfl1_ap, qfl2_ap, qcp1_ap, qcp2_ap, false_and, true_and, and_true, and_false, and_self, if_false, if_true, reduceIte, Nat.reduceEqDiff, Int.reduceEq, Int.reduceNeg]))
      | (with_reducible refine qW_stays (by omega) (fun _ => ?_) (fun _ => ?_) <;> (try dsimp only) <;> (try simp only [qw_ap, qfl1_ap, qfl2_ap, qcp1_ap, qcp2_ap, false_and, true_and, and_true, and_false, and_self, if_false, if_true, reduceIte, Nat.reduceEqDiff, Int.reduceEq, Int.reduceNeg]))
      | (exfalso; omega)
      | with_reducible refine qW_bind ?_
      | (with_reducible refine qW_bnd ?_; try simp only [qw_ap, qfl1_ap, qfl2_ap, qcp1_ap, qcp2_ap, false_and, true_and, and_true, and_false, and_self, if_false, if_true, reduceIte, Nat.reduceEqDiff, Int.reduceEq, Int.reduceNeg])
      | (with_reducible refine qW_some ?_; (try dsimp only); try simp only [qw_ap, qfl1_ap, qfl2_ap, qcp1_ap, qcp2_ap, false_and, true_and, and_true, and_false, and_self, if_false, if_true, reduceIte, Nat.reduceEqDiff, Int.reduceEq, Int.reduceNeg])
      | ((with_reducible refine qW_no ?_); omega)
      | with_reducible refine qW_pos rfl ?_
      | ((with_reducible refine qW_pos ?_ ?_); omega)
      | ((with_reducible refine qW_neg ?_ ?_); (first | omega | decide))
      | with_reducible refine qW_ite (fun _ => ?_) (fun _ => ?_)
      | dsimp only
    all_goals exact ⟨fun x => absurd x (by decide), LNT_K h⟩
end LJ
