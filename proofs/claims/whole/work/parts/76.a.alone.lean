/-! ===== no two lines along one another: kept by line and move ===== -/
section AL
variable {M K : qm} {l f x y n hx hy x1 x2 x3 x4 d e : Int}
def R_alone (M K : qm) : Prop := ∀ k l, 0 ≤ k → k < (M 7 0 0) → 0 ≤ l → l < (M 7 0 0) → k ≠ l → ¬ crsN K k (K 2160 l 0) (K 2158 l 0) (K 2159 l 0) (K 2161 l 0)
theorem crsN_c {k l : Int} (h : crsN K k (K 2160 l 0) (K 2158 l 0) (K 2159 l 0) (K 2161 l 0)) : crsN K l (K 2160 k 0) (K 2158 k 0) (K 2159 k 0) (K 2161 k 0) := by
  unfold crsN at *
  omega
def LNA (M K : qm) : Prop := LNT M K ∧ R_alone M K
theorem LNA_K {v : Int} (h : LNA M K) : LNA M (qw K 2156 0 0 v) := ⟨LNT_K h.1, h.2⟩
theorem LNA_A {v : Int} (h : LNA M K) : LNA (qw M 2332 0 0 v) K := ⟨LNT_A h.1, h.2⟩
/-- one line anew, the others as they were -/
theorem alone_s {S T : qm} (h : R_alone M K) (hn : (S 7 0 0) = (M 7 0 0) ∨ ((S 7 0 0) = (M 7 0 0) + 1 ∧ l = (M 7 0 0))) (ho : ∀ k, k ≠ l → (T 2158 k 0) = (K 2158 k 0) ∧ (T 2159 k 0) = (K 2159 k 0) ∧ (T 2160 k 0) = (K 2160 k 0) ∧ (T 2161 k 0) = (K 2161 k 0)) (hl : (T 2158 l 0) = x ∧ (T 2159 l 0) = y ∧ (T 2160 l 0) = f ∧ (T 2161 l 0) = n) (hc : ¬ crE K (M 7 0 0) l f x y n) : R_alone S T := by
  have one : ∀ k, 0 ≤ k → k < (M 7 0 0) → k ≠ l → ¬ crsN T k (T 2160 l 0) (T 2158 l 0) (T 2159 l 0) (T 2161 l 0) := by
    intro k k0 k1 k2 z
    obtain ⟨e1, e2, e3, e4⟩ := ho k k2
    rw [hl.1, hl.2.1, hl.2.2.1, hl.2.2.2, crsN_x e1 e2 e3 e4] at z
    exact hc ⟨k, k0, k1, k2, z⟩
  intro a b a0 a1 b0 b1 ab
  by_cases ga : a = l
  · have gb : b ≠ l := fun z => ab (ga.trans z.symm)
    intro z
    rw [ga] at z
    exact one b b0 (by omega) gb (crsN_c z)
  · by_cases gb : b = l
    · rw [gb]
      exact one a a0 (by omega) ga
    · obtain ⟨e1, e2, e3, e4⟩ := ho a ga
      obtain ⟨i1, i2, i3, i4⟩ := ho b gb
      rw [crsN_x e1 e2 e3 e4, i1, i2, i3, i4]
      exact h a b a0 (by omega) b0 (by omega) ab
theorem alone_no (h : R_alone M K) (hl : (M 7 0 0) = l) : R_alone M (lnR K l f x y n) := by
  intro a b a0 a1 b0 b1 ab
  have p := fun i => lnR_at (K := K) (l := l) (f := f) (x := x) (y := y) (n := n) (i := i)
  have pa := p a
  have pb := p b
  rw [if_neg (by omega), if_neg (by omega), if_neg (by omega), if_neg (by omega)] at pa pb
  rw [crsN_x pa.1 pa.2.1 pa.2.2.1 pa.2.2.2.1, pb.1, pb.2.1, pb.2.2.1, pb.2.2.2.1]
  exact h a b a0 a1 b0 b1 ab
theorem r0_alone {L : Nat} {xs w : Nat → Int32} : R_alone (qM id (fS L xs w)) (qM id (fS L xs w)) := by
  intro a b a0 a1
  rw [m0_7] at a1
  omega
theorem op_lineA (h_built : R_built M K) (h : LNA M K) : oK2 cI (qf_L_line 20000 x1 x2 x3 x4 M) (qf_X18_line 20000 x1 x2 x3 x4 K) (fun M' K' => LNA M' K') := by
  have s_built := h_built
  unfold R_built at s_built
  have h_lines := h.1.1
  have h_ends := h.1.2.1
  have s_lines := h_lines
  unfold R_lines at s_lines
  unfold oK2
  by_cases hx : ((0 ≤ x1 ∧ x1 ≤ 24) ∧ 0 ≤ x2 ∧ x2 ≤ 24) ∧ ((0 ≤ x3 ∧ x3 ≤ 24) ∧ 0 ≤ x4 ∧ x4 ≤ 24) ∧ ((x1 = x3 ∧ x2 ≠ x4) ∨ (x1 ≠ x3 ∧ x2 = x4)) ∧ (M 7 0 0) < 20 ∧ (M 6 11 0) = 0
  · obtain ⟨⟨c1, c2⟩, ⟨c3, c4⟩, hd, l20, hb⟩ := hx
    obtain ⟨l, hl⟩ : ∃ l, (M 7 0 0) = l := ⟨_, rfl⟩
    obtain ⟨f, hf⟩ : ∃ f : Int, f = if x2 = x4 then 1 else 0 := ⟨_, rfl⟩
    obtain ⟨x, ex⟩ : ∃ x, x = min x1 x3 := ⟨_, rfl⟩
    obtain ⟨y, ey⟩ : ∃ y, y = min x2 x4 := ⟨_, rfl⟩
    obtain ⟨n, en⟩ : ∃ n, n = x1 + x3 - 2 * x + x2 + x4 - 2 * y := ⟨_, rfl⟩
    have eC := addLine_r (M := M) (K := K) h_lines h_ends hl (by omega) hf ex ey en hd
    have eR := line_r (M := M) (K := qw K 2156 0 0 0) (R_lines_x (M := M) (K := K) rfl rfl h_lines) (R_ends_x (M := M) (K := K) rfl (fun _ _ => rfl) (fun _ _ => rfl) (fun _ _ => rfl) (fun _ _ => rfl) (fun _ _ => rfl) h_ends) hl (by omega) hf ex ey en c1 c2 c3 c4 hd
    have hE : crE (qw K 2156 0 0 0) l (-1) f x y n = crE K l (-1) f x y n := rfl
    rw [hE] at eR
    rcases b01_o (p := crE K l (-1) f x y n) with ⟨g, _⟩ | ⟨g, _⟩
    · rw [g, if_neg (by decide)] at eC eR
      unfold qf_L_line qf_X11_line qf_X11_line_J21 qf_X11_line_J22 qf_X11_line_J35 qf_X11_line_J46 qf_X11_line_J54 qf_X11_line_J80 qf_X11_line_J81 qf_X11_isOnPlan qf_X18_line qf_X18_line_J49 qf_X18_line_J53 qf_X18_line_J54 qf_X18_line_J82 qf_X18_line_J83 qf_X16_isIn
      repeat' first
        | ((with_reducible refine qW_eq eC ?_); (try dsimp only))
        | ((with_reducible refine qW_eq eR ?_); (try dsimp only))
        | with_reducible refine qW_pos (Or.inl trivial) ?_
        | with_reducible refine qW_pos (Or.inr trivial) ?_
        | with_reducible refine qW_within (fun _ => ?_) (fun _ _ => ?_)
        | with_reducible refine qW_isIn (fun _ => ?_) (fun _ _ => ?_)
        | with_reducible refine qW_na (fun _ => ?_) (fun _ => ?_)
        | with_reducible refine qW_ns (fun _ => ?_) (fun _ => ?_)
        | (with_reducible refine qW_goes (fun _ => ?_) (fun _ _ => ?_) (fun _ _ => ?_) <;> (try dsimp only) <;> (try simp only [qw_ap, qfl1_ap, qfl2_ap, qcp1_ap, qcp2_ap, false_and, true_and, and_true, and_false, and_self, if_false, if_true, reduceIte, Nat.reduceEqDiff, Int.reduceEq, Int.reduceNeg]))
        | (with_reducible refine qW_stays (by omega) (fun _ => ?_) (fun _ => ?_) <;> (try dsimp only) <;> (try simp only [qw_ap, qfl1_ap, qfl2_ap, qcp1_ap, qcp2_ap, false_and, true_and, and_true, and_false, and_self, if_false, if_true, reduceIte, Nat.reduceEqDiff, Int.reduceEq, Int.reduceNeg]))
        | (exfalso; omega)
        | with_reducible refine qW_bind ?_
        | (with_reducible refine qW_bnd ?_; try simp only [qw_ap, qfl1_ap, qfl2_ap, qcp1_ap, qcp2_ap, false_and, true_and, and_true, and_false, and_self, if_false, if_true, reduceIte, Nat.reduceEqDiff, Int.reduceEq, Int.reduceNeg])
        | (with_reducible refine qW_some ?_; (try dsimp only); try simp only [qw_ap, qfl1_ap, qfl2_ap, qcp1_ap, qcp2_ap, false_and, true_and, and_true, and_false, and_self, if_false, if_true, reduceIte, Nat.reduceEqDiff, Int.reduceEq, Int.reduceNeg])
        | ((with_reducible refine qW_no ?_); omega)
        | with_reducible refine qW_pos rfl ?_
        | ((with_reducible refine qW_pos ?_ ?_); omega)
        | ((with_reducible refine qW_neg ?_ ?_); (first | omega | decide))
        | with_reducible refine qW_ite (fun _ => ?_) (fun _ => ?_)
        | dsimp only
      all_goals first
        | exact ⟨fun x => absurd x (by decide), LNA_K h⟩
        | exact ⟨fun _ => rfl, LNA_A ⟨line_no (LNT_K h.1) hb hl (by omega) (by omega), alone_no (K := qw K 2156 0 0 0) h.2 hl⟩⟩
        | exact ⟨lnR_o (Or.inl (by decide)), fun _ => rfl, LNA_A ⟨line_no (LNT_K h.1) hb hl (by omega) (by omega), alone_no (K := qw K 2156 0 0 0) h.2 hl⟩⟩
    · rw [g, if_pos rfl] at eC eR
      have f01 : (f = 1 ∧ x2 = x4) ∨ (f = 0 ∧ x2 ≠ x4) := by
        by_cases g : x2 = x4
        · rw [if_pos g] at hf
          exact Or.inl ⟨hf, g⟩
        · rw [if_neg g] at hf
          exact Or.inr ⟨hf, g⟩
      have fin := line_ok (M := M) (K := qw K 2156 0 0 0) (l := l) (f := f) (x := x) (y := y) (n := n) (hx := max x1 x3) (hy := max x2 x4) (LNT_K h.1) hb hl (by omega) (by omega) (by omega) (by omega) (by omega) (by omega) (by split <;> omega) (by split <;> omega) (by omega) (by omega)
      have gc : ¬ crE K (M 7 0 0) l f x y n := by
        rw [hl]
        rintro ⟨k, k0, k1, k2, k3⟩
        exact b01_0.mp g ⟨k, k0, k1, by omega, k3⟩
      have al : R_alone (qw (qw (lnC M l x y (max x1 x3) (max x2 x4)) 7 0 0 (l + 1)) 51 2 0 0) (qw (qw (lnR (qw K 2156 0 0 0) l f x y n) 2157 0 0 (l + 1)) 2157 10 0 0) := alone_s (K := qw K 2156 0 0 0) (x := x) (y := y) (f := f) (n := n) h.2 (Or.inr ⟨by show l + 1 = (M 7 0 0) + 1; omega, hl.symm⟩) (fun k hk => by
        have p := lnR_at (K := qw K 2156 0 0 0) (l := l) (f := f) (x := x) (y := y) (n := n) (i := k)
        rw [if_neg hk, if_neg hk, if_neg hk, if_neg hk] at p
        exact ⟨p.1, p.2.1, p.2.2.1, p.2.2.2.1⟩) (by
        have p := lnR_at (K := qw K 2156 0 0 0) (l := l) (f := f) (x := x) (y := y) (n := n) (i := l)
        rw [if_pos rfl, if_pos rfl, if_pos rfl, if_pos rfl] at p
        exact ⟨p.1, p.2.1, p.2.2.1, p.2.2.2.1⟩) gc
      unfold qf_L_line qf_X11_line qf_X11_line_J21 qf_X11_line_J22 qf_X11_line_J35 qf_X11_line_J46 qf_X11_line_J54 qf_X11_line_J80 qf_X11_line_J81 qf_X11_isOnPlan qf_X18_line qf_X18_line_J49 qf_X18_line_J53 qf_X18_line_J54 qf_X18_line_J82 qf_X18_line_J83 qf_X16_isIn
      repeat' first
        | ((with_reducible refine qW_eq eC ?_); (try dsimp only))
        | ((with_reducible refine qW_eq eR ?_); (try dsimp only))
        | with_reducible refine qW_pos (Or.inl trivial) ?_
        | with_reducible refine qW_pos (Or.inr trivial) ?_
        | with_reducible refine qW_within (fun _ => ?_) (fun _ _ => ?_)
        | with_reducible refine qW_isIn (fun _ => ?_) (fun _ _ => ?_)
        | with_reducible refine qW_na (fun _ => ?_) (fun _ => ?_)
        | with_reducible refine qW_ns (fun _ => ?_) (fun _ => ?_)
        | (with_reducible refine qW_goes (fun _ => ?_) (fun _ _ => ?_) (fun _ _ => ?_) <;> (try dsimp only) <;> (try simp only [qw_ap, qfl1_ap, qfl2_ap, qcp1_ap, qcp2_ap, false_and, true_and, and_true, and_false, and_self, if_false, if_true, reduceIte, Nat.reduceEqDiff, Int.reduceEq, Int.reduceNeg]))
        | (with_reducible refine qW_stays (by omega) (fun _ => ?_) (fun _ => ?_) <;> (try dsimp only) <;> (try simp only [qw_ap, qfl1_ap, qfl2_ap, qcp1_ap, qcp2_ap, false_and, true_and, and_true, and_false, and_self, if_false, if_true, reduceIte, Nat.reduceEqDiff, Int.reduceEq, Int.reduceNeg]))
        | (exfalso; omega)
        | with_reducible refine qW_bind ?_
        | (with_reducible refine qW_bnd ?_; try simp only [qw_ap, qfl1_ap, qfl2_ap, qcp1_ap, qcp2_ap, false_and, true_and, and_true, and_false, and_self, if_false, if_true, reduceIte, Nat.reduceEqDiff, Int.reduceEq, Int.reduceNeg])
        | (with_reducible refine qW_some ?_; (try dsimp only); try simp only [qw_ap, qfl1_ap, qfl2_ap, qcp1_ap, qcp2_ap, false_and, true_and, and_true, and_false, and_self, if_false, if_true, reduceIte, Nat.reduceEqDiff, Int.reduceEq, Int.reduceNeg])
        | ((with_reducible refine qW_no ?_); omega)
        | with_reducible refine qW_pos rfl ?_
        | ((with_reducible refine qW_pos ?_ ?_); omega)
        | ((with_reducible refine qW_neg ?_ ?_); (first | omega | decide))
        | with_reducible refine qW_ite (fun _ => ?_) (fun _ => ?_)
        | dsimp only
      all_goals first
        | exact ⟨fun x => absurd x (by decide), LNA_K h⟩
        | exact ⟨fun _ => rfl, LNA_A ⟨fin, al⟩⟩
        | exact ⟨lnR_o (Or.inl (by decide)), fun _ => rfl, LNA_A ⟨fin, al⟩⟩
  · unfold qf_L_line qf_X11_line qf_X11_line_J21 qf_X11_line_J22 qf_X11_line_J35 qf_X11_line_J46 qf_X11_line_J54 qf_X11_line_J80 qf_X11_line_J81 qf_X11_isOnPlan qf_X18_line qf_X18_line_J49 qf_X18_line_J53 qf_X18_line_J54 qf_X18_line_J82 qf_X18_line_J83 qf_X16_isIn
    repeat' first
      | with_reducible refine qW_pos (Or.inl trivial) ?_
      | with_reducible refine qW_pos (Or.inr trivial) ?_
      | with_reducible refine qW_within (fun _ => ?_) (fun _ _ => ?_)
      | with_reducible refine qW_isIn (fun _ => ?_) (fun _ _ => ?_)
      | with_reducible refine qW_na (fun _ => ?_) (fun _ => ?_)
      | with_reducible refine qW_ns (fun _ => ?_) (fun _ => ?_)
      | (with_reducible refine qW_goes (fun _ => ?_) (fun _ _ => ?_) (fun _ _ => ?_) <;> (try dsimp only) <;> (try simp only [qw_ap, qfl1_ap, qfl2_ap, qcp1_ap, qcp2_ap, false_and, true_and, and_true, and_false, and_self, if_false, if_true, reduceIte, Nat.reduceEqDiff, Int.reduceEq, Int.reduceNeg]))
      | (with_reducible refine qW_stays (by omega) (fun _ => ?_) (fun _ => ?_) <;> (try dsimp only) <;> (try simp only [qw_ap, qfl1_ap, qfl2_ap, qcp1_ap, qcp2_ap, false_and, true_and, and_true, and_false, and_self, if_false, if_true, reduceIte, Nat.reduceEqDiff, Int.reduceEq, Int.reduceNeg]))
      | (exfalso; omega)
      | with_reducible refine qW_bind ?_
      | (with_reducible refine qW_bnd ?_; try simp only [qw_ap, qfl1_ap, qfl2_ap, qcp1_ap, qcp2_ap, false_and, true_and, and_true, and_false, and_self, if_false, if_true, reduceIte, Nat.reduceEqDiff, Int.reduceEq, Int.reduceNeg])
      | (with_reducible refine qW_some ?_; (try dsimp only); try simp only [qw_ap, qfl1_ap, qfl2_ap, qcp1_ap, qcp2_ap, false_and, true_and, and_true, and_false, and_self, if_false, if_true, reduceIte, Nat.reduceEqDiff, Int.reduceEq, Int.reduceNeg])
      | ((with_reducible refine qW_no ?_); omega)
      | with_reducible refine qW_pos rfl ?_
      | ((with_reducible refine qW_pos ?_ ?_); omega)
      | ((with_reducible refine qW_neg ?_ ?_); (first | omega | decide))
      | with_reducible refine qW_ite (fun _ => ?_) (fun _ => ?_)
      | dsimp only
    all_goals exact ⟨fun x => absurd x (by decide), LNA_K h⟩
theorem op_moveA (h_built : R_built M K) (h : LNA M K) (hx2 : -2147483648 ≤ x2 ∧ x2 ≤ 2147483647) (hx3 : -2147483648 ≤ x3 ∧ x3 ≤ 2147483647) : oK2 cB (qf_L_move 20000 x1 x2 x3 M) (qf_X18_move 20000 x1 x2 x3 K) (fun M' K' => LNA M' K') := by
  have s_built := h_built
  unfold R_built at s_built
  have h_lines := h.1.1
  have h_ends := h.1.2.1
  have h_find0 := h.1.2.2.2.2.1
  have s_lines := h_lines
  unfold R_lines at s_lines
  have hw : w32 ((M 7 0 0) - 1) = (M 7 0 0) - 1 := w32_id (by omega) (by omega)
  unfold oK2
  by_cases hl : 0 ≤ x1 ∧ x1 < (M 7 0 0)
  · obtain ⟨l0, l1⟩ := hl
    have hl20 : x1 < 20 := by omega
    have q := h_ends x1 l0 l1
    obtain ⟨f, hf⟩ : ∃ v, (K 2160 x1 0) = v := ⟨_, rfl⟩
    obtain ⟨n, hn⟩ : ∃ v, (K 2161 x1 0) = v := ⟨_, rfl⟩
    obtain ⟨c0, hc0⟩ : ∃ v, (M 8 x1 0) = v := ⟨_, rfl⟩
    obtain ⟨c1, hc1⟩ : ∃ v, (M 8 x1 1) = v := ⟨_, rfl⟩
    obtain ⟨c2, hc2⟩ : ∃ v, (M 8 x1 2) = v := ⟨_, rfl⟩
    obtain ⟨c3, hc3⟩ : ∃ v, (M 8 x1 3) = v := ⟨_, rfl⟩
    have r0 : (K 2158 x1 0) = c0 := by omega
    have r1 : (K 2159 x1 0) = c1 := by omega
    have i2 : c2 = if f = 0 then c0 else c0 + n := by
      rw [hf, hn] at q
      rcases q.1 with g | g
      · rw [g, if_pos rfl]
        rw [g, if_pos rfl, if_pos rfl] at q
        omega
      · rw [g, if_neg (by decide)]
        rw [g, if_neg (by decide), if_neg (by decide)] at q
        omega
    have i3 : c3 = if f = 0 then c1 + n else c1 := by
      rw [hf, hn] at q
      rcases q.1 with g | g
      · rw [g, if_pos rfl]
        rw [g, if_pos rfl, if_pos rfl] at q
        omega
      · rw [g, if_neg (by decide)]
        rw [g, if_neg (by decide), if_neg (by decide)] at q
        omega
    have lb := LB_of h_ends l0 l1
    have bs : 0 ≤ c0 ∧ c0 ≤ c2 ∧ c2 ≤ 24 ∧ 0 ≤ c1 ∧ c1 ≤ c3 ∧ c3 ≤ 24 := by
      have n1 : 1 ≤ n := by omega
      have k1 : c0 ≤ c2 ∧ c1 ≤ c3 := by
        rw [i2, i3]
        split <;> omega
      omega
    have f01 : f = 0 ∨ f = 1 := by omega
    have eS := staysOn_r (M := M) (l := x1) (x2 := x2) (x3 := x3) l0 hl20 hx2 hx3 (by omega) (by omega) (by omega) (by omega)
    have eG := mayGo_r (K := K) (l := x1) (x2 := x2) (x3 := x3) (hx := c2) (hy := c3) l0 hl20 lb (by rw [hf, hn, r0]; exact i2) (by rw [hf, hn, r1]; exact i3) (by omega)
    rw [r0, r1] at eG
    rw [hc0, hc1, hc2, hc3] at eS
    by_cases hg : 0 ≤ c0 + x2 ∧ c2 + x2 ≤ 24 ∧ 0 ≤ c1 + x3 ∧ c3 + x3 ≤ 24
    · rw [b01_t hg] at eS eG
      by_cases hb : (M 6 11 0) = 0
      · have ihx : c2 + x2 = if f = 0 then c0 + x2 else c0 + x2 + n := by
          rcases f01 with g | g
          · rw [g, if_pos rfl] at i2 ⊢
            omega
          · rw [g, if_neg (by decide)] at i2 ⊢
            omega
        have ihy : c3 + x3 = if f = 0 then c1 + x3 + n else c1 + x3 := by
          rcases f01 with g | g
          · rw [g, if_pos rfl] at i3 ⊢
            omega
          · rw [g, if_neg (by decide)] at i3 ⊢
            omega
        have eC := moveLine_r (M := M) (K := K) (l := x1) (d := x2) (e := x3) (x := c0 + x2) (y := c1 + x3) h_lines h_ends l0 l1 hf hn (by rw [hc0]) (by rw [hc1]) ihx ihy hg.1 hg.2.2.1 hg.2.1 hg.2.2.2
        have eR := move_r (M := M) (K := qw K 2156 0 0 0) (l := x1) (d := x2) (e := x3) (f := f) (n := n) (x := c0 + x2) (y := c1 + x3) (R_lines_x (M := M) (K := K) rfl rfl h_lines) (R_ends_x (M := M) (K := K) rfl (fun _ _ => rfl) (fun _ _ => rfl) (fun _ _ => rfl) (fun _ _ => rfl) (fun _ _ => rfl) h_ends) (R_find0_x (M := M) (K := K) rfl rfl rfl rfl rfl h_find0) l0 l1 hf hn (by rw [hc0]) (by rw [hc1]) hg.1 hg.2.2.1 (by omega) (by omega)
        have hE : crE (qw K 2156 0 0 0) (M 7 0 0) x1 f (c0 + x2) (c1 + x3) n = crE K (M 7 0 0) x1 f (c0 + x2) (c1 + x3) n := rfl
        rw [hE] at eR
        have fin := move_ok (M := M) (K := qw K 2156 0 0 0) (l := x1) (x := c0 + x2) (y := c1 + x3) (hx := c2 + x2) (hy := c3 + x3) (LNT_K h.1) hb l0 l1 hg.1 hg.2.2.1 (by show _ = if (K 2160 x1 0) = 0 then c0 + x2 else c0 + x2 + (K 2161 x1 0); rw [hf, hn]; exact ihx) (by show _ = if (K 2160 x1 0) = 0 then c1 + x3 + (K 2161 x1 0) else c1 + x3; rw [hf, hn]; exact ihy) hg.2.1 hg.2.2.2
        clear q lb
        rcases b01_01 (p := crE K (M 7 0 0) x1 f (c0 + x2) (c1 + x3) n) with g | g
        · have gc : ¬ crE K (M 7 0 0) x1 f (c0 + x2) (c1 + x3) n := b01_0.mp g
          have al : R_alone (qw (lnC M x1 (c0 + x2) (c1 + x3) (c2 + x2) (c3 + x3)) 51 2 0 0) (qw (mvR (qw K 2156 0 0 0) x1 (c0 + x2) (c1 + x3)) 2157 10 0 0) := alone_s (K := qw K 2156 0 0 0) (l := x1) (x := c0 + x2) (y := c1 + x3) (f := f) (n := n) h.2 (Or.inl rfl) (fun k hk => by
            have p := mv_at (K := qw K 2156 0 0 0) (l := x1) (x := c0 + x2) (y := c1 + x3) (i := k)
            rw [if_neg hk, if_neg hk] at p
            exact ⟨p.1, p.2, (mv_o (K := qw K 2156 0 0 0) (l := x1) (x := c0 + x2) (y := c1 + x3) (b := 2160) (i := k) (j := 0) (by decide) (by decide)), (mv_o (K := qw K 2156 0 0 0) (l := x1) (x := c0 + x2) (y := c1 + x3) (b := 2161) (i := k) (j := 0) (by decide) (by decide))⟩) (by
            have p := mv_at (K := qw K 2156 0 0 0) (l := x1) (x := c0 + x2) (y := c1 + x3) (i := x1)
            rw [if_pos rfl, if_pos rfl] at p
            exact ⟨p.1, p.2, (mv_o (K := qw K 2156 0 0 0) (l := x1) (x := c0 + x2) (y := c1 + x3) (b := 2160) (i := x1) (j := 0) (by decide) (by decide)).trans hf, (mv_o (K := qw K 2156 0 0 0) (l := x1) (x := c0 + x2) (y := c1 + x3) (b := 2161) (i := x1) (j := 0) (by decide) (by decide)).trans hn⟩) gc
          rw [g, if_pos rfl] at eC eR
          unfold qf_L_move qf_L_move_J18 qf_X11_move qf_X11_move_J25 qf_X11_move_J26 qf_X11_move_J41 qf_X11_isLine qf_X18_move qf_X18_move_J32 qf_X18_move_J33 qf_X18_move_J45
          repeat' first
            | ((with_reducible refine qW_eq eS ?_); (try dsimp only))
            | ((with_reducible refine qW_eq eG ?_); (try dsimp only))
            | ((with_reducible refine qW_eq eC ?_); (try dsimp only))
            | ((with_reducible refine qW_eq eR ?_); (try dsimp only))
            | with_reducible refine qW_pos (Or.inl trivial) ?_
            | with_reducible refine qW_pos (Or.inr trivial) ?_
            | with_reducible refine qW_within (fun _ => ?_) (fun _ _ => ?_)
            | with_reducible refine qW_isIn (fun _ => ?_) (fun _ _ => ?_)
            | with_reducible refine qW_na (fun _ => ?_) (fun _ => ?_)
            | with_reducible refine qW_ns (fun _ => ?_) (fun _ => ?_)
            | (with_reducible refine qW_goes (fun _ => ?_) (fun _ _ => ?_) (fun _ _ => ?_) <;> (try dsimp only) <;> (try simp only [qw_ap, qfl1_ap, qfl2_ap, qcp1_ap, qcp2_ap, false_and, true_and, and_true, and_false, and_self, if_false, if_true, reduceIte, Nat.reduceEqDiff, Int.reduceEq, Int.reduceNeg]))
            | (with_reducible refine qW_stays (by omega) (fun _ => ?_) (fun _ => ?_) <;> (try dsimp only) <;> (try simp only [qw_ap, qfl1_ap, qfl2_ap, qcp1_ap, qcp2_ap, false_and, true_and, and_true, and_false, and_self, if_false, if_true, reduceIte, Nat.reduceEqDiff, Int.reduceEq, Int.reduceNeg]))
            | (exfalso; omega)
            | with_reducible refine qW_bind ?_
            | (with_reducible refine qW_bnd ?_; try simp only [qw_ap, qfl1_ap, qfl2_ap, qcp1_ap, qcp2_ap, false_and, true_and, and_true, and_false, and_self, if_false, if_true, reduceIte, Nat.reduceEqDiff, Int.reduceEq, Int.reduceNeg])
            | (with_reducible refine qW_some ?_; (try dsimp only); try simp only [qw_ap, qfl1_ap, qfl2_ap, qcp1_ap, qcp2_ap, false_and, true_and, and_true, and_false, and_self, if_false, if_true, reduceIte, Nat.reduceEqDiff, Int.reduceEq, Int.reduceNeg])
            | ((with_reducible refine qW_no ?_); omega)
            | with_reducible refine qW_pos rfl ?_
            | ((with_reducible refine qW_pos ?_ ?_); omega)
            | ((with_reducible refine qW_neg ?_ ?_); (first | omega | decide))
            | with_reducible refine qW_ite (fun _ => ?_) (fun _ => ?_)
            | dsimp only
          all_goals first
            | exact ⟨fun x => absurd x (by decide), LNA_K h⟩
            | exact ⟨mv_o (by decide) (by decide), fun _ => rfl, LNA_A ⟨fin, al⟩⟩
        · rw [g, if_neg (by decide)] at eC eR
          unfold qf_L_move qf_L_move_J18 qf_X11_move qf_X11_move_J25 qf_X11_move_J26 qf_X11_move_J41 qf_X11_isLine qf_X18_move qf_X18_move_J32 qf_X18_move_J33 qf_X18_move_J45
          repeat' first
            | ((with_reducible refine qW_eq eS ?_); (try dsimp only))
            | ((with_reducible refine qW_eq eG ?_); (try dsimp only))
            | ((with_reducible refine qW_eq eC ?_); (try dsimp only))
            | ((with_reducible refine qW_eq eR ?_); (try dsimp only))
            | with_reducible refine qW_pos (Or.inl trivial) ?_
            | with_reducible refine qW_pos (Or.inr trivial) ?_
            | with_reducible refine qW_within (fun _ => ?_) (fun _ _ => ?_)
            | with_reducible refine qW_isIn (fun _ => ?_) (fun _ _ => ?_)
            | with_reducible refine qW_na (fun _ => ?_) (fun _ => ?_)
            | with_reducible refine qW_ns (fun _ => ?_) (fun _ => ?_)
            | (with_reducible refine qW_goes (fun _ => ?_) (fun _ _ => ?_) (fun _ _ => ?_) <;> (try dsimp only) <;> (try simp only [qw_ap, qfl1_ap, qfl2_ap, qcp1_ap, qcp2_ap, false_and, true_and, and_true, and_false, and_self, if_false, if_true, reduceIte, Nat.reduceEqDiff, Int.reduceEq, Int.reduceNeg]))
            | (with_reducible refine qW_stays (by omega) (fun _ => ?_) (fun _ => ?_) <;> (try dsimp only) <;> (try simp only [qw_ap, qfl1_ap, qfl2_ap, qcp1_ap, qcp2_ap, false_and, true_and, and_true, and_false, and_self, if_false, if_true, reduceIte, Nat.reduceEqDiff, Int.reduceEq, Int.reduceNeg]))
            | (exfalso; omega)
            | with_reducible refine qW_bind ?_
            | (with_reducible refine qW_bnd ?_; try simp only [qw_ap, qfl1_ap, qfl2_ap, qcp1_ap, qcp2_ap, false_and, true_and, and_true, and_false, and_self, if_false, if_true, reduceIte, Nat.reduceEqDiff, Int.reduceEq, Int.reduceNeg])
            | (with_reducible refine qW_some ?_; (try dsimp only); try simp only [qw_ap, qfl1_ap, qfl2_ap, qcp1_ap, qcp2_ap, false_and, true_and, and_true, and_false, and_self, if_false, if_true, reduceIte, Nat.reduceEqDiff, Int.reduceEq, Int.reduceNeg])
            | ((with_reducible refine qW_no ?_); omega)
            | with_reducible refine qW_pos rfl ?_
            | ((with_reducible refine qW_pos ?_ ?_); omega)
            | ((with_reducible refine qW_neg ?_ ?_); (first | omega | decide))
            | with_reducible refine qW_ite (fun _ => ?_) (fun _ => ?_)
            | dsimp only
          all_goals first
            | exact ⟨fun x => absurd x (by decide), LNA_K h⟩
            | exact ⟨fun _ => rfl, LNA_A (LNA_K h)⟩
      · clear q lb
        unfold qf_L_move qf_L_move_J18 qf_X11_move qf_X11_move_J25 qf_X11_move_J26 qf_X11_move_J41 qf_X11_isLine qf_X18_move qf_X18_move_J32 qf_X18_move_J33 qf_X18_move_J45
        repeat' first
          | ((with_reducible refine qW_eq eS ?_); (try dsimp only))
          | ((with_reducible refine qW_eq eG ?_); (try dsimp only))
          | with_reducible refine qW_pos (Or.inl trivial) ?_
          | with_reducible refine qW_pos (Or.inr trivial) ?_
          | with_reducible refine qW_within (fun _ => ?_) (fun _ _ => ?_)
          | with_reducible refine qW_isIn (fun _ => ?_) (fun _ _ => ?_)
          | with_reducible refine qW_na (fun _ => ?_) (fun _ => ?_)
          | with_reducible refine qW_ns (fun _ => ?_) (fun _ => ?_)
          | (with_reducible refine qW_goes (fun _ => ?_) (fun _ _ => ?_) (fun _ _ => ?_) <;> (try dsimp only) <;> (try simp only [qw_ap, qfl1_ap, qfl2_ap, qcp1_ap, qcp2_ap, false_and, true_and, and_true, and_false, and_self, if_false, if_true, reduceIte, Nat.reduceEqDiff, Int.reduceEq, Int.reduceNeg]))
          | (with_reducible refine qW_stays (by omega) (fun _ => ?_) (fun _ => ?_) <;> (try dsimp only) <;> (try simp only [qw_ap, qfl1_ap, qfl2_ap, qcp1_ap, qcp2_ap, false_and, true_and, and_true, and_false, and_self, if_false, if_true, reduceIte, Nat.reduceEqDiff, Int.reduceEq, Int.reduceNeg]))
          | (exfalso; omega)
          | with_reducible refine qW_bind ?_
          | (with_reducible refine qW_bnd ?_; try simp only [qw_ap, qfl1_ap, qfl2_ap, qcp1_ap, qcp2_ap, false_and, true_and, and_true, and_false, and_self, if_false, if_true, reduceIte, Nat.reduceEqDiff, Int.reduceEq, Int.reduceNeg])
          | (with_reducible refine qW_some ?_; (try dsimp only); try simp only [qw_ap, qfl1_ap, qfl2_ap, qcp1_ap, qcp2_ap, false_and, true_and, and_true, and_false, and_self, if_false, if_true, reduceIte, Nat.reduceEqDiff, Int.reduceEq, Int.reduceNeg])
          | ((with_reducible refine qW_no ?_); omega)
          | with_reducible refine qW_pos rfl ?_
          | ((with_reducible refine qW_pos ?_ ?_); omega)
          | ((with_reducible refine qW_neg ?_ ?_); (first | omega | decide))
          | with_reducible refine qW_ite (fun _ => ?_) (fun _ => ?_)
          | dsimp only
        all_goals exact ⟨fun x => absurd x (by decide), LNA_K h⟩
    · rw [b01_f hg] at eS eG
      clear q lb
      unfold qf_L_move qf_L_move_J18 qf_X11_move qf_X11_move_J25 qf_X11_move_J26 qf_X11_move_J41 qf_X11_isLine qf_X18_move qf_X18_move_J32 qf_X18_move_J33 qf_X18_move_J45
      repeat' first
        | ((with_reducible refine qW_eq eS ?_); (try dsimp only))
        | ((with_reducible refine qW_eq eG ?_); (try dsimp only))
        | with_reducible refine qW_pos (Or.inl trivial) ?_
        | with_reducible refine qW_pos (Or.inr trivial) ?_
        | with_reducible refine qW_within (fun _ => ?_) (fun _ _ => ?_)
        | with_reducible refine qW_isIn (fun _ => ?_) (fun _ _ => ?_)
        | with_reducible refine qW_na (fun _ => ?_) (fun _ => ?_)
        | with_reducible refine qW_ns (fun _ => ?_) (fun _ => ?_)
        | (with_reducible refine qW_goes (fun _ => ?_) (fun _ _ => ?_) (fun _ _ => ?_) <;> (try dsimp only) <;> (try simp only [qw_ap, qfl1_ap, qfl2_ap, qcp1_ap, qcp2_ap, false_and, true_and, and_true, and_false, and_self, if_false, if_true, reduceIte, Nat.reduceEqDiff, Int.reduceEq, Int.reduceNeg]))
        | (with_reducible refine qW_stays (by omega) (fun _ => ?_) (fun _ => ?_) <;> (try dsimp only) <;> (try simp only [qw_ap, qfl1_ap, qfl2_ap, qcp1_ap, qcp2_ap, false_and, true_and, and_true, and_false, and_self, if_false, if_true, reduceIte, Nat.reduceEqDiff, Int.reduceEq, Int.reduceNeg]))
        | (exfalso; omega)
        | with_reducible refine qW_bind ?_
        | (with_reducible refine qW_bnd ?_; try simp only [qw_ap, qfl1_ap, qfl2_ap, qcp1_ap, qcp2_ap, false_and, true_and, and_true, and_false, and_self, if_false, if_true, reduceIte, Nat.reduceEqDiff, Int.reduceEq, Int.reduceNeg])
        | (with_reducible refine qW_some ?_; (try dsimp only); try simp only [qw_ap, qfl1_ap, qfl2_ap, qcp1_ap, qcp2_ap, false_and, true_and, and_true, and_false, and_self, if_false, if_true, reduceIte, Nat.reduceEqDiff, Int.reduceEq, Int.reduceNeg])
        | ((with_reducible refine qW_no ?_); omega)
        | with_reducible refine qW_pos rfl ?_
        | ((with_reducible refine qW_pos ?_ ?_); omega)
        | ((with_reducible refine qW_neg ?_ ?_); (first | omega | decide))
        | with_reducible refine qW_ite (fun _ => ?_) (fun _ => ?_)
        | dsimp only
      all_goals exact ⟨fun x => absurd x (by decide), LNA_K h⟩
  · unfold qf_L_move qf_L_move_J18 qf_X11_move qf_X11_move_J25 qf_X11_move_J26 qf_X11_move_J41 qf_X11_isLine qf_X18_move qf_X18_move_J32 qf_X18_move_J33 qf_X18_move_J45
    repeat' first
      | with_reducible refine qW_pos (Or.inl trivial) ?_
      | with_reducible refine qW_pos (Or.inr trivial) ?_
      | with_reducible refine qW_within (fun _ => ?_) (fun _ _ => ?_)
      | with_reducible refine qW_isIn (fun _ => ?_) (fun _ _ => ?_)
      | with_reducible refine qW_na (fun _ => ?_) (fun _ => ?_)
      | with_reducible refine qW_ns (fun _ => ?_) (fun _ => ?_)
      | (with_reducible refine qW_goes (fun _ => ?_) (fun _ _ => ?_) (fun _ _ => ?_) <;> (try dsimp only) <;> (try simp only [qw_ap, qfl1_ap, qfl2_ap, qcp1_ap, qcp2_ap, false_and, true_and, and_true, and_false, and_self, if_false, if_true, reduceIte, Nat.reduceEqDiff, Int.reduceEq, Int.reduceNeg]))
      | (with_reducible refine qW_stays (by omega) (fun _ => ?_) (fun _ => ?_) <;> (try dsimp only) <;> (try simp only [qw_ap, qfl1_ap, qfl2_ap, qcp1_ap, qcp2_ap, false_and, true_and, and_true, and_false, and_self, if_false, if_true, reduceIte, Nat.reduceEqDiff, Int.reduceEq, Int.reduceNeg]))
      | (exfalso; omega)
      | with_reducible refine qW_bind ?_
      | (with_reducible refine qW_bnd ?_; try simp only [qw_ap, qfl1_ap, qfl2_ap, qcp1_ap, qcp2_ap, false_and, true_and, and_true, and_false, and_self, if_false, if_true, reduceIte, Nat.reduceEqDiff, Int.reduceEq, Int.reduceNeg])
      | (with_reducible refine qW_some ?_; (try dsimp only); try simp only [qw_ap, qfl1_ap, qfl2_ap, qcp1_ap, qcp2_ap, false_and, true_and, and_true, and_false, and_self, if_false, if_true, reduceIte, Nat.reduceEqDiff, Int.reduceEq, Int.reduceNeg])
      | ((with_reducible refine qW_no ?_); omega)
      | with_reducible refine qW_pos rfl ?_
      | ((with_reducible refine qW_pos ?_ ?_); omega)
      | ((with_reducible refine qW_neg ?_ ?_); (first | omega | decide))
      | with_reducible refine qW_ite (fun _ => ?_) (fun _ => ?_)
      | dsimp only
    all_goals exact ⟨fun x => absurd x (by decide), LNA_K h⟩
end AL
