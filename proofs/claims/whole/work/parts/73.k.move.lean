/-! ===== the call move, whole ===== -/
section MW
variable {M K : qm} {l f x y n hx hy x1 x2 x3 d e : Int}
theorem moveLine_r (h_lines : R_lines M K) (h_ends : R_ends M K) (l0 : 0 ≤ l) (l1 : l < (M 7 0 0)) (hf : (K 2160 l 0) = f) (hn : (K 2161 l 0) = n) (ex : x = (M 8 l 0) + d) (ey : y = (M 8 l 1) + e) (ehx : hx = if f = 0 then x else x + n) (ehy : hy = if f = 0 then y + n else y) (x0 : 0 ≤ x) (y0 : 0 ≤ y) (x24 : hx ≤ 24) (y24 : hy ≤ 24) : qf_X8_moveLine 20000 l d e M = some (if b01 (crE K (M 7 0 0) l f x y n) = 0 then (1, lnC M l x y hx hy) else (0, M)) := by
  have s_lines := h_lines
  unfold R_lines at s_lines
  have q := h_ends l l0 l1
  rw [hf, hn] at q
  have a : (M 8 l 2) + d = hx ∧ (M 8 l 3) + e = hy := by
    rw [ehx, ehy]
    rcases q.1 with g | g
    · rw [g, if_pos rfl, if_pos rfl] at q
      rw [g, if_pos rfl, if_pos rfl]
      omega
    · rw [g, if_neg (by decide), if_neg (by decide)] at q
      rw [g, if_neg (by decide), if_neg (by decide)]
      omega
  have b : x ≤ hx ∧ y ≤ hy := by
    rw [ehx, ehy]
    split <;> omega
  have eA := liesAlong_r (M := M) (K := K) (e := l) h_lines h_ends q.1 q.2.1 ehx ehy
  unfold qf_X8_moveLine
  rw [if_pos ⟨by omega, by omega⟩, ← ex, ← ey, a.1, a.2, w32_id (x := x) (by omega) (by omega), w32_id (x := y) (by omega) (by omega), w32_id (x := hx) (by omega) (by omega), w32_id (x := hy) (by omega) (by omega), eA, setEnds_r ⟨l0, by omega⟩]
  rcases b01_01 (p := crE K (M 7 0 0) l f x y n) with g | g
  · rw [g]
    rfl
  · rw [g]
    rfl
theorem mv_back {z : Int} (hz : (K 2157 10 0) = z) : qw (qw (qw (mvR K l x y) 2158 l 0 (K 2158 l 0)) 2159 l 0 (K 2159 l 0)) 2157 10 0 z = K := by
  rw [← hz]
  funext b i j
  unfold mvR
  simp only [qw_ap, false_and, true_and, and_true, and_false, and_self, if_false, if_true, reduceIte, Nat.reduceEqDiff, Int.reduceEq]
  by_cases g1 : b = 2157 ∧ i = 10 ∧ j = 0
  · rw [if_pos g1, g1.1, g1.2.1, g1.2.2]
  · rw [if_neg g1]
    by_cases g2 : b = 2159 ∧ i = l ∧ j = 0
    · rw [if_pos g2, g2.1, g2.2.1, g2.2.2]
    · rw [if_neg g2]
      by_cases g3 : b = 2158 ∧ i = l ∧ j = 0
      · rw [if_pos g3, g3.1, g3.2.1, g3.2.2]
      · rw [if_neg g3, if_neg g2, if_neg g3]
theorem move_r (h_lines : R_lines M K) (h_ends : R_ends M K) (h_find0 : R_find0 M K) (l0 : 0 ≤ l) (l1 : l < (M 7 0 0)) (hf : (K 2160 l 0) = f) (hn : (K 2161 l 0) = n) (ex : x = (M 8 l 0) + d) (ey : y = (M 8 l 1) + e) (x0 : 0 ≤ x) (y0 : 0 ≤ y) (x24 : x ≤ 24) (y24 : y ≤ 24) : qf_X16_move 20000 l d e K = some (if b01 (crE K (M 7 0 0) l f x y n) = 0 then (1, qw (mvR K l x y) 2157 10 0 0) else (0, K)) := by
  have s_lines := h_lines
  unfold R_lines at s_lines
  have s_find0 := h_find0
  unfold R_find0 at s_find0
  have q := h_ends l l0 l1
  obtain ⟨px, hpx⟩ : ∃ v, (K 2158 l 0) = v := ⟨_, rfl⟩
  obtain ⟨py, hpy⟩ : ∃ v, (K 2159 l 0) = v := ⟨_, rfl⟩
  obtain ⟨fr, hfr⟩ : ∃ v, (K 2157 10 0) = v := ⟨_, rfl⟩
  have b1 : px ≤ 24 ∧ py ≤ 24 := by
    rcases q.1 with g | g
    · rw [g, if_pos rfl, if_pos rfl] at q
      omega
    · rw [g, if_neg (by decide), if_neg (by decide)] at q
      omega
  have hx : x = px + d := by omega
  have hy : y = py + e := by omega
  have eA := mvAlone_r (M := M) (K := K) h_lines h_ends l0 l1 x0 y0 x24 y24
  have bk := mv_back (K := K) (l := l) (x := x) (y := y) hfr
  rw [hpx, hpy] at bk
  rw [hf, hn] at eA
  have a1 : (qw K 2158 l 0 x) 2159 l 0 = py := by
    simp only [qw_ap, false_and, true_and, and_true, and_false, and_self, if_false, if_true, reduceIte, Nat.reduceEqDiff, Int.reduceEq]
    exact hpy
  have a2 : (mvR K l x y) 2158 l 0 = x := by
    have z := (mv_at (K := K) (l := l) (x := x) (y := y) (i := l)).1
    rw [if_pos rfl] at z
    exact z
  have a3 : ∀ v, (qw (mvR K l x y) 2158 l 0 v) 2159 l 0 = y := by
    intro v
    have z := (mv_at (K := K) (l := l) (x := x) (y := y) (i := l)).2
    rw [if_pos rfl] at z
    rw [qw_a (by decide)]
    exact z
  have a4 : ∀ v w, (qw (qw (mvR K l x y) 2158 l 0 v) 2159 l 0 w) 2157 10 0 = fr := by
    intro v w
    rw [qw_a (by decide), qw_a (by decide), mv_o (by decide) (by decide)]
    exact hfr
  have hl : 0 ≤ l ∧ l < 20 := ⟨l0, by omega⟩
  have n24 : n ≤ 24 := by
    rcases q.1 with g | g
    · rw [g, if_pos rfl, if_pos rfl] at q
      omega
    · rw [g, if_neg (by decide), if_neg (by decide)] at q
      omega
  have hu : mvR K l x y = qw (qw K 2158 l 0 x) 2159 l 0 y := rfl
  rcases b01_01 (p := crE K (M 7 0 0) l f x y n) with g | g
  · rw [g] at eA
    rw [g]
    refine qW_e ?_
    unfold qf_X16_move qf_X16_move_J44 qf_X16_move_J63 qf_X16_move_J82
    rw [hpx, ← hx, w32_id (x := x) (by omega) (by omega)]
    simp only [hl, true_and, and_true, and_self, if_true, reduceIte]
    refine qW_bnd ?_
    (try dsimp only)
    rw [a1, ← hy, w32_id (x := y) (by omega) (by omega), ← hu]
    refine qW_bnd ?_
    (try dsimp only)
    rw [eA]
    refine qW_bind (qW_some ?_)
    (try dsimp only)
    simp only [hl, true_and, and_true, and_self, if_true, reduceIte, Int.reduceEq, if_false]
    rw [a2, w32_id (x := x - 0) (by omega) (by omega)]
    refine qW_bnd ?_
    (try dsimp only)
    rw [a3, w32_id (x := y - 0) (by omega) (by omega)]
    refine qW_bnd ?_
    (try dsimp only)
    have hb2 : qw (qw (mvR K l x y) 2158 l 0 (x - 0)) 2159 l 0 (y - 0) = mvR K l x y := by
      rw [Int.sub_zero, Int.sub_zero]
      funext b i j
      rw [hu]
      simp only [qw_ap, false_and, true_and, and_true, and_false, and_self, if_false, if_true, reduceIte, Nat.reduceEqDiff, Int.reduceEq]
      by_cases g2 : b = 2159 ∧ i = l ∧ j = 0
      · rw [if_pos g2, if_pos g2]
      · rw [if_neg g2, if_neg g2]
        by_cases g3 : b = 2158 ∧ i = l ∧ j = 0
        · rw [if_pos g3, if_pos g3]
        · rw [if_neg g3, if_neg g3]
    rw [hb2]
    refine qW_ite (fun _ => ?_) (fun _ => ?_)
    · refine qW_bnd ?_
      (try dsimp only)
      refine qW_pos (Or.inr trivial) ?_
      exact qW_some rfl
    · refine qW_bnd ?_
      (try dsimp only)
      refine qW_pos (Or.inr trivial) ?_
      exact qW_some rfl
  · rw [g] at eA
    rw [g]
    refine qW_e ?_
    unfold qf_X16_move qf_X16_move_J44 qf_X16_move_J63 qf_X16_move_J82
    rw [hpx, ← hx, w32_id (x := x) (by omega) (by omega)]
    simp only [hl, true_and, and_true, and_self, if_true, reduceIte]
    refine qW_bnd ?_
    (try dsimp only)
    rw [a1, ← hy, w32_id (x := y) (by omega) (by omega), ← hu]
    refine qW_bnd ?_
    (try dsimp only)
    rw [eA]
    refine qW_bind (qW_some ?_)
    (try dsimp only)
    simp only [hl, true_and, and_true, and_self, if_true, reduceIte, Int.reduceEq, if_false]
    rw [a2, w32_id (x := x - d) (by omega) (by omega)]
    refine qW_bnd ?_
    (try dsimp only)
    rw [a3, w32_id (x := y - e) (by omega) (by omega), show x - d = px by omega, show y - e = py by omega]
    refine qW_bnd ?_
    (try dsimp only)
    rw [a4]
    refine qW_ite (fun gz => ?_) (fun gz => ?_)
    · rw [gz] at bk
      rw [bk]
      refine qW_bnd ?_
      (try dsimp only)
      refine qW_pos (Or.inl trivial) ?_
      exact qW_some rfl
    · rw [show fr = 1 by omega] at bk
      rw [bk]
      refine qW_bnd ?_
      (try dsimp only)
      refine qW_pos (Or.inl trivial) ?_
      exact qW_some rfl
theorem op_move (h_built : R_built M K) (h : LNT M K) (hx2 : -2147483648 ≤ x2 ∧ x2 ≤ 2147483647) (hx3 : -2147483648 ≤ x3 ∧ x3 ≤ 2147483647) : oK2 cB (qf_L_move 20000 x1 x2 x3 M) (qf_X18_move 20000 x1 x2 x3 K) (fun M' K' => LNT M' K') := by
  have s_built := h_built
  unfold R_built at s_built
  have h_lines := h.1
  have h_ends := h.2.1
  have h_find0 := h.2.2.2.2.1
  have s_lines := h_lines
  unfold R_lines at s_lines
  have hw : w32 ((M 7 0 0) - 1) = (M 7 0 0) - 1 := w32_id (by omega) (by omega)
  unfold oK2
  by_cases hl : 0 ≤ x1 ∧ x1 < (M 7 0 0)
  · obtain ⟨l0, l1⟩ := hl
    have hl20 : x1 < 20 := by omega
    have q := h_ends x1 l0 l1
    obtain ⟨f, hf⟩ : ∃ v, (K 2160 x1 0) = v := ⟨_, rfl⟩
    obtain ⟨n, hn⟩ : ∃ v, (K 2161 x1 0) = v := ⟨_, rfl⟩
    obtain ⟨c0, hc0⟩ : ∃ v, (M 8 x1 0) = v := ⟨_, rfl⟩
    obtain ⟨c1, hc1⟩ : ∃ v, (M 8 x1 1) = v := ⟨_, rfl⟩
    obtain ⟨c2, hc2⟩ : ∃ v, (M 8 x1 2) = v := ⟨_, rfl⟩
    obtain ⟨c3, hc3⟩ : ∃ v, (M 8 x1 3) = v := ⟨_, rfl⟩
    have r0 : (K 2158 x1 0) = c0 := by omega
    have r1 : (K 2159 x1 0) = c1 := by omega
    have i2 : c2 = if f = 0 then c0 else c0 + n := by
      rw [hf, hn] at q
      rcases q.1 with g | g
      · rw [g, if_pos rfl]
        rw [g, if_pos rfl, if_pos rfl] at q
        omega
      · rw [g, if_neg (by decide)]
        rw [g, if_neg (by decide), if_neg (by decide)] at q
        omega
    have i3 : c3 = if f = 0 then c1 + n else c1 := by
      rw [hf, hn] at q
      rcases q.1 with g | g
      · rw [g, if_pos rfl]
        rw [g, if_pos rfl, if_pos rfl] at q
        omega
      · rw [g, if_neg (by decide)]
        rw [g, if_neg (by decide), if_neg (by decide)] at q
        omega
    have lb := LB_of h_ends l0 l1
    have bs : 0 ≤ c0 ∧ c0 ≤ c2 ∧ c2 ≤ 24 ∧ 0 ≤ c1 ∧ c1 ≤ c3 ∧ c3 ≤ 24 := by
      have n1 : 1 ≤ n := by omega
      have k1 : c0 ≤ c2 ∧ c1 ≤ c3 := by
        rw [i2, i3]
        split <;> omega
      omega
    have f01 : f = 0 ∨ f = 1 := by omega
    have eS := staysOn_r (M := M) (l := x1) (x2 := x2) (x3 := x3) l0 hl20 hx2 hx3 (by omega) (by omega) (by omega) (by omega)
    have eG := mayGo_r (K := K) (l := x1) (x2 := x2) (x3 := x3) (hx := c2) (hy := c3) l0 hl20 lb (by rw [hf, hn, r0]; exact i2) (by rw [hf, hn, r1]; exact i3) (by omega)
    rw [r0, r1] at eG
    rw [hc0, hc1, hc2, hc3] at eS
    by_cases hg : 0 ≤ c0 + x2 ∧ c2 + x2 ≤ 24 ∧ 0 ≤ c1 + x3 ∧ c3 + x3 ≤ 24
    · rw [b01_t hg] at eS eG
      by_cases hb : (M 6 11 0) = 0
      · have ihx : c2 + x2 = if f = 0 then c0 + x2 else c0 + x2 + n := by
          rcases f01 with g | g
          · rw [g, if_pos rfl] at i2 ⊢
            omega
          · rw [g, if_neg (by decide)] at i2 ⊢
            omega
        have ihy : c3 + x3 = if f = 0 then c1 + x3 + n else c1 + x3 := by
          rcases f01 with g | g
          · rw [g, if_pos rfl] at i3 ⊢
            omega
          · rw [g, if_neg (by decide)] at i3 ⊢
            omega
        have eC := moveLine_r (M := M) (K := K) (l := x1) (d := x2) (e := x3) (x := c0 + x2) (y := c1 + x3) h_lines h_ends l0 l1 hf hn (by rw [hc0]) (by rw [hc1]) ihx ihy hg.1 hg.2.2.1 hg.2.1 hg.2.2.2
        have eR := move_r (M := M) (K := qw K 2156 0 0 0) (l := x1) (d := x2) (e := x3) (f := f) (n := n) (x := c0 + x2) (y := c1 + x3) (R_lines_x (M := M) (K := K) rfl rfl h_lines) (R_ends_x (M := M) (K := K) rfl (fun _ _ => rfl) (fun _ _ => rfl) (fun _ _ => rfl) (fun _ _ => rfl) (fun _ _ => rfl) h_ends) (R_find0_x (M := M) (K := K) rfl rfl rfl rfl rfl h_find0) l0 l1 hf hn (by rw [hc0]) (by rw [hc1]) hg.1 hg.2.2.1 (by omega) (by omega)
        have hE : crE (qw K 2156 0 0 0) (M 7 0 0) x1 f (c0 + x2) (c1 + x3) n = crE K (M 7 0 0) x1 f (c0 + x2) (c1 + x3) n := rfl
        rw [hE] at eR
        have fin := move_ok (M := M) (K := qw K 2156 0 0 0) (l := x1) (x := c0 + x2) (y := c1 + x3) (hx := c2 + x2) (hy := c3 + x3) (LNT_K h) hb l0 l1 hg.1 hg.2.2.1 (by show _ = if (K 2160 x1 0) = 0 then c0 + x2 else c0 + x2 + (K 2161 x1 0); rw [hf, hn]; exact ihx) (by show _ = if (K 2160 x1 0) = 0 then c1 + x3 + (K 2161 x1 0) else c1 + x3; rw [hf, hn]; exact ihy) hg.2.1 hg.2.2.2
        clear q lb
        rcases b01_01 (p := crE K (M 7 0 0) x1 f (c0 + x2) (c1 + x3) n) with g | g
        · rw [g, if_pos rfl] at eC eR
          unfold qf_L_move qf_L_move_J18 qf_X11_move qf_X11_move_J25 qf_X11_move_J26 qf_X11_move_J41 qf_X11_isLine qf_X18_move qf_X18_move_J32 qf_X18_move_J33 qf_X18_move_J45
          repeat' first
            | ((with_reducible refine qW_eq eS ?_); (try dsimp only))
            | ((with_reducible refine qW_eq eG ?_); (try dsimp only))
            | ((with_reducible refine qW_eq eC ?_); (try dsimp only))
            | ((with_reducible refine qW_eq eR ?_); (try dsimp only))
            | with_reducible refine qW_pos (Or.inl trivial) ?_
            | with_reducible refine qW_pos (Or.inr trivial) ?_
            | with_reducible refine qW_within (fun _ => ?_) (fun _ _ => ?_)
            | with_reducible refine qW_isIn (fun _ => ?_) (fun _ _ => ?_)
            | with_reducible refine qW_na (fun _ => ?_) (fun _ => ?_)
            | with_reducible refine qW_ns (fun _ => ?_) (fun _ => ?_)
            | (with_reducible refine qW_goes (fun _ => ?_) (fun _ _ => ?_) (fun _ _ => ?_) <;> (try dsimp only) <;> (try simp only [qw_ap, qfl1_ap, qfl2_ap, qcp1_ap, qcp2_ap, false_and, true_and, and_true, and_false, and_self, if_false, if_true, reduceIte, Nat.reduceEqDiff, Int.reduceEq, Int.reduceNeg]))
            | (with_reducible refine qW_stays (by omega) (fun _ => ?_) (fun _ => ?_) <;> (try dsimp only) <;> (try simp only [qw_ap, qfl1_ap, qfl2_ap, qcp1_ap, qcp2_ap, false_and, true_and, and_true, and_false, and_self, if_false, if_true, reduceIte, Nat.reduceEqDiff, Int.reduceEq, Int.reduceNeg]))
            | (exfalso; omega)
            | with_reducible refine qW_bind ?_
            | (with_reducible refine qW_bnd ?_; try simp only [qw_ap, qfl1_ap, qfl2_ap, qcp1_ap, qcp2_ap, false_and, true_and, and_true, and_false, and_self, if_false, if_true, reduceIte, Nat.reduceEqDiff, Int.reduceEq, Int.reduceNeg])
            | (with_reducible refine qW_some ?_; (try dsimp only); try simp only [qw_ap, qfl1_ap, qfl2_ap, qcp1_ap, qcp2_ap, false_and, true_and, and_true, and_false, and_self, if_false, if_true, reduceIte, Nat.reduceEqDiff, Int.reduceEq, Int.reduceNeg])
            | ((with_reducible refine qW_no ?_); omega)
            | with_reducible refine qW_pos rfl ?_
            | ((with_reducible refine qW_pos ?_ ?_); omega)
            | ((with_reducible refine qW_neg ?_ ?_); (first | omega | decide))
            | with_reducible refine qW_ite (fun _ => ?_) (fun _ => ?_)
            | dsimp only
          all_goals first
            | exact ⟨fun x => absurd x (by decide), LNT_K h⟩
            | exact ⟨mv_o (by decide) (by decide), fun _ => rfl, LNT_A fin⟩
        · rw [g, if_neg (by decide)] at eC eR
          unfold qf_L_move qf_L_move_J18 qf_X11_move qf_X11_move_J25 qf_X11_move_J26 qf_X11_move_J41 qf_X11_isLine qf_X18_move qf_X18_move_J32 qf_X18_move_J33 qf_X18_move_J45
          repeat' first
            | ((with_reducible refine qW_eq eS ?_); (try dsimp only))
            | ((with_reducible refine qW_eq eG ?_); (try dsimp only))
            | ((with_reducible refine qW_eq eC ?_); (try dsimp only))
            | ((with_reducible refine qW_eq eR ?_); (try dsimp only))
            | with_reducible refine qW_pos (Or.inl trivial) ?_
            | with_reducible refine qW_pos (Or.inr trivial) ?_
            | with_reducible refine qW_within (fun _ => ?_) (fun _ _ => ?_)
            | with_reducible refine qW_isIn (fun _ => ?_) (fun _ _ => ?_)
            | with_reducible refine qW_na (fun _ => ?_) (fun _ => ?_)
            | with_reducible refine qW_ns (fun _ => ?_) (fun _ => ?_)
            | (with_reducible refine qW_goes (fun _ => ?_) (fun _ _ => ?_) (fun _ _ => ?_) <;> (try dsimp only) <;> (try simp only [qw_ap, qfl1_ap, qfl2_ap, qcp1_ap, qcp2_ap, false_and, true_and, and_true, and_false, and_self, if_false, if_true, reduceIte, Nat.reduceEqDiff, Int.reduceEq, Int.reduceNeg]))
            | (with_reducible refine qW_stays (by omega) (fun _ => ?_) (fun _ => ?_) <;> (try dsimp only) <;> (try simp only [qw_ap, qfl1_ap, qfl2_ap, qcp1_ap, qcp2_ap, false_and, true_and, and_true, and_false, and_self, if_false, if_true, reduceIte, Nat.reduceEqDiff, Int.reduceEq, Int.reduceNeg]))
            | (exfalso; omega)
            | with_reducible refine qW_bind ?_
            | (with_reducible refine qW_bnd ?_; try simp only [qw_ap, qfl1_ap, qfl2_ap, qcp1_ap, qcp2_ap, false_and, true_and, and_true, and_false, and_self, if_false, if_true, reduceIte, Nat.reduceEqDiff, Int.reduceEq, Int.reduceNeg])
            | (with_reducible refine qW_some ?_; (try dsimp only); try simp only [qw_ap, qfl1_ap, qfl2_ap, qcp1_ap, qcp2_ap, false_and, true_and, and_true, and_false, and_self, if_false, if_true, reduceIte, Nat.reduceEqDiff, Int.reduceEq, Int.reduceNeg])
            | ((with_reducible refine qW_no ?_); omega)
            | with_reducible refine qW_pos rfl ?_
            | ((with_reducible refine qW_pos ?_ ?_); omega)
            | ((with_reducible refine qW_neg ?_ ?_); (first | omega | decide))
            | with_reducible refine qW_ite (fun _ => ?_) (fun _ => ?_)
            | dsimp only
          all_goals first
            | exact ⟨fun x => absurd x (by decide), LNT_K h⟩
            | exact ⟨fun _ => rfl, LNT_A (LNT_K h)⟩
      · clear q lb
        unfold qf_L_move qf_L_move_J18 qf_X11_move qf_X11_move_J25 qf_X11_move_J26 qf_X11_move_J41 qf_X11_isLine qf_X18_move qf_X18_move_J32 qf_X18_move_J33 qf_X18_move_J45
        repeat' first
          | ((with_reducible refine qW_eq eS ?_); (try dsimp only))
          | ((with_reducible refine qW_eq eG ?_); (try dsimp only))
          | with_reducible refine qW_pos (Or.inl trivial) ?_
          | with_reducible refine qW_pos (Or.inr trivial) ?_
          | with_reducible refine qW_within (fun _ => ?_) (fun _ _ => ?_)
          | with_reducible refine qW_isIn (fun _ => ?_) (fun _ _ => ?_)
          | with_reducible refine qW_na (fun _ => ?_) (fun _ => ?_)
          | with_reducible refine qW_ns (fun _ => ?_) (fun _ => ?_)
          | (with_reducible refine qW_goes (fun _ => ?_) (fun _ _ => ?_) (fun _ _ => ?_) <;> (try dsimp only) <;> (try simp only [qw_ap, qfl1_ap, qfl2_ap, qcp1_ap, qcp2_ap, false_and, true_and, and_true, and_false, and_self, if_false, if_true, reduceIte, Nat.reduceEqDiff, Int.reduceEq, Int.reduceNeg]))
          | (with_reducible refine qW_stays (by omega) (fun _ => ?_) (fun _ => ?_) <;> (try dsimp only) <;> (try simp only [qw_ap, qfl1_ap, qfl2_ap, qcp1_ap, qcp2_ap, false_and, true_and, and_true, and_false, and_self, if_false, if_true, reduceIte, Nat.reduceEqDiff, Int.reduceEq, Int.reduceNeg]))
          | (exfalso; omega)
          | with_reducible refine qW_bind ?_
          | (with_reducible refine qW_bnd ?_; try simp only [qw_ap, qfl1_ap, qfl2_ap, qcp1_ap, qcp2_ap, false_and, true_and, and_true, and_false, and_self, if_false, if_true, reduceIte, Nat.reduceEqDiff, Int.reduceEq, Int.reduceNeg])
          | (with_reducible refine qW_some ?_; (try dsimp only); try simp only [qw_ap, qfl1_ap, qfl2_ap, qcp1_ap, qcp2_ap, false_and, true_and, and_true, and_false, and_self, if_false, if_true, reduceIte, Nat.reduceEqDiff, Int.reduceEq, Int.reduceNeg])
          | ((with_reducible refine qW_no ?_); omega)
          | with_reducible refine qW_pos rfl ?_
          | ((with_reducible refine qW_pos ?_ ?_); omega)
          | ((with_reducible refine qW_neg ?_ ?_); (first | omega | decide))
          | with_reducible refine qW_ite (fun _ => ?_) (fun _ => ?_)
          | dsimp only
        all_goals exact ⟨fun x => absurd x (by decide), LNT_K h⟩
    · rw [b01_f hg] at eS eG
      clear q lb
      unfold qf_L_move qf_L_move_J18 qf_X11_move qf_X11_move_J25 qf_X11_move_J26 qf_X11_move_J41 qf_X11_isLine qf_X18_move qf_X18_move_J32 qf_X18_move_J33 qf_X18_move_J45
      repeat' first
        | ((with_reducible refine qW_eq eS ?_); (try dsimp only))
        | ((with_reducible refine qW_eq eG ?_); (try dsimp only))
        | with_reducible refine qW_pos (Or.inl trivial) ?_
        | with_reducible refine qW_pos (Or.inr trivial) ?_
        | with_reducible refine qW_within (fun _ => ?_) (fun _ _ => ?_)
        | with_reducible refine qW_isIn (fun _ => ?_) (fun _ _ => ?_)
        | with_reducible refine qW_na (fun _ => ?_) (fun _ => ?_)
        | with_reducible refine qW_ns (fun _ => ?_) (fun _ => ?_)
        | (with_reducible refine qW_goes (fun _ => ?_) (fun _ _ => ?_) (fun _ _ => ?_) <;> (try dsimp only) <;> (try simp only [qw_ap, qfl1_ap, qfl2_ap, qcp1_ap, qcp2_ap, false_and, true_and, and_true, and_false, and_self, if_false, if_true, reduceIte, Nat.reduceEqDiff, Int.reduceEq, Int.reduceNeg]))
        | (with_reducible refine qW_stays (by omega) (fun _ => ?_) (fun _ => ?_) <;> (try dsimp only) <;> (try simp only [qw_ap, qfl1_ap, qfl2_ap, qcp1_ap, qcp2_ap, false_and, true_and, and_true, and_false, and_self, if_false, if_true, reduceIte, Nat.reduceEqDiff, Int.reduceEq, Int.reduceNeg]))
        | (exfalso; omega)
        | with_reducible refine qW_bind ?_
        | (with_reducible refine qW_bnd ?_; try simp only [qw_ap, qfl1_ap, qfl2_ap, qcp1_ap, qcp2_ap, false_and, true_and, and_true, and_false, and_self, if_false, if_true, reduceIte, Nat.reduceEqDiff, Int.reduceEq, Int.reduceNeg])
        | (with_reducible refine qW_some ?_; (try dsimp only); try simp only [qw_ap, qfl1_ap, qfl2_ap, qcp1_ap, qcp2_ap, false_and, true_and, and_true, and_false, and_self, if_false, if_true, reduceIte, Nat.reduceEqDiff, Int.reduceEq, Int.reduceNeg])
        | ((with_reducible refine qW_no ?_); omega)
        | with_reducible refine qW_pos rfl ?_
        | ((with_reducible refine qW_pos ?_ ?_); omega)
        | ((with_reducible refine qW_neg ?_ ?_); (first | omega | decide))
        | with_reducible refine qW_ite (fun _ => ?_) (fun _ => ?_)
        | dsimp only
      all_goals exact ⟨fun x => absurd x (by decide), LNT_K h⟩
  · unfold qf_L_move qf_L_move_J18 qf_X11_move qf_X11_move_J25 qf_X11_move_J26 qf_X11_move_J41 qf_X11_isLine qf_X18_move qf_X18_move_J32 qf_X18_move_J33 qf_X18_move_J45
    repeat' first
      | with_reducible refine qW_pos (Or.inl trivial) ?_
      | with_reducible refine qW_pos (Or.inr trivial) ?_
      | with_reducible refine qW_within (fun _ => ?_) (fun _ _ => ?_)
      | with_reducible refine qW_isIn (fun _ => ?_) (fun _ _ => ?_)
      | with_reducible refine qW_na (fun _ => ?_) (fun _ => ?_)
      | with_reducible refine qW_ns (fun _ => ?_) (fun _ => ?_)
      | (with_reducible refine qW_goes (fun _ => ?_) (fun _ _ => ?_) (fun _ _ => ?_) <;> (try dsimp only) <;> (try simp only [qw_ap, qfl1_ap, qfl2_ap, qcp1_ap, qcp2_ap, false_and, true_and, and_true, and_false, and_self, if_false, if_true, reduceIte, Nat.reduceEqDiff, Int.reduceEq, Int.reduceNeg]))
      | (with_reducible refine qW_stays (by omega) (fun _ => ?_) (fun _ => ?_) <;> (try dsimp only) <;> (try simp only [qw_ap, qfl1_ap, qfl2_ap, qcp1_ap, qcp2_ap, false_and, true_and, and_true, and_false, and_self, if_false, if_true, reduceIte, Nat.reduceEqDiff, Int.reduceEq, Int.reduceNeg]))
      | (exfalso; omega)
      | with_reducible refine qW_bind ?_
      | (with_reducible refine qW_bnd ?_; try simp only [qw_ap, qfl1_ap, qfl2_ap, qcp1_ap, qcp2_ap, false_and, true_and, and_true, and_false, and_self, if_false, if_true, reduceIte, Nat.reduceEqDiff, Int.reduceEq, Int.reduceNeg])
      | (with_reducible refine qW_some ?_; (try dsimp only); try simp only [qw_ap, qfl1_ap, qfl2_ap, qcp1_ap, qcp2_ap, false_and, true_and, and_true, and_false, and_self, if_false, if_true, reduceIte, Nat.reduceEqDiff, Int.reduceEq, Int.reduceNeg])
      | ((with_reducible refine qW_no ?_); omega)
      | with_reducible refine qW_pos rfl ?_
      | ((with_reducible refine qW_pos ?_ ?_); omega)
      | ((with_reducible refine qW_neg ?_ ?_); (first | omega | decide))
      | with_reducible refine qW_ite (fun _ => ?_) (fun _ => ?_)
      | dsimp only
    all_goals exact ⟨fun x => absurd x (by decide), LNT_K h⟩
end MW
