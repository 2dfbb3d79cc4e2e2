/-! ===== the class notes a portal ===== -/
section PB
variable {M K N A B C D D0 E F G H T V W K0 M0 : qm} {a b c d k n m p r s t u v x y h i j R S w l z hd e f nn : Int} {q stt cnt o aa : Int → Int} {P : Int → Prop}
def SCM (M N : qm) : Prop := ∀ b i j, b ≠ 824 → b ≠ 825 → b ≠ 826 → b ≠ 827 → N b i j = M b i j
def rmf (M : qm) (r : Int) : Int := if r = -1 then (M 51 3 0) else r
def POR (M N : qm) (j l d t : Int) : Prop := (N 825 (13 * j) 0) = rmf M (lef M l t) ∧ (N 825 (13 * j + 1) 0) = rmf M (rit M l t) ∧ (N 825 (13 * j + 2) 0) = l ∧ (N 825 (13 * j + 3) 0) = d ∧ (N 825 (13 * j + 4) 0) = (if dll M l = 0 then uxx M l t else uxx M l t - 1) ∧ (N 825 (13 * j + 5) 0) = uyy M l t ∧ (N 825 (13 * j + 6) 0) = uxx M l t ∧ (N 825 (13 * j + 7) 0) = (if dll M l = 0 then uyy M l t - 1 else uyy M l t) ∧ (N 825 (13 * j + 11) 0) = -1 ∧ (N 825 (13 * j + 8) 0) = 0 ∧ (N 825 (13 * j + 9) 0) = 0 ∧ (N 825 (13 * j + 10) 0) = 0 ∧ (N 825 (13 * j + 12) 0) = 0
theorem qw_one {b : Nat} : qw N b a 0 v b i 0 = if i = a then v else N b i 0 := by
  rw [qw_ap]
  by_cases g : i = a
  · rw [if_pos g, if_pos ⟨rfl, g, rfl⟩]
  · rw [if_neg g, if_neg (by omega)]
/-- where a unit lies, read from the class -/
theorem unit_e (h_lines : R_lines M K) (h_ends : R_ends M K) (l0 : 0 ≤ l) (l1 : l < (M 7 0 0)) (t0 : 0 ≤ t) (t1 : t < lenC M l) (hN : SCM M N) : qf_X8_isLevel 20000 l N = some (if dll M l = 0 then 1 else 0) ∧ qf_X2_unitX 20000 l t N = some (uxx M l t) ∧ qf_X2_unitY 20000 l t N = some (uyy M l t) ∧ 0 ≤ uxx M l t ∧ uxx M l t ≤ 24 ∧ 0 ≤ uyy M l t ∧ uyy M l t ≤ 24 := by
  have s_lines := h_lines
  unfold R_lines at s_lines
  have eb := ends_b h_ends l0 l1
  unfold lenC at t1
  have c20 : 0 ≤ l ∧ l < 20 := ⟨l0, by omega⟩
  have e : ∀ j, N 8 l j = (M 8 l j) := fun j => hN _ _ _ (by decide) (by decide) (by decide) (by decide)
  by_cases g : (M 8 l 1) = (M 8 l 3)
  · have hx : qf_X2_unitX 20000 l t N = some ((M 8 l 0) + t) := by
      unfold qf_X2_unitX qf_X8_isLevel
      rw [if_pos c20, if_pos c20, if_pos c20, e, e, e, if_pos g]
      refine qW_e (qW_bind (qW_some ?_))
      rw [if_neg (by decide), w32_id (by omega) (by omega)]
      exact qW_some rfl
    have hy : qf_X2_unitY 20000 l t N = some (M 8 l 1) := by
      unfold qf_X2_unitY qf_X8_isLevel
      rw [if_pos c20, if_pos c20, if_pos c20, e, e, if_pos g]
      refine qW_e (qW_bind (qW_some ?_))
      rw [if_neg (by decide), w32_id (by omega) (by omega), Int.add_zero]
      exact qW_some rfl
    have hl : qf_X8_isLevel 20000 l N = some 1 := by
      unfold qf_X8_isLevel
      rw [if_pos c20, if_pos c20, e, e, if_pos g]
    have ux : uxx M l t = (M 8 l 0) + t := if_pos g
    have uy : uyy M l t = (M 8 l 1) := if_pos g
    have dl : dll M l = 0 := if_pos g
    rw [dl, ux, uy, if_pos rfl]
    exact ⟨hl, hx, hy, by omega, by omega, by omega, by omega⟩
  · have hx : qf_X2_unitX 20000 l t N = some (M 8 l 0) := by
      unfold qf_X2_unitX qf_X8_isLevel
      rw [if_pos c20, if_pos c20, if_pos c20, e, e, e, if_neg g]
      refine qW_e (qW_bind (qW_some ?_))
      rw [if_pos rfl, w32_id (by omega) (by omega), Int.add_zero]
      exact qW_some rfl
    have hy : qf_X2_unitY 20000 l t N = some ((M 8 l 1) + t) := by
      unfold qf_X2_unitY qf_X8_isLevel
      rw [if_pos c20, if_pos c20, if_pos c20, e, e, if_neg g]
      refine qW_e (qW_bind (qW_some ?_))
      rw [if_pos rfl, w32_id (by omega) (by omega)]
      exact qW_some rfl
    have hl : qf_X8_isLevel 20000 l N = some 0 := by
      unfold qf_X8_isLevel
      rw [if_pos c20, if_pos c20, e, e, if_neg g]
    have ux : uxx M l t = (M 8 l 0) := if_neg g
    have uy : uyy M l t = (M 8 l 1) + t := if_neg g
    have dl : dll M l = 1 := if_neg g
    rw [dl, ux, uy, if_neg (by decide)]
    exact ⟨hl, hx, hy, by omega, by omega, by omega, by omega⟩
theorem note_e (h_lines : R_lines M K) (h_ends : R_ends M K) (l0 : 0 ≤ l) (l1 : l < (M 7 0 0)) (t0 : 0 ≤ t) (t1 : t < lenC M l) (hN : SCM M N) (f0 : 0 ≤ f) (f1 : f < nn) (n1 : nn ≤ 1320) (hL : N 825 (-1) 0 = 13 * nn) : qW (qf_X0_notePortal 20000 f l t N) (fun o => SCM M o.2 ∧ (∀ b i j, b ≠ 825 → o.2 b i j = N b i j) ∧ ∀ i, o.2 825 i 0 = if i = 13 * f + 11 then -1 else if i = 13 * f + 7 then (if dll M l = 0 then uyy M l t - 1 else uyy M l t) else if i = 13 * f + 6 then uxx M l t else if i = 13 * f + 5 then uyy M l t else if i = 13 * f + 4 then (if dll M l = 0 then uxx M l t else uxx M l t - 1) else if i = 13 * f + 2 then l else N 825 i 0) := by
  obtain ⟨hl, hx, hy, b1, b2, b3, b4⟩ := unit_e h_lines h_ends l0 l1 t0 t1 hN
  obtain ⟨X, hX⟩ : ∃ X, uxx M l t = X := ⟨_, rfl⟩
  obtain ⟨Y, hY⟩ : ∃ Y, uyy M l t = Y := ⟨_, rfl⟩
  rw [hX] at b1 b2 hx ⊢
  rw [hY] at b3 b4 hy ⊢
  unfold qf_X0_notePortal qf_X0_notePortal_J70 qf_X0_notePortal_J121
  refine qW_eq hl (qW_eq hx (qW_eq hy ?_))
  rw [w32_id (x := f * 13) (by omega) (by omega), w32_id (x := f * 13 + 2) (by omega) (by omega), w32_id (x := f * 13 + 4) (by omega) (by omega), w32_id (x := f * 13 + 4 + 1) (by omega) (by omega), w32_id (x := f * 13 + 6) (by omega) (by omega), w32_id (x := f * 13 + 6 + 1) (by omega) (by omega), w32_id (x := f * 13 + 11) (by omega) (by omega), w32_id (x := X - 1) (by omega) (by omega), w32_id (x := Y - 1) (by omega) (by omega), show f * 13 = 13 * f by omega, show 13 * f + 4 + 1 = 13 * f + 5 by omega, show 13 * f + 6 + 1 = 13 * f + 7 by omega]
  have q1 : ∀ (W : qm) (a v : Int), 0 ≤ a → qw W 825 a 0 v 825 (-1) 0 = W 825 (-1) 0 := fun W a v a0 => by
    rw [qw_one, if_neg (by omega)]
  have go : ∀ (va vb : Int), (SCM M (qw (qw (qw (qw (qw (qw N 825 (13 * f + 2) 0 l) 825 (13 * f + 4) 0 va) 825 (13 * f + 5) 0 Y) 825 (13 * f + 6) 0 X) 825 (13 * f + 7) 0 vb) 825 (13 * f + 11) 0 (-1))) ∧ (∀ b i j, b ≠ 825 → qw (qw (qw (qw (qw (qw N 825 (13 * f + 2) 0 l) 825 (13 * f + 4) 0 va) 825 (13 * f + 5) 0 Y) 825 (13 * f + 6) 0 X) 825 (13 * f + 7) 0 vb) 825 (13 * f + 11) 0 (-1) b i j = N b i j) ∧ ∀ i, qw (qw (qw (qw (qw (qw N 825 (13 * f + 2) 0 l) 825 (13 * f + 4) 0 va) 825 (13 * f + 5) 0 Y) 825 (13 * f + 6) 0 X) 825 (13 * f + 7) 0 vb) 825 (13 * f + 11) 0 (-1) 825 i 0 = if i = 13 * f + 11 then -1 else if i = 13 * f + 7 then vb else if i = 13 * f + 6 then X else if i = 13 * f + 5 then Y else if i = 13 * f + 4 then va else if i = 13 * f + 2 then l else N 825 i 0 := fun va vb => by
    have same : ∀ b i j, b ≠ 825 → qw (qw (qw (qw (qw (qw N 825 (13 * f + 2) 0 l) 825 (13 * f + 4) 0 va) 825 (13 * f + 5) 0 Y) 825 (13 * f + 6) 0 X) 825 (13 * f + 7) 0 vb) 825 (13 * f + 11) 0 (-1) b i j = N b i j := fun b i j hb => by
      rw [qw_a hb, qw_a hb, qw_a hb, qw_a hb, qw_a hb, qw_a hb]
    exact ⟨fun b i j h1 h2 h3 h4 => (same b i j h2).trans (hN b i j h1 h2 h3 h4), same, fun i => by rw [qw_one, qw_one, qw_one, qw_one, qw_one, qw_one]⟩
  have inb : ∀ a, 0 ≤ a → a ≤ 12 → 0 ≤ 13 * f + a ∧ 13 * f + a < 13 * nn := fun a _ _ => by omega
  rw [if_pos (by rw [hL]; exact inb 2 (by decide) (by decide))]
  refine qW_bnd ?_
  by_cases g : dll M l = 0
  · rw [if_pos g, if_pos g, if_pos g, if_neg (by decide), if_pos (by rw [q1 _ _ _ (by omega), hL]; exact inb 4 (by decide) (by decide))]
    refine qW_bnd ?_
    rw [if_pos (by rw [q1 _ _ _ (by omega), q1 _ _ _ (by omega), hL]; exact inb 5 (by decide) (by decide))]
    refine qW_bnd ?_
    rw [if_pos (by rw [q1 _ _ _ (by omega), q1 _ _ _ (by omega), q1 _ _ _ (by omega), hL]; exact inb 6 (by decide) (by decide))]
    refine qW_bnd ?_
    rw [if_neg (by decide), if_pos (by rw [q1 _ _ _ (by omega), q1 _ _ _ (by omega), q1 _ _ _ (by omega), q1 _ _ _ (by omega), hL]; exact inb 7 (by decide) (by decide))]
    refine qW_bnd ?_
    rw [if_pos (by rw [q1 _ _ _ (by omega), q1 _ _ _ (by omega), q1 _ _ _ (by omega), q1 _ _ _ (by omega), q1 _ _ _ (by omega), hL]; exact inb 11 (by decide) (by decide))]
    exact qW_bnd (qW_some (go X (Y - 1)))
  · rw [if_neg g, if_neg g, if_neg g, if_pos rfl, if_pos (by rw [q1 _ _ _ (by omega), hL]; exact inb 4 (by decide) (by decide))]
    refine qW_bnd ?_
    rw [if_pos (by rw [q1 _ _ _ (by omega), q1 _ _ _ (by omega), hL]; exact inb 5 (by decide) (by decide))]
    refine qW_bnd ?_
    rw [if_pos (by rw [q1 _ _ _ (by omega), q1 _ _ _ (by omega), q1 _ _ _ (by omega), hL]; exact inb 6 (by decide) (by decide))]
    refine qW_bnd ?_
    rw [if_pos rfl, if_pos (by rw [q1 _ _ _ (by omega), q1 _ _ _ (by omega), q1 _ _ _ (by omega), q1 _ _ _ (by omega), hL]; exact inb 7 (by decide) (by decide))]
    refine qW_bnd ?_
    rw [if_pos (by rw [q1 _ _ _ (by omega), q1 _ _ _ (by omega), q1 _ _ _ (by omega), q1 _ _ _ (by omega), q1 _ _ _ (by omega), hL]; exact inb 11 (by decide) (by decide))]
    exact qW_bnd (qW_some (go (X - 1) Y))
theorem setP_e (f0 : 0 ≤ f) (f1 : f < nn) (n1 : nn ≤ 1320) (w0 : 0 ≤ w) (w1 : w ≤ 12) (hL : N 825 (-1) 0 = 13 * nn) : qf_X0_setFact 20000 f w v N = some ((), qw N 825 (13 * f + w) 0 v) := by
  refine qW_e ?_
  unfold qf_X0_setFact
  rw [w32_id (x := f * 13) (by omega) (by omega), w32_id (x := f * 13 + w) (by omega) (by omega), show f * 13 + w = 13 * f + w by omega, if_pos (by rw [hL]; omega)]
  exact qW_bnd (qW_some rfl)
theorem roomFor_e (hN : SCM M N) : qf_X0_roomFor 20000 r N = some (rmf M r) := by
  refine qW_e ?_
  unfold qf_X0_roomFor rmf
  by_cases g : r = -1
  · rw [if_pos g, if_pos g]
    have e : (N 51 3 0) = (M 51 3 0) := hN _ _ _ (by decide) (by decide) (by decide) (by decide)
    exact qW_eq rfl (qW_some e)
  · rw [if_neg g, if_neg g]
    exact qW_some rfl
end PB
