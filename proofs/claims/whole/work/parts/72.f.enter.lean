/-! ===== coming in by a portal, both sides ===== -/
noncomputable def peX (M : qm) (p room : Int) : Int := if room = (M 51 3 0) then -1 else if room = M 825 (13 * p) 0 then M 825 (13 * p + 4) 0 else M 825 (13 * p + 6) 0
noncomputable def peY (M : qm) (p room : Int) : Int := if room = (M 51 3 0) then -1 else if room = M 825 (13 * p) 0 then M 825 (13 * p + 5) 0 else M 825 (13 * p + 7) 0
def enC (M : qm) (q room x y t : Int) : qm := qw (qw (qw (qw M 761 q 0 room) 761 q 1 x) 761 q 2 y) 761 q 5 t
def enR (K : qm) (q room x y t : Int) : qm := qw (qw (qw (qw K 2306 q 0 room) 2307 q 0 x) 2308 q 0 y) 2311 q 0 t
section EN
variable {M K : qm} {q p room t x y : Int}
theorem putInto_r (hq : 0 ≤ q ∧ q < 40) : qf_X10_putInto 20000 q room x y t M = some ((), enC M q room (if room = (M 51 3 0) then -1 else x) (if room = (M 51 3 0) then -1 else y) t) := by
  unfold qf_X10_putInto qf_X10_outside qf_X10_putInto_J21 qf_X10_putInto_J41 qf_X10_putInto_J56
  rw [if_pos hq]
  show (if room = (M 51 3 0) then _ else _) = _
  by_cases e : room = (M 51 3 0)
  · rw [if_pos e, if_pos e, if_pos e]
    rfl
  · rw [if_neg e, if_neg e, if_neg e]
    rfl
theorem comeIn_r (h : pnM M) (p0 : 0 ≤ p) (p1 : p < (M 824 3 0)) (hq : 0 ≤ q ∧ q < 40) : qf_X0_comeIn 20000 q p room t M = some ((), enC M q room (peX M p room) (peY M p room) t) := by
  have j : ∀ f, 0 ≤ f → f < 12 → qf_X0_comeIn_J16 20000 q p room t f M = some ((), enC M q room (if room = (M 51 3 0) then -1 else M 825 (13 * p + f) 0) (if room = (M 51 3 0) then -1 else M 825 (13 * p + (f + 1)) 0) t) := by
    intro f f0 f1
    unfold qf_X0_comeIn_J16
    rw [w32_id (x := f + 1) (by omega) (by omega), factOf_r h p0 p1 f0 (by omega), factOf_r h p0 p1 (by omega) (by omega)]
    show (qf_X10_putInto 20000 q room _ _ t M).bind _ = _
    rw [putInto_r hq]
    rfl
  have e0 : qf_X0_factOf 20000 p 0 M = some (M 825 (13 * p) 0) := by
    rw [factOf_r h p0 p1 (by decide) (by decide), Int.add_zero]
  unfold qf_X0_comeIn
  rw [e0]
  show (if room = M 825 (13 * p) 0 then _ else _) = _
  unfold peX peY
  by_cases e : room = M 825 (13 * p) 0
  · rw [if_pos e, if_pos e, if_pos e]
    exact j 4 (by decide) (by decide)
  · rw [if_neg e, if_neg e, if_neg e]
    exact j 6 (by decide) (by decide)
theorem cellAt_q1 {l d f g v : Int} : qf_X16_cellAt 20000 l d f g (qw K 2306 q 0 v) = qf_X16_cellAt 20000 l d f g K := rfl
theorem cellAt_q2 {l d f g v : Int} : qf_X16_cellAt 20000 l d f g (qw K 2307 q 0 v) = qf_X16_cellAt 20000 l d f g K := rfl
theorem enter_r (h_lines : R_lines M K) (h_ends : R_ends M K) (h_portn : R_portn M K) (h_portw : R_portw M K) (h_portc : R_portc M K) (hz : (K 2156 9 0) = (M 51 3 0)) (p0 : 0 ≤ p) (p1 : p < (M 824 3 0)) (hq : 0 ≤ q ∧ q < 40) (hT : (K 2156 2 0) = t) : qf_X18_enter 20000 q p room K = some ((), enR K q room (peX M p room) (peY M p room) t) := by
  have s_portn := h_portn
  unfold R_portn at s_portn
  have hp14 : 0 ≤ p ∧ p < 1400 := by omega
  have w := h_portw p p0 p1
  have J103 : ∀ (N : qm) v, N 2156 2 0 = t → qf_X18_enter_J103 20000 q q v N = some ((), qw (qw N 2308 q 0 v) 2311 q 0 t) := by
    intro N v hN
    unfold qf_X18_enter_J103
    rw [if_pos hq]
    show (if 0 ≤ q ∧ q < 40 then some ((), qw (qw N 2308 q 0 v) 2311 q 0 (N 2156 2 0)) else none) = _
    rw [if_pos hq, hN]
  refine qW_e ?_
  unfold qf_X18_enter
  rw [if_pos hq]
  refine qW_bnd ?_
  rw [if_pos hp14]
  show qW (if room = (K 2289 p 0) then _ else _) _
  have key : ∀ l, (l = if room = (K 2289 p 0) then 1 else 0) → qW (qf_X18_enter_J22 20000 q p room l (qw K 2306 q 0 room)) (fun r => r = ((), enR K q room (peX M p room) (peY M p room) t)) := by
    intro l hl
    unfold qf_X18_enter_J22 qf_X18_enter_J63
    by_cases e : room = (K 2156 9 0)
    · have ex : peX M p room = -1 := if_pos (e.trans hz)
      have ey : peY M p room = -1 := if_pos (e.trans hz)
      rw [if_pos (show room = (qw K 2306 q 0 room) 2156 9 0 from e), if_pos hq]
      refine qW_bnd ?_
      rw [if_pos (show room = (qw (qw K 2306 q 0 room) 2307 q 0 (-1)) 2156 9 0 from e), J103 (qw (qw K 2306 q 0 room) 2307 q 0 (-1)) _ hT, ex, ey]
      exact qW_some rfl
    · have c := cellAt_r h_lines h_ends h_portw h_portc p0 p1
      have ex : peX M p room = if room = M 825 (13 * p) 0 then M 825 (13 * p + 4) 0 else M 825 (13 * p + 6) 0 := if_neg (fun x => e (x.trans hz.symm))
      have ey : peY M p room = if room = M 825 (13 * p) 0 then M 825 (13 * p + 5) 0 else M 825 (13 * p + 7) 0 := if_neg (fun x => e (x.trans hz.symm))
      have cx : qf_X16_cellAt 20000 (K 2291 p 0) (K 2293 p 0) l 1 K = some (peX M p room) := by
        rw [hl, ex, w.1]
        by_cases e2 : room = M 825 (13 * p) 0
        · rw [if_pos e2, if_pos e2]
          exact c.1
        · rw [if_neg e2, if_neg e2]
          exact c.2.2.1
      have cy : qf_X16_cellAt 20000 (K 2291 p 0) (K 2293 p 0) l 0 K = some (peY M p room) := by
        rw [hl, ey, w.1]
        by_cases e2 : room = M 825 (13 * p) 0
        · rw [if_pos e2, if_pos e2]
          exact c.2.1
        · rw [if_neg e2, if_neg e2]
          exact c.2.2.2
      rw [if_neg (show ¬ room = (qw K 2306 q 0 room) 2156 9 0 from e), if_pos hp14, if_pos hp14]
      show qW ((qf_X16_cellAt 20000 (K 2291 p 0) (K 2293 p 0) l 1 (qw K 2306 q 0 room)).bind _) _
      rw [cellAt_q1, cx]
      refine qW_bind (qW_some ?_)
      (try dsimp only)
      rw [if_pos hq]
      refine qW_bnd ?_
      rw [if_neg (show ¬ room = (qw (qw K 2306 q 0 room) 2307 q 0 (peX M p room)) 2156 9 0 from e), if_pos hp14, if_pos hp14]
      show qW ((qf_X16_cellAt 20000 (K 2291 p 0) (K 2293 p 0) l 0 (qw (qw K 2306 q 0 room) 2307 q 0 (peX M p room))).bind _) _
      rw [cellAt_q2, cellAt_q1, cy]
      refine qW_bind (qW_some ?_)
      (try dsimp only)
      rw [J103 (qw (qw K 2306 q 0 room) 2307 q 0 (peX M p room)) _ hT]
      exact qW_some rfl
  by_cases e : room = (K 2289 p 0)
  · rw [if_pos e]
    exact key 1 (if_pos e).symm
  · rw [if_neg e]
    exact key 0 (if_neg e).symm
end EN
