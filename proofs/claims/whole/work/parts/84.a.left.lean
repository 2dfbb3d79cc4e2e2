/-! ===== what is to the left, along a ring ===== -/
section LE
variable {M K A B D E G : qm} {n m p k v z l x y w c r i j a b s t L f : Int} {F : Int → Int}
def lfx (w x : Int) : Int := if w = 1 ∨ w = 2 then x - 1 else x
def lfy (w y : Int) : Int := if 2 ≤ w then y - 1 else y
/-- the unit to the left of a way from a place; to its right -/
def lfo (F : Int → Int) (f x y w : Int) : Int := ext F f (lfx w x) (lfy w y)
theorem lf_0 : lfx 0 x = x ∧ lfy 0 y = y := ⟨rfl, rfl⟩
theorem lf_1 : lfx 1 x = x - 1 ∧ lfy 1 y = y := ⟨rfl, rfl⟩
theorem lf_2 : lfx 2 x = x - 1 ∧ lfy 2 y = y - 1 := ⟨rfl, rfl⟩
theorem lf_3 : lfx 3 x = x ∧ lfy 3 y = y - 1 := ⟨rfl, rfl⟩
/-- no line that way: what is to the left of it is to the left of the way to its right -/
theorem lfo_x (h : CMP A F f) (x0 : 0 ≤ x) (x1 : x ≤ 24) (y0 : 0 ≤ y) (y1 : y ≤ 24) (w0 : 0 ≤ w) (w1 : w ≤ 3) (hw : wf A w x y = -1) : lfo F f x y w = lfo F f x y (rgt w) := by
  have c : w = 0 ∨ w = 1 ∨ w = 2 ∨ w = 3 := by omega
  unfold lfo
  unfold wf at hw
  rcases c with rfl | rfl | rfl | rfl
  · rw [if_pos rfl] at hw
    show ext F f x y = ext F f x (y - 1)
    by_cases g : 24 ≤ x
    · rw [ext_out (by omega), ext_out (by omega)]
    · rw [if_neg g] at hw
      exact (ext_v h x0 (by omega) y0 y1 hw).symm
  · rw [if_neg (by decide), if_pos rfl] at hw
    show ext F f (x - 1) y = ext F f x y
    by_cases g : 24 ≤ y
    · rw [ext_out (by omega), ext_out (by omega)]
    · rw [if_neg g] at hw
      exact ext_h h x0 x1 y0 (by omega) hw
  · rw [if_neg (by decide), if_neg (by decide), if_pos rfl] at hw
    show ext F f (x - 1) (y - 1) = ext F f (x - 1) y
    by_cases g : x ≤ 0
    · rw [ext_out (by omega), ext_out (by omega)]
    · rw [if_neg g] at hw
      exact ext_v h (by omega) (by omega) y0 y1 hw
  · rw [if_neg (by decide), if_neg (by decide), if_neg (by decide)] at hw
    show ext F f x (y - 1) = ext F f (x - 1) (y - 1)
    by_cases g : y ≤ 0
    · rw [ext_out (by omega), ext_out (by omega)]
    · rw [if_neg g] at hw
      exact (ext_h h x0 x1 (by omega) (by omega) hw).symm
/-- a unit gone: what was to the left is to the left of the way to the left -/
theorem lfo_g (w0 : 0 ≤ w) (w1 : w ≤ 3) : lfo F f (gx w x 1) (gy w y 1) (lft w) = lfo F f x y w := by
  have c : w = 0 ∨ w = 1 ∨ w = 2 ∨ w = 3 := by omega
  unfold lfo
  rcases c with rfl | rfl | rfl | rfl
  · show ext F f (x + 1 - 1) y = ext F f x y
    rw [show x + 1 - 1 = x by omega]
  · show ext F f (x - 1) (y + 1 - 1) = ext F f (x - 1) y
    rw [show y + 1 - 1 = y by omega]
  · show ext F f (x - 1) (y - 1) = ext F f (x - 1) (y - 1)
    rfl
  · show ext F f x (y - 1) = ext F f x (y - 1)
    rfl
theorem rgt_lft (w0 : 0 ≤ w) (w1 : w ≤ 3) : rgt (lft w) = w ∧ 0 ≤ lft w ∧ lft w ≤ 3 ∧ 0 ≤ rgt w ∧ rgt w ≤ 3 ∧ 0 ≤ opp w ∧ opp w ≤ 3 ∧ rgt (rgt w) = opp w ∧ lft (opp w) = rgt w := by
  have c : w = 0 ∨ w = 1 ∨ w = 2 ∨ w = 3 := by omega
  rcases c with rfl | rfl | rfl | rfl <;> decide
/-- along a piece it stays -/
theorem lfo_p (h_ends : R_ends M K) (h_alone : R_alone M K) (hA : WAL M A (M 7 0 0)) (h : CMP A F f) (w0 : 0 ≤ w) (w1 : w ≤ 3) (hP : PCE M A (M 7 0 0) x y w L) (hn : wf A w x y ≠ -1) : (∀ j, 0 ≤ j → j < L → lfo F f (gx w x j) (gy w y j) w = lfo F f x y w) ∧ lfo F f (gx w x L) (gy w y L) (lft w) = lfo F f x y w := by
  obtain ⟨L1, L24, Lr, Lw, Lp, LP⟩ := hP
  have rl := rgt_lft w0 w1
  have key : ∀ u : Nat, (u : Int) < L → lfo F f (gx w x u) (gy w y u) w = lfo F f x y w := by
    intro u
    induction u with
    | zero =>
      intro _
      show lfo F f (gx w x 0) (gy w y 0) w = _
      rw [gx_0, gy_0]
    | succ u ih =>
      intro hu
      have e : ((u + 1 : Nat) : Int) = (u : Int) + 1 := by omega
      have r := Lr u (by omega) (by omega)
      have r2 := Lr (u + 1 : Int) (by omega) (by omega)
      have q := Lw u (by omega) (by omega)
      have go := go_on h_ends h_alone hA r.1 r.2.1 r.2.2.1 r.2.2.2 w0 w1 (by rw [q]; exact hn) (by rw [← gx_s, ← gy_s]; exact Lp _ (by omega) (by omega))
      have g := lfo_g (F := F) (f := f) (x := gx w x u) (y := gy w y u) w0 w1
      rw [← gx_s, ← gy_s] at go g
      have xx := lfo_x h r2.1 r2.2.1 r2.2.2.1 r2.2.2.2 rl.2.1 rl.2.2.1 go.2.1
      rw [rl.1] at xx
      rw [e, ← xx, g]
      exact ih (by omega)
  have all : ∀ j, 0 ≤ j → j < L → lfo F f (gx w x j) (gy w y j) w = lfo F f x y w := by
    intro j j0 j1
    have := key j.toNat (by omega)
    rw [show ((j.toNat : Nat) : Int) = j by omega] at this
    exact this
  refine ⟨all, ?_⟩
  have g := lfo_g (F := F) (f := f) (x := gx w x (L - 1)) (y := gy w y (L - 1)) w0 w1
  rw [← gx_s, ← gy_s, show L - 1 + 1 = L by omega] at g
  rw [g]
  exact all (L - 1) (by omega) (by omega)
/-- the way on at a place -/
def tn (A : qm) (x y w : Int) : Int := if wf A (lft w) x y ≠ -1 then lft w else if wf A w x y ≠ -1 then w else if wf A (rgt w) x y ≠ -1 then rgt w else opp w
theorem tn_b (w0 : 0 ≤ w) (w1 : w ≤ 3) (hb : wf A (opp w) x y ≠ -1) : 0 ≤ tn A x y w ∧ tn A x y w ≤ 3 ∧ wf A (tn A x y w) x y ≠ -1 := by
  have rl := rgt_lft w0 w1
  unfold tn
  by_cases g1 : wf A (lft w) x y ≠ -1
  · rw [if_pos g1]
    exact ⟨rl.2.1, rl.2.2.1, g1⟩
  · rw [if_neg g1]
    by_cases g2 : wf A w x y ≠ -1
    · rw [if_pos g2]
      exact ⟨w0, w1, g2⟩
    · rw [if_neg g2]
      by_cases g3 : wf A (rgt w) x y ≠ -1
      · rw [if_pos g3]
        exact ⟨rl.2.2.2.1, rl.2.2.2.2.1, g3⟩
      · rw [if_neg g3]
        exact ⟨rl.2.2.2.2.2.1, rl.2.2.2.2.2.2.1, hb⟩
theorem lfo_t (h : CMP A F f) (x0 : 0 ≤ x) (x1 : x ≤ 24) (y0 : 0 ≤ y) (y1 : y ≤ 24) (w0 : 0 ≤ w) (w1 : w ≤ 3) : lfo F f x y (tn A x y w) = lfo F f x y (lft w) := by
  have rl := rgt_lft w0 w1
  unfold tn
  by_cases g1 : wf A (lft w) x y ≠ -1
  · rw [if_pos g1]
  · rw [if_neg g1]
    have e1 := lfo_x h x0 x1 y0 y1 rl.2.1 rl.2.2.1 (Classical.byContradiction g1)
    rw [rl.1] at e1
    rw [e1]
    by_cases g2 : wf A w x y ≠ -1
    · rw [if_pos g2]
    · rw [if_neg g2]
      have e2 := lfo_x h x0 x1 y0 y1 w0 w1 (Classical.byContradiction g2)
      rw [e2]
      by_cases g3 : wf A (rgt w) x y ≠ -1
      · rw [if_pos g3]
      · rw [if_neg g3]
        have e3 := lfo_x h x0 x1 y0 y1 rl.2.2.2.1 rl.2.2.2.2.1 (Classical.byContradiction g3)
        rw [e3, rl.2.2.2.2.2.2.2.1]
end LE
