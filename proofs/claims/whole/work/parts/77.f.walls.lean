/-! ===== the class marks the points ===== -/
section WF
variable {M K A B : qm} {l n x y w : Int}
/-- the line from a place that way, or -1 -/
def wf (A : qm) (w x y : Int) : Int := if w = 0 then (if 24 ≤ x then -1 else A 52 0 (25 * x + y)) else if w = 1 then (if 24 ≤ y then -1 else A 52 1 (25 * x + y)) else if w = 2 then (if x ≤ 0 then -1 else A 52 0 (25 * (x - 1) + y)) else (if y ≤ 0 then -1 else A 52 1 (25 * x + (y - 1)))
theorem wf_o (h : ∀ i j, B 52 i j = A 52 i j) : wf B w x y = wf A w x y := by
  unfold wf
  rw [h, h, h, h]
theorem wallFrom_e (x0 : 0 ≤ x) (x1 : x ≤ 24) (y0 : 0 ≤ y) (y1 : y ≤ 24) : qf_X2_wallFrom 20000 x y w A = some (wf A w x y) := by
  unfold qf_X2_wallFrom wf
  by_cases c0 : w = 0
  · rw [if_pos c0, if_pos c0]
    by_cases g : 24 ≤ x
    · rw [if_pos g, if_pos g]
    · rw [if_neg g, if_neg g, w32_id (x := x * 25) (by omega) (by omega), w32_id (x := x * 25 + y) (by omega) (by omega), if_pos ⟨by omega, by omega⟩, show x * 25 + y = 25 * x + y by omega]
  · rw [if_neg c0, if_neg c0]
    by_cases c1 : w = 1
    · rw [if_pos c1, if_pos c1]
      by_cases g : 24 ≤ y
      · rw [if_pos g, if_pos g]
      · rw [if_neg g, if_neg g, w32_id (x := x * 25) (by omega) (by omega), w32_id (x := x * 25 + y) (by omega) (by omega), if_pos ⟨by omega, by omega⟩, show x * 25 + y = 25 * x + y by omega]
    · rw [if_neg c1, if_neg c1]
      by_cases c2 : w = 2
      · rw [if_pos c2, if_pos c2]
        by_cases g : x ≤ 0
        · rw [if_pos g, if_pos g]
        · rw [if_neg g, if_neg g, w32_id (x := x - 1) (by omega) (by omega), w32_id (x := (x - 1) * 25) (by omega) (by omega), w32_id (x := (x - 1) * 25 + y) (by omega) (by omega), if_pos ⟨by omega, by omega⟩, show (x - 1) * 25 + y = 25 * (x - 1) + y by omega]
      · rw [if_neg c2, if_neg c2]
        by_cases g : y ≤ 0
        · rw [if_pos g, if_pos g]
        · rw [if_neg g, if_neg g, w32_id (x := x * 25) (by omega) (by omega), w32_id (x := x * 25 + y) (by omega) (by omega), w32_id (x := x * 25 + y - 1) (by omega) (by omega), if_pos ⟨by omega, by omega⟩, show x * 25 + y - 1 = 25 * x + (y - 1) by omega]
/-- level meets upright -/
def PX (A : qm) (x y : Int) : Prop := (wf A 0 x y ≠ -1 ∨ wf A 2 x y ≠ -1) ∧ (wf A 1 x y ≠ -1 ∨ wf A 3 x y ≠ -1)
def PE (M : qm) (n x y : Int) : Prop := ∃ l, 0 ≤ l ∧ l < n ∧ ((x = (M 8 l 0) ∧ y = (M 8 l 1)) ∨ (x = (M 8 l 2) ∧ y = (M 8 l 3)))
theorem PX_o (h : ∀ i j, B 52 i j = A 52 i j) : PX B x y = PX A x y := by
  unfold PX
  rw [wf_o h, wf_o h, wf_o h, wf_o h]
def ofr (a : Nat) (A B : qm) : Prop := ∀ b i j, b ≠ a → B b i j = A b i j
theorem ofr_r {a : Nat} : ofr a A A := fun _ _ _ _ => rfl
theorem ofr_w {a : Nat} {i j v : Int} (h : ofr a A B) : ofr a A (qw B a i j v) := fun b x y hb => (qw_a hb).trans (h b x y hb)
theorem mark_1 (h : ofr 55 A B) (x0 : 0 ≤ x) (x1 : x ≤ 24) (y0 : 0 ≤ y) (y1 : y ≤ 24) : qf_X2_markPoints_L10_b 20000 x y B = some (.inr (x, y + 1, qw B 55 (25 * x + y) 0 (b01 (PX A x y)))) := by
  have e0 := wallFrom_e (A := B) (w := 0) x0 x1 y0 y1
  have e1 := wallFrom_e (A := B) (w := 1) x0 x1 y0 y1
  have e2 := wallFrom_e (A := B) (w := 2) x0 x1 y0 y1
  have e3 := wallFrom_e (A := B) (w := 3) x0 x1 y0 y1
  have ho : ∀ i j, B 52 i j = A 52 i j := fun i j => h _ i j (by decide)
  have p0 := wf_o (w := 0) (x := x) (y := y) ho
  have p1 := wf_o (w := 1) (x := x) (y := y) ho
  have p2 := wf_o (w := 2) (x := x) (y := y) ho
  have p3 := wf_o (w := 3) (x := x) (y := y) ho
  rw [p0] at e0
  rw [p1] at e1
  rw [p2] at e2
  rw [p3] at e3
  refine qW_e ?_
  have ew : w32 (w32 (x * 25) + y) = 25 * x + y := by
    rw [w32_id (x := x * 25) (by omega) (by omega), w32_id (by omega) (by omega)]
    omega
  have ey : w32 (y + 1) = y + 1 := w32_id (by omega) (by omega)
  have hr : 0 ≤ 25 * x + y ∧ 25 * x + y < 625 := by omega
  unfold qf_X2_markPoints_L10_b
  rw [if_neg (show ¬ 24 < y by omega)]
  refine qW_eq e0 ?_
  unfold qf_X2_markPoints_J38 qf_X2_markPoints_J43 qf_X2_markPoints_J66 qf_X2_markPoints_J71 qf_X2_markPoints_J96
  (try dsimp only)
  rw [ew, ey]
  by_cases g0 : wf A 0 x y = -1
  · rw [if_pos g0]
    refine qW_eq e2 ?_
    (try dsimp only)
    by_cases g2 : wf A 2 x y = -1
    · rw [if_pos g2]
      refine qW_eq e1 ?_
      (try dsimp only)
      have np : b01 (PX A x y) = 0 := b01_f (fun z => by
        rcases z.1 with q | q
        · exact q g0
        · exact q g2)
      rw [np]
      by_cases g1 : wf A 1 x y = -1
      · rw [if_pos g1]
        refine qW_eq e3 ?_
        (try dsimp only)
        by_cases g3 : wf A 3 x y = -1
        · rw [if_pos g3, if_pos rfl, if_pos hr]
          exact qW_some rfl
        · rw [if_neg g3, if_pos rfl, if_pos hr]
          exact qW_some rfl
      · rw [if_neg g1, if_pos rfl, if_pos hr]
        exact qW_some rfl
    · rw [if_neg g2]
      refine qW_eq e1 ?_
      (try dsimp only)
      by_cases g1 : wf A 1 x y = -1
      · rw [if_pos g1]
        refine qW_eq e3 ?_
        (try dsimp only)
        by_cases g3 : wf A 3 x y = -1
        · have np : b01 (PX A x y) = 0 := b01_f (fun z => by
            rcases z.2 with q | q
            · exact q g1
            · exact q g3)
          rw [np, if_pos g3, if_neg (by decide), if_pos rfl, if_pos hr]
          exact qW_some rfl
        · have np : b01 (PX A x y) = 1 := b01_t ⟨Or.inr g2, Or.inr g3⟩
          rw [np, if_neg g3, if_neg (by decide), if_neg (by decide), if_pos hr]
          exact qW_some rfl
      · have np : b01 (PX A x y) = 1 := b01_t ⟨Or.inr g2, Or.inl g1⟩
        rw [np, if_neg g1, if_neg (by decide), if_neg (by decide), if_pos hr]
        exact qW_some rfl
  · rw [if_neg g0]
    refine qW_eq e1 ?_
    (try dsimp only)
    by_cases g1 : wf A 1 x y = -1
    · rw [if_pos g1]
      refine qW_eq e3 ?_
      (try dsimp only)
      by_cases g3 : wf A 3 x y = -1
      · have np : b01 (PX A x y) = 0 := b01_f (fun z => by
          rcases z.2 with q | q
          · exact q g1
          · exact q g3)
        rw [np, if_pos g3, if_neg (by decide), if_pos rfl, if_pos hr]
        exact qW_some rfl
      · have np : b01 (PX A x y) = 1 := b01_t ⟨Or.inl g0, Or.inr g3⟩
        rw [np, if_neg g3, if_neg (by decide), if_neg (by decide), if_pos hr]
        exact qW_some rfl
    · have np : b01 (PX A x y) = 1 := b01_t ⟨Or.inl g0, Or.inl g1⟩
      rw [np, if_neg g1, if_neg (by decide), if_neg (by decide), if_pos hr]
      exact qW_some rfl
end WF
