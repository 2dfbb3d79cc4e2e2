/-! ===== passing: one step, both sides ===== -/
section PSj
variable {M K N A B C D D0 E F G H T V W Y Z K0 M0 K' N' : qm} {X' Y' a b c d e i k m p r s t u v x y h j R S w l z g τ : Int} {q stt cnt o f : Int → Int} {P : Int → Int → Prop}
def enS (K : qm) (q room x y t : Int) : qm := qw (qw (qw (qw (qw K 2306 q 0 room) 2307 q 0 x) 2308 q 0 y) 2310 q 0 (w32 (K 2310 q 0 + 1))) 2311 q 0 t
theorem mv_K0 (i0 : 0 ≤ i) (i1 : i < 40) (d0 : 0 ≤ d) (d1 : d < 4) (ex : K 2307 i 0 = x) (ey : K 2308 i 0 = y) (hg : qf_X18_goesThrough 20000 x y d K = some (0, K')) : qf_X18_step_J158 20000 i v d X' Y' w K = some (.inr (i, v, d + 1, K')) := by
  have c40 : 0 ≤ i ∧ i < 40 := ⟨i0, i1⟩
  refine qW_e ?_
  unfold qf_X18_step_J158
  rw [if_pos c40, if_pos c40, ex, ey]
  refine qW_eq hg ?_
  rw [if_pos rfl, w32_id (x := d + 1) (by omega) (by omega)]
  exact qW_some rfl
theorem mv_K1 (i0 : 0 ≤ i) (i1 : i < 40) (ex : K 2307 i 0 = x) (ey : K 2308 i 0 = y) (hg : qf_X18_goesThrough 20000 x y d K = some (1, K')) (x0 : 0 ≤ X') (x1 : X' < 24) (y0 : 0 ≤ Y') (y1 : Y' < 24) : qf_X18_step_J158 20000 i v d X' Y' 0 K = some (.inl (.inl ((), enS K' i (K' 2329 (24 * Y' + X') 0) X' Y' (K' 2156 2 0)))) := by
  have c40 : 0 ≤ i ∧ i < 40 := ⟨i0, i1⟩
  refine qW_e ?_
  unfold qf_X18_step_J158
  rw [if_pos c40, if_pos c40, ex, ey]
  refine qW_eq hg ?_
  rw [if_neg (show ¬ (1 : Int) = 0 by decide), w32_id (x := 24 * Y') (by omega) (by omega), w32_id (x := 24 * Y' + X') (by omega) (by omega), if_pos rfl, if_pos (show 0 ≤ 24 * Y' + X' ∧ 24 * Y' + X' < 576 by omega), if_pos c40]
  refine qW_bnd ?_
  rw [if_pos rfl, if_pos c40]
  refine qW_bnd ?_
  rw [if_pos rfl, if_pos c40]
  refine qW_bnd ?_
  rw [if_pos c40, if_pos c40]
  refine qW_bnd ?_
  rw [if_pos c40]
  refine qW_bnd ?_
  exact qW_some rfl
theorem mv_K2 (i0 : 0 ≤ i) (i1 : i < 40) (ex : K 2307 i 0 = x) (ey : K 2308 i 0 = y) (hg : qf_X18_goesThrough 20000 x y d K = some (1, K')) : qf_X18_step_J158 20000 i v d X' Y' 1 K = some (.inl (.inl ((), enS K' i (K' 2156 9 0) (-1) (-1) (K' 2156 2 0)))) := by
  have c40 : 0 ≤ i ∧ i < 40 := ⟨i0, i1⟩
  have n1 : ¬ (1 : Int) = 0 := by decide
  refine qW_e ?_
  unfold qf_X18_step_J158
  rw [if_pos c40, if_pos c40, ex, ey]
  refine qW_eq hg ?_
  rw [if_neg n1, if_neg n1, if_pos c40]
  refine qW_bnd ?_
  rw [if_neg n1, if_pos c40]
  refine qW_bnd ?_
  rw [if_neg n1, if_pos c40]
  refine qW_bnd ?_
  rw [if_pos c40, if_pos c40]
  refine qW_bnd ?_
  rw [if_pos c40]
  refine qW_bnd ?_
  exact qW_some rfl
/-- the class's step -/
def enT (N : qm) (q room x y t : Int) : qm := enC (qw N 761 q 4 (w32 (N 761 q 4 + 1))) q room x y t
theorem mv_C1 (hN : SLV M N) (p0 : 0 ≤ p) (p1 : p < 40) (hz : N 51 3 0 = z) (g : ISP M c) (hm : M 56 c 0 ≠ z) : qf_X10_step 20000 p c τ N = some ((), enT N p (M 56 c 0) (c / 24) (c % 24) τ) := by
  have c40 : 0 ≤ p ∧ p < 40 := ⟨p0, p1⟩
  have hS : SLV M (qw N 761 p 4 (w32 (N 761 p 4 + 1))) := fun b i j h => (qw_a (by omega)).trans (hN b i j h)
  have z3 : (qw N 761 p 4 (w32 (N 761 p 4 + 1))) 51 3 0 = z := (qw_a (by decide)).trans hz
  have eb : (qw N 761 p 4 (w32 (N 761 p 4 + 1))) 56 c 0 = M 56 c 0 := hS _ _ _ (by decide)
  refine qW_e ?_
  unfold qf_X10_step
  rw [if_pos c40]
  refine qW_bnd ?_
  refine qW_eq (isp_n hS) ?_
  rw [b01_t g, if_neg (by decide), if_pos (show 0 ≤ c ∧ c < 576 from ⟨g.1, g.2.1⟩), putInto_r c40, z3, eb, if_neg hm, if_neg hm, Int.tdiv_eq_ediv_of_nonneg g.1, Int.tmod_eq_emod_of_nonneg g.1]
  exact qW_some rfl
theorem mv_C2 (hN : SLV M N) (p0 : 0 ≤ p) (p1 : p < 40) (hz : N 51 3 0 = z) (g : ¬ ISP M c) : qf_X10_step 20000 p c τ N = some ((), enT N p z (-1) (-1) τ) := by
  have c40 : 0 ≤ p ∧ p < 40 := ⟨p0, p1⟩
  have hS : SLV M (qw N 761 p 4 (w32 (N 761 p 4 + 1))) := fun b i j h => (qw_a (by omega)).trans (hN b i j h)
  have z3 : (qw N 761 p 4 (w32 (N 761 p 4 + 1))) 51 3 0 = z := (qw_a (by decide)).trans hz
  have eo : qf_X10_outside 20000 (qw N 761 p 4 (w32 (N 761 p 4 + 1))) = some z := by
    unfold qf_X10_outside
    rw [z3]
  refine qW_e ?_
  unfold qf_X10_step
  rw [if_pos c40]
  refine qW_bnd ?_
  refine qW_eq (isp_n hS) ?_
  rw [b01_f g, if_pos rfl]
  refine qW_eq eo ?_
  rw [putInto_r c40, z3, if_pos rfl]
  exact qW_some rfl
end PSj
