/-! ===== passing: with no way nobody moves (class) ===== -/
section PSs
variable {M K N V : qm} {c d p x y τ : Int}
theorem bet_no (h_walk : R_walk M K) (hb : M 6 11 0 ≠ 0) (hc : M 759 c 0 = -1) : ¬ BET M c d := by
  rintro ⟨_, ⟨i, n, l⟩ | ⟨_, l⟩⟩
  · obtain ⟨e, he⟩ : ∃ e, cb c d = e := ⟨_, rfl⟩
    rw [he] at i n l
    have i0 := i.1
    have i1 := i.2.1
    have w := h_walk (e / 24) (e % 24) (by omega) (by omega) (by omega) (by omega) hb
    rw [show 24 * (e / 24) + e % 24 = e by omega] at w
    omega
  · omega
theorem move_no (h_walk : R_walk M K) (hb : M 6 11 0 ≠ 0) (hS : SLV M N) (p0 : 0 ≤ p) (p1 : p < 40) (x0 : 0 ≤ x) (x1 : x < 24) (y0 : 0 ≤ y) (y1 : y < 24) (nx : N 761 p 1 = x) (ny : N 761 p 2 = y) (hc : M 759 (24 * x + y) 0 = -1) : qf_X10_moveOne 20000 p τ N = some ((), N) := by
  have c40 : 0 ≤ p ∧ p < 40 := ⟨p0, p1⟩
  have ec : qf_X10_cellOf 20000 p N = some (24 * x + y) := by
    unfold qf_X10_cellOf qf_X2_cellNumber
    rw [if_pos c40, nx, ny, if_neg (show ¬ x = -1 by omega), w32_id (x := x * 24) (by omega) (by omega), w32_id (x := x * 24 + y) (by omega) (by omega), Option.bind_some, show x * 24 + y = 24 * x + y by omega]
  have el : qf_X10_moveOne_L9 20000 20000 p τ (24 * x + y) 0 N = some (.inr ((), N)) := by
    refine qW_e ?_
    unfold qf_X10_moveOne_L9
    refine qW_for 4 (fun i s => s = (p, τ, 24 * x + y, i, N)) ?_ ?_ rfl (by omega) (by omega)
    · rintro i _ i0 i1 rfl
      show qW (qf_X10_moveOne_L9_b 20000 p τ (24 * x + y) i N) _
      unfold qf_X10_moveOne_L9_b
      rw [if_neg (show ¬ 4 ≤ i by omega), w32_id (x := i + 1) (by omega) (by omega)]
      refine qW_eq (bet_C (M := M) hS (by omega) (by omega) i0 (by omega)) ?_
      rw [b01_f (bet_no h_walk hb hc), if_pos rfl]
      exact qW_some rfl
    · rintro _ rfl
      show qW (qf_X10_moveOne_L9_b 20000 p τ (24 * x + y) 4 N) _
      unfold qf_X10_moveOne_L9_b
      rw [if_pos (Int.le_refl _)]
      exact qW_some rfl
  unfold qf_X10_moveOne
  rw [ec, Option.bind_some, el, Option.bind_some]
end PSs
