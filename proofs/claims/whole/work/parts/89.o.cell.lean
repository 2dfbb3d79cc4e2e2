section VA
variable {M K N A B C D D0 E F G H T V W K0 M0 : qm} {a b c d k n m p r q' s t u v x y h i j R S w l z : Int} {q stt cnt o f : Int → Int} {P : Int → Prop}
theorem cur_on (hc : CUR M M0) (l0 : 0 ≤ l) (l1 : l < M0 7 0 0) : onU M l d x y ↔ onU M0 l d x y := by
  unfold onU
  rw [hc.2 l 0 l0 l1, hc.2 l 1 l0 l1, hc.2 l 2 l0 l1, hc.2 l 3 l0 l1]
/-- the walls that the class keeps, for the lines as they are -/
theorem cur_wall (h : FNW M K M0 K0 A D0 D E F G H C q m p R stt cnt) (hc : CUR M M0) (d0 : 0 ≤ d) (d1 : d ≤ 1) (x0 : 0 ≤ x) (x1 : x ≤ 24) (y0 : 0 ≤ y) (y1 : y ≤ 24) : ((M 52 d (25 * x + y)) = -1 ∧ ∀ l, 0 ≤ l → l < (M 7 0 0) → ¬ onU M l d x y) ∨ (0 ≤ (M 52 d (25 * x + y)) ∧ (M 52 d (25 * x + y)) < (M 7 0 0) ∧ onU M (M 52 d (25 * x + y)) d x y ∧ ∀ l, 0 ≤ l → l < (M 7 0 0) → onU M l d x y → l = (M 52 d (25 * x + y))) := by
  have h10 := h.1.2.2.2.2.2.2.2.2.2
  have hB := h.1.2.2.2.2.2.2.2.2.1
  have mw : ∀ i j, M 52 i j = A 52 i j := fun i j => by
    rw [h.2.1 _ i j (by omega), h10.1 _ i j (by decide) (by decide) (by decide) (by decide) (by omega)]
    exact hB.1 i j
  have cl := hc.1
  rw [mw]
  rcases h.1.2.2.2.1.2 d x y d0 d1 x0 x1 y0 y1 with ⟨e, no⟩ | ⟨e0, e1, e2⟩
  · exact Or.inl ⟨e, fun l l0 l1 z => no l l0 (by omega) ((cur_on hc l0 (by omega)).mp z)⟩
  · refine Or.inr ⟨e0, by omega, (cur_on hc e0 e1).mpr e2, fun l l0 l1 z => ?_⟩
    exact onU_one h.1.2.1 h.1.2.2.1 l0 (by omega) e0 e1 ((cur_on hc l0 (by omega)).mp z) e2
theorem canGo_e (h_lines : R_lines M K) (h_ends : R_ends M K) (h_doorn : R_doorn M K) (h_doors : R_doors M K) (h : FNW M K M0 K0 A D0 D E F G H C q m p R stt cnt) (hc : CUR M M0) (hN : SAM M N) (c0 : 0 ≤ c) (c1 : c < 576) (d0 : 0 ≤ d) (d1 : d ≤ 3) : qf_X10_canGo 20000 c d N = some (b01 (GOC M c d)) := by
  have ub := uq_b c0 c1 d0 d1
  have uv := uq_v (c := c) (d := d)
  have nw : ∀ i j, N 52 i j = M 52 i j := fun i j => hN _ i j (by decide) (by decide)
  have cw := cur_wall h hc ub.2.2.2.2.1 ub.2.2.2.2.2 ub.1 ub.2.1 ub.2.2.1 ub.2.2.2.1
  rw [← wb_u (A := M) (c := c) d0 d1] at cw
  obtain ⟨l, hl⟩ : ∃ l, wb M c d = l := ⟨_, rfl⟩
  rw [hl] at cw
  have ew : wb N c d = l := (wb_o nw).trans hl
  refine qW_e ?_
  unfold qf_X10_canGo
  refine qW_eq (wb_e c0 c1 d0 d1) ?_
  rw [ew]
  rcases cw with ⟨e, no⟩ | ⟨l0, l1, on, one⟩
  · rw [if_pos e, b01_t (show GOC M c d from fun l l0 l1 z => absurd z (no l l0 l1))]
    exact qW_some rfl
  · have s_lines := h_lines
    unfold R_lines at s_lines
    have eb := ends_b h_ends l0 l1
    rw [if_neg (by omega)]
    have e1 : qf_X2_distanceBeside 20000 c d l N = some (UTL M l c d) := by
      have pb : qf_X2_placeBeside 20000 c d N = some (25 * uqx c d + uqy c d) := by
        refine qW_e ?_
        unfold qf_X2_placeBeside
        rw [Int.tdiv_eq_ediv_of_nonneg c0, Int.tmod_eq_emod_of_nonneg c0, w32_id (x := c / 24 * 25) (by omega) (by omega), w32_id (x := c / 24 * 25 + c % 24) (by omega) (by omega), w32_id (x := c / 24 * 25 + c % 24 + 25) (by omega) (by omega), w32_id (x := c / 24 * 25 + c % 24 + 1) (by omega) (by omega)]
        by_cases g0 : d = 0
        · rw [if_pos g0]
          exact qW_some (by omega)
        · rw [if_neg g0]
          by_cases g2 : d = 2
          · rw [if_pos g2]
            exact qW_some (by omega)
          · rw [if_neg g2]
            exact qW_some (by omega)
      refine qW_e ?_
      unfold qf_X2_distanceBeside
      refine qW_eq pb ?_
      have q0 : (0 : Int) ≤ 25 * uqx c d + uqy c d := by omega
      rw [Int.tdiv_eq_ediv_of_nonneg q0, Int.tmod_eq_emod_of_nonneg q0, show (25 * uqx c d + uqy c d) / 25 = uqx c d by omega, show (25 * uqx c d + uqy c d) % 25 = uqy c d by omega]
      have dt : qf_X8_distanceTo 20000 l (uqx c d) (uqy c d) N = some (UTL M l c d) := by
        unfold qf_X8_distanceTo UTL
        rw [if_pos (by omega), if_pos (by omega), hN _ _ _ (by decide) (by decide), hN _ _ _ (by decide) (by decide), w32_id (x := uqx c d - (M 8 l 0)) (by omega) (by omega), w32_id (x := uqx c d - (M 8 l 0) + uqy c d) (by omega) (by omega), w32_id (by omega) (by omega)]
      exact qW_eq dt (qW_some rfl)
    refine qW_eq e1 ?_
    have tb : -1000 ≤ UTL M l c d ∧ UTL M l c d ≤ 1000 := by
      unfold UTL
      omega
    refine qW_eq (doa_e h_lines h_doorn h_doors l0 l1 tb.1 tb.2 hN) ?_
    have iff : GOC M c d ↔ DOA M l (UTL M l c d) := ⟨fun z => z l l0 l1 on, fun z k k0 k1 ok => by
      rw [one k k0 k1 ok]
      exact z⟩
    by_cases g : DOA M l (UTL M l c d)
    · rw [b01_t g, if_neg (by decide), b01_t (iff.mpr g)]
      exact qW_some rfl
    · rw [b01_f g, if_pos rfl, b01_f (fun z => g (iff.mp z))]
      exact qW_some rfl
end VA
