/-! ===== passing: where one can go, in a state with the same plan ===== -/
section PSc
variable {M K N A B C D D0 E F G H T V W K0 M0 : qm} {a b c d k n m p r q' s t u v x y h i j R S w l z : Int} {q stt cnt o f : Int → Int} {P : Int → Prop}
variable {M K N A B C D D0 E F G H T V K0 M0 : qm} {a b c d k n m p r q' s t u v x y h i j R S w l : Int} {q stt cnt o f : Int → Int} {P : Int → Prop}
def SAN (M N : qm) : Prop := ∀ b i j, (b = 7 ∨ b = 8 ∨ b = 29 ∨ b = 30 ∨ b = 52) → N b i j = M b i j
theorem doa_n (h_lines : R_lines M K) (h_doorn : R_doorn M K) (h_doors : R_doors M K) (l0 : 0 ≤ l) (l1 : l < (M 7 0 0)) (t0 : -1000 ≤ t) (t1 : t ≤ 1000) (hN : SAN M N) : qf_X8_hasDoorAt 20000 l t N = some (b01 (DOA M l t)) := by
  have s_lines := h_lines
  unfold R_lines at s_lines
  have rn := h_doorn l l0 (by omega)
  have c20 : 0 ≤ l ∧ l < 20 := ⟨l0, by omega⟩
  have nd : (N 29 l 0) = (M 29 l 0) := hN _ _ _ (by decide)
  refine qW_e ?_
  unfold qf_X8_hasDoorAt
  refine qW_call (Q := fun o => (o = .inl 1 ∧ DOA M l t) ∨ (o = .inr () ∧ ¬ DOA M l t)) ?_ ?_
  · unfold qf_X8_hasDoorAt_L2
    refine qW_for (M 29 l 0) (fun e u => u = (l, t, e) ∧ ∀ k, 0 ≤ k → k < e → ¬ ((M 30 l (3 * k)) ≤ t ∧ t < (M 30 l (3 * k + 1)))) ?_ ?_ ⟨rfl, fun k a b => by omega⟩ (by omega) (by omega)
    · rintro e _ e0 e1 ⟨rfl, he⟩
      have rd := h_doors l e l0 (by omega) e0 e1
      unfold qf_X8_hasDoorAt_L2_b
      (try dsimp only)
      rw [if_pos c20, if_neg (by omega), w32_id (x := e + 1) (by omega) (by omega)]
      have ek : qf_X8_isDoorAt 20000 l e t N = some (b01 ((M 30 l (3 * e)) ≤ t ∧ t < (M 30 l (3 * e + 1)))) := by
        have eT : qf_X8_toOf 20000 l e N = some (M 30 l (3 * e + 1)) := by
          unfold qf_X8_toOf
          rw [if_pos c20, w32_id (x := 3 * e) (by omega) (by omega), w32_id (x := 3 * e + 1) (by omega) (by omega), if_pos (by omega), hN _ _ _ (by decide)]
        have eF : qf_X8_fromOf 20000 l e N = some (M 30 l (3 * e)) := by
          unfold qf_X8_fromOf
          rw [if_pos c20, w32_id (x := 3 * e) (by omega) (by omega), if_pos (by omega), hN _ _ _ (by decide)]
        refine qW_e ?_
        unfold qf_X8_isDoorAt
        refine qW_eq eF ?_
        by_cases g : t < (M 30 l (3 * e))
        · rw [if_pos g, b01_f (by omega)]
          exact qW_some rfl
        · rw [if_neg g]
          refine qW_eq eT ?_
          by_cases g2 : (M 30 l (3 * e + 1)) ≤ t
          · rw [if_pos g2, b01_f (by omega)]
            exact qW_some rfl
          · rw [if_neg g2, b01_t (by omega)]
            exact qW_some rfl
      refine qW_eq ek ?_
      by_cases g : (M 30 l (3 * e)) ≤ t ∧ t < (M 30 l (3 * e + 1))
      · rw [b01_t g, if_neg (by decide)]
        exact qW_some (Or.inl ⟨rfl, e, e0, e1, g.1, g.2⟩)
      · rw [b01_f g, if_pos rfl]
        refine qW_some ⟨rfl, fun k k0 k1 => ?_⟩
        by_cases ek : k = e
        · rw [ek]
          exact g
        · exact he k k0 (by omega)
    · rintro _ ⟨rfl, he⟩
      unfold qf_X8_hasDoorAt_L2_b
      (try dsimp only)
      rw [if_pos c20, if_pos (by omega)]
      refine qW_some (Or.inr ⟨rfl, ?_⟩)
      rintro ⟨k, k0, k1, z⟩
      exact he k k0 k1 z
  · rintro _ (⟨rfl, z⟩ | ⟨rfl, z⟩)
    · rw [b01_t z]
      exact qW_some rfl
    · rw [b01_f z]
      exact qW_some rfl
theorem canGo_n (h_lines : R_lines M K) (h_ends : R_ends M K) (h_doorn : R_doorn M K) (h_doors : R_doors M K) (h : FNW M K M0 K0 A D0 D E F G H C q m p R stt cnt) (hc : CUR M M0) (hN : SAN M N) (c0 : 0 ≤ c) (c1 : c < 576) (d0 : 0 ≤ d) (d1 : d ≤ 3) : qf_X10_canGo 20000 c d N = some (b01 (GOC M c d)) := by
  have ub := uq_b c0 c1 d0 d1
  have uv := uq_v (c := c) (d := d)
  have nw : ∀ i j, N 52 i j = M 52 i j := fun i j => hN _ i j (by decide)
  have cw := cur_wall h hc ub.2.2.2.2.1 ub.2.2.2.2.2 ub.1 ub.2.1 ub.2.2.1 ub.2.2.2.1
  rw [← wb_u (A := M) (c := c) d0 d1] at cw
  obtain ⟨l, hl⟩ : ∃ l, wb M c d = l := ⟨_, rfl⟩
  rw [hl] at cw
  have ew : wb N c d = l := (wb_o nw).trans hl
  refine qW_e ?_
  unfold qf_X10_canGo
  refine qW_eq (wb_e c0 c1 d0 d1) ?_
  rw [ew]
  rcases cw with ⟨e, no⟩ | ⟨l0, l1, on, one⟩
  · rw [if_pos e, b01_t (show GOC M c d from fun l l0 l1 z => absurd z (no l l0 l1))]
    exact qW_some rfl
  · have s_lines := h_lines
    unfold R_lines at s_lines
    have eb := ends_b h_ends l0 l1
    rw [if_neg (by omega)]
    have e1 : qf_X2_distanceBeside 20000 c d l N = some (UTL M l c d) := by
      have pb : qf_X2_placeBeside 20000 c d N = some (25 * uqx c d + uqy c d) := by
        refine qW_e ?_
        unfold qf_X2_placeBeside
        rw [Int.tdiv_eq_ediv_of_nonneg c0, Int.tmod_eq_emod_of_nonneg c0, w32_id (x := c / 24 * 25) (by omega) (by omega), w32_id (x := c / 24 * 25 + c % 24) (by omega) (by omega), w32_id (x := c / 24 * 25 + c % 24 + 25) (by omega) (by omega), w32_id (x := c / 24 * 25 + c % 24 + 1) (by omega) (by omega)]
        by_cases g0 : d = 0
        · rw [if_pos g0]
          exact qW_some (by omega)
        · rw [if_neg g0]
          by_cases g2 : d = 2
          · rw [if_pos g2]
            exact qW_some (by omega)
          · rw [if_neg g2]
            exact qW_some (by omega)
      refine qW_e ?_
      unfold qf_X2_distanceBeside
      refine qW_eq pb ?_
      have q0 : (0 : Int) ≤ 25 * uqx c d + uqy c d := by omega
      rw [Int.tdiv_eq_ediv_of_nonneg q0, Int.tmod_eq_emod_of_nonneg q0, show (25 * uqx c d + uqy c d) / 25 = uqx c d by omega, show (25 * uqx c d + uqy c d) % 25 = uqy c d by omega]
      have dt : qf_X8_distanceTo 20000 l (uqx c d) (uqy c d) N = some (UTL M l c d) := by
        unfold qf_X8_distanceTo UTL
        rw [if_pos (by omega), if_pos (by omega), hN _ _ _ (by decide), hN _ _ _ (by decide), w32_id (x := uqx c d - (M 8 l 0)) (by omega) (by omega), w32_id (x := uqx c d - (M 8 l 0) + uqy c d) (by omega) (by omega), w32_id (by omega) (by omega)]
      exact qW_eq dt (qW_some rfl)
    refine qW_eq e1 ?_
    have tb : -1000 ≤ UTL M l c d ∧ UTL M l c d ≤ 1000 := by
      unfold UTL
      omega
    refine qW_eq (doa_n h_lines h_doorn h_doors l0 l1 tb.1 tb.2 hN) ?_
    have iff : GOC M c d ↔ DOA M l (UTL M l c d) := ⟨fun z => z l l0 l1 on, fun z k k0 k1 ok => by
      rw [one k k0 k1 ok]
      exact z⟩
    by_cases g : DOA M l (UTL M l c d)
    · rw [b01_t g, if_neg (by decide), b01_t (iff.mpr g)]
      exact qW_some rfl
    · rw [b01_f g, if_pos rfl, b01_f (fun z => g (iff.mp z))]
      exact qW_some rfl
end PSc
