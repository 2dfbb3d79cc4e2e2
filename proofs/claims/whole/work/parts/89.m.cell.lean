/-! ===== from cell to cell ===== -/
section WV
variable {M K N A B C D D0 E F G H T V K0 M0 : qm} {a b c d k n m p r q' s t u v x y h i j R S w l : Int} {q stt cnt o f : Int → Int} {P : Int → Prop}
def uqx (c d : Int) : Int := if d = 0 then c / 24 + 1 else c / 24
def uqy (c d : Int) : Int := if d = 2 then c % 24 + 1 else c % 24
def uqd (d : Int) : Int := if d < 2 then 1 else 0
def DOA (M : qm) (l t : Int) : Prop := ∃ e, 0 ≤ e ∧ e < (M 29 l 0) ∧ (M 30 l (3 * e)) ≤ t ∧ t < (M 30 l (3 * e + 1))
def UTL (M : qm) (l c d : Int) : Int := uqx c d - (M 8 l 0) + uqy c d - (M 8 l 1)
/-- from the cell c one can go that way -/
def GOC (M : qm) (c d : Int) : Prop := ∀ l, 0 ≤ l → l < (M 7 0 0) → onU M l (uqd d) (uqx c d) (uqy c d) → DOA M l (UTL M l c d)
theorem uq_v : (d = 0 → uqx c d = c / 24 + 1 ∧ uqy c d = c % 24 ∧ uqd d = 1) ∧ (d = 1 → uqx c d = c / 24 ∧ uqy c d = c % 24 ∧ uqd d = 1) ∧ (d = 2 → uqx c d = c / 24 ∧ uqy c d = c % 24 + 1 ∧ uqd d = 0) ∧ (d = 3 → uqx c d = c / 24 ∧ uqy c d = c % 24 ∧ uqd d = 0) := by
  refine ⟨?_, ?_, ?_, ?_⟩
  · rintro rfl
    exact ⟨rfl, rfl, rfl⟩
  · rintro rfl
    exact ⟨rfl, rfl, rfl⟩
  · rintro rfl
    exact ⟨rfl, rfl, rfl⟩
  · rintro rfl
    exact ⟨rfl, rfl, rfl⟩
theorem uq_b (c0 : 0 ≤ c) (c1 : c < 576) (d0 : 0 ≤ d) (d1 : d ≤ 3) : 0 ≤ uqx c d ∧ uqx c d ≤ 24 ∧ 0 ≤ uqy c d ∧ uqy c d ≤ 24 ∧ 0 ≤ uqd d ∧ uqd d ≤ 1 := by
  have v := uq_v (c := c) (d := d)
  have e : d = 0 ∨ d = 1 ∨ d = 2 ∨ d = 3 := by omega
  omega
theorem wb_u (d0 : 0 ≤ d) (d1 : d ≤ 3) : wb A c d = A 52 (uqd d) (25 * uqx c d + uqy c d) := by
  have v := uq_v (c := c) (d := d)
  have e : d = 0 ∨ d = 1 ∨ d = 2 ∨ d = 3 := by omega
  rcases e with e | e | e | e
  · have w := v.1 e
    rw [w.1, w.2.1, w.2.2, e, show 25 * (c / 24 + 1) + c % 24 = 25 * (c / 24) + c % 24 + 25 by omega]
    rfl
  · have w := v.2.1 e
    rw [w.1, w.2.1, w.2.2, e]
    rfl
  · have w := v.2.2.1 e
    rw [w.1, w.2.1, w.2.2, e, show 25 * (c / 24) + (c % 24 + 1) = 25 * (c / 24) + c % 24 + 1 by omega]
    rfl
  · have w := v.2.2.2 e
    rw [w.1, w.2.1, w.2.2, e]
    rfl
/-- forth and back -/
theorem cbk_b (c0 : 0 ≤ c) (c1 : c < 576) (d0 : 0 ≤ d) (d1 : d ≤ 3) (hn : cb c d ≠ -1) : 0 ≤ cb c d ∧ cb c d < 576 ∧ 0 ≤ bck d ∧ bck d ≤ 3 ∧ cb (cb c d) (bck d) = c ∧ uqx (cb c d) (bck d) = uqx c d ∧ uqy (cb c d) (bck d) = uqy c d ∧ uqd (bck d) = uqd d := by
  have e : d = 0 ∨ d = 1 ∨ d = 2 ∨ d = 3 := by omega
  rcases e with rfl | rfl | rfl | rfl
  · have eb : bck 0 = 1 := rfl
    have ec : cb c 0 = if 23 ≤ c / 24 then -1 else c + 24 := rfl
    by_cases g : 23 ≤ c / 24
    · rw [ec, if_pos g] at hn
      exact absurd rfl hn
    · rw [if_neg g] at ec
      rw [ec, eb]
      have e2 : cb (c + 24) 1 = if (c + 24) / 24 ≤ 0 then -1 else c + 24 - 24 := rfl
      rw [if_neg (by omega)] at e2
      have e3 : uqx (c + 24) 1 = (c + 24) / 24 := rfl
      have e4 : uqx c 0 = c / 24 + 1 := rfl
      have e5 : uqy (c + 24) 1 = (c + 24) % 24 := rfl
      have e6 : uqy c 0 = c % 24 := rfl
      exact ⟨by omega, by omega, by decide, by decide, by omega, by omega, by omega, rfl⟩
  · have eb : bck 1 = 0 := rfl
    have ec : cb c 1 = if c / 24 ≤ 0 then -1 else c - 24 := rfl
    by_cases g : c / 24 ≤ 0
    · rw [ec, if_pos g] at hn
      exact absurd rfl hn
    · rw [if_neg g] at ec
      rw [ec, eb]
      have e2 : cb (c - 24) 0 = if 23 ≤ (c - 24) / 24 then -1 else c - 24 + 24 := rfl
      rw [if_neg (by omega)] at e2
      have e3 : uqx (c - 24) 0 = (c - 24) / 24 + 1 := rfl
      have e4 : uqx c 1 = c / 24 := rfl
      have e5 : uqy (c - 24) 0 = (c - 24) % 24 := rfl
      have e6 : uqy c 1 = c % 24 := rfl
      exact ⟨by omega, by omega, by decide, by decide, by omega, by omega, by omega, rfl⟩
  · have eb : bck 2 = 3 := rfl
    have ec : cb c 2 = if 23 ≤ c % 24 then -1 else c + 1 := rfl
    by_cases g : 23 ≤ c % 24
    · rw [ec, if_pos g] at hn
      exact absurd rfl hn
    · rw [if_neg g] at ec
      rw [ec, eb]
      have e2 : cb (c + 1) 3 = if (c + 1) % 24 ≤ 0 then -1 else c + 1 - 1 := rfl
      rw [if_neg (by omega)] at e2
      have e3 : uqx (c + 1) 3 = (c + 1) / 24 := rfl
      have e4 : uqx c 2 = c / 24 := rfl
      have e5 : uqy (c + 1) 3 = (c + 1) % 24 := rfl
      have e6 : uqy c 2 = c % 24 + 1 := rfl
      exact ⟨by omega, by omega, by decide, by decide, by omega, by omega, by omega, rfl⟩
  · have eb : bck 3 = 2 := rfl
    have ec : cb c 3 = if c % 24 ≤ 0 then -1 else c - 1 := rfl
    by_cases g : c % 24 ≤ 0
    · rw [ec, if_pos g] at hn
      exact absurd rfl hn
    · rw [if_neg g] at ec
      rw [ec, eb]
      have e2 : cb (c - 1) 2 = if 23 ≤ (c - 1) % 24 then -1 else c - 1 + 1 := rfl
      rw [if_neg (by omega)] at e2
      have e3 : uqx (c - 1) 2 = (c - 1) / 24 := rfl
      have e4 : uqx c 3 = c / 24 := rfl
      have e5 : uqy (c - 1) 2 = (c - 1) % 24 + 1 := rfl
      have e6 : uqy c 3 = c % 24 := rfl
      exact ⟨by omega, by omega, by decide, by decide, by omega, by omega, by omega, rfl⟩
theorem goc_back (c0 : 0 ≤ c) (c1 : c < 576) (d0 : 0 ≤ d) (d1 : d ≤ 3) (hn : cb c d ≠ -1) : GOC M (cb c d) (bck d) ↔ GOC M c d := by
  have b := cbk_b c0 c1 d0 d1 hn
  unfold GOC UTL
  rw [b.2.2.2.2.2.1, b.2.2.2.2.2.2.1, b.2.2.2.2.2.2.2]
/-- the class's state while it numbers -/
def SAM (M N : qm) : Prop := ∀ b i j, b ≠ 759 → b ≠ 760 → N b i j = M b i j
theorem doa_e (h_lines : R_lines M K) (h_doorn : R_doorn M K) (h_doors : R_doors M K) (l0 : 0 ≤ l) (l1 : l < (M 7 0 0)) (t0 : -1000 ≤ t) (t1 : t ≤ 1000) (hN : SAM M N) : qf_X8_hasDoorAt 20000 l t N = some (b01 (DOA M l t)) := by
  have s_lines := h_lines
  unfold R_lines at s_lines
  have rn := h_doorn l l0 (by omega)
  have c20 : 0 ≤ l ∧ l < 20 := ⟨l0, by omega⟩
  have nd : (N 29 l 0) = (M 29 l 0) := hN _ _ _ (by decide) (by decide)
  refine qW_e ?_
  unfold qf_X8_hasDoorAt
  refine qW_call (Q := fun o => (o = .inl 1 ∧ DOA M l t) ∨ (o = .inr () ∧ ¬ DOA M l t)) ?_ ?_
  · unfold qf_X8_hasDoorAt_L2
    refine qW_for (M 29 l 0) (fun e u => u = (l, t, e) ∧ ∀ k, 0 ≤ k → k < e → ¬ ((M 30 l (3 * k)) ≤ t ∧ t < (M 30 l (3 * k + 1)))) ?_ ?_ ⟨rfl, fun k a b => by omega⟩ (by omega) (by omega)
    · rintro e _ e0 e1 ⟨rfl, he⟩
      have rd := h_doors l e l0 (by omega) e0 e1
      unfold qf_X8_hasDoorAt_L2_b
      (try dsimp only)
      rw [if_pos c20, if_neg (by omega), w32_id (x := e + 1) (by omega) (by omega)]
      have ek : qf_X8_isDoorAt 20000 l e t N = some (b01 ((M 30 l (3 * e)) ≤ t ∧ t < (M 30 l (3 * e + 1)))) := by
        have eT : qf_X8_toOf 20000 l e N = some (M 30 l (3 * e + 1)) := by
          unfold qf_X8_toOf
          rw [if_pos c20, w32_id (x := 3 * e) (by omega) (by omega), w32_id (x := 3 * e + 1) (by omega) (by omega), if_pos (by omega), hN _ _ _ (by decide) (by decide)]
        have eF : qf_X8_fromOf 20000 l e N = some (M 30 l (3 * e)) := by
          unfold qf_X8_fromOf
          rw [if_pos c20, w32_id (x := 3 * e) (by omega) (by omega), if_pos (by omega), hN _ _ _ (by decide) (by decide)]
        refine qW_e ?_
        unfold qf_X8_isDoorAt
        refine qW_eq eF ?_
        by_cases g : t < (M 30 l (3 * e))
        · rw [if_pos g, b01_f (by omega)]
          exact qW_some rfl
        · rw [if_neg g]
          refine qW_eq eT ?_
          by_cases g2 : (M 30 l (3 * e + 1)) ≤ t
          · rw [if_pos g2, b01_f (by omega)]
            exact qW_some rfl
          · rw [if_neg g2, b01_t (by omega)]
            exact qW_some rfl
      refine qW_eq ek ?_
      by_cases g : (M 30 l (3 * e)) ≤ t ∧ t < (M 30 l (3 * e + 1))
      · rw [b01_t g, if_neg (by decide)]
        exact qW_some (Or.inl ⟨rfl, e, e0, e1, g.1, g.2⟩)
      · rw [b01_f g, if_pos rfl]
        refine qW_some ⟨rfl, fun k k0 k1 => ?_⟩
        by_cases ek : k = e
        · rw [ek]
          exact g
        · exact he k k0 (by omega)
    · rintro _ ⟨rfl, he⟩
      unfold qf_X8_hasDoorAt_L2_b
      (try dsimp only)
      rw [if_pos c20, if_pos (by omega)]
      refine qW_some (Or.inr ⟨rfl, ?_⟩)
      rintro ⟨k, k0, k1, z⟩
      exact he k k0 k1 z
  · rintro _ (⟨rfl, z⟩ | ⟨rfl, z⟩)
    · rw [b01_t z]
      exact qW_some rfl
    · rw [b01_f z]
      exact qW_some rfl
end WV
