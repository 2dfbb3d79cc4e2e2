section SB
variable {M K A E G : qm} {n m p k v z l x y w c r i j a b s t L : Int}
/-- from every point a side leaves where a line does -/
theorem side_ex (h_lines : R_lines M K) (h_ends : R_ends M K) (h_alone : R_alone M K) (hA : WAL M A (M 7 0 0)) (hK : PFL M K E) (h : FPI M E G m p) (x0 : 0 ≤ x) (x1 : x ≤ 24) (y0 : 0 ≤ y) (y1 : y ≤ 24) (w0 : 0 ≤ w) (w1 : w ≤ 3) (hp : PT M A (M 7 0 0) x y) (hn : wf A w x y ≠ -1) : ∃ s, 0 ≤ s ∧ s < 2 * p ∧ sX G s = x ∧ sY G s = y ∧ sW G s = w := by
  obtain ⟨f1, f2, f3, f4, f5, f6, f7, f8, f9, f10, f11⟩ := h
  obtain ⟨L, hL⟩ := PCE_ex h_ends h_alone hA x0 x1 y0 y1 w0 w1 hn
  have gi := go_in h_ends hA x0 x1 y0 y1 w0 w1 hn
  obtain ⟨l, hl⟩ : ∃ l, wf A w x y = l := ⟨_, rfl⟩
  rw [hl] at gi
  obtain ⟨l0, l1, fr, _⟩ := gi
  obtain ⟨L1, L24, Lr, Lw, Lp, LP⟩ := hL
  rw [hl] at Lw
  have el := ends_b h_ends l0 l1
  have lf := lev_f h_ends l0 l1
  have rE := Lr L (by omega) (Int.le_refl L)
  obtain ⟨i, i0, i1, i2, i3⟩ := (f5 x y).mpr ((PL_PT h_ends hA x0 x1 y0 y1).mpr hp)
  obtain ⟨j, j0, j1, j2, j3⟩ := (f5 _ _).mpr ((PL_PT h_ends hA rE.1 rE.2.1 rE.2.2.1 rE.2.2.2).mpr LP)
  have kI : kp G i = 25 * x + y := by unfold kp; rw [i2, i3]
  have kJ : kp G j = 25 * gx w x L + gy w y L := by unfold kp; rw [j2, j3]
  have lastU := Lw (L - 1) (by omega) (by omega)
  have rU := Lr (L - 1) (by omega) (by omega)
  have frU' : frU M l w (gx w x (L - 1)) (gy w y (L - 1)) := by
    rcases wf_ln h_ends hA rU.1 rU.2.1 rU.2.2.1 rU.2.2.2 w0 w1 with ⟨e, _⟩ | ⟨_, _, e⟩
    · omega
    · rw [lastU] at e
      exact e
  have fl : (G 2160 l 0) = (K 2160 l 0) := (f1 _ l 0 (Or.inl (by decide)) (by omega)).trans (hK l l0 l1)
  have noc : ∀ c, 0 ≤ c → c < m → ∀ d, 1 ≤ d → d < L → ¬ ((G 2174 c 0) = gx w x d ∧ (G 2175 c 0) = gy w y d) := by
    intro c c0 c1 d d1 d2 z
    have rd := Lr d (by omega) (by omega)
    exact Lp d d1 d2 ((PL_PT h_ends hA rd.1 rd.2.1 rd.2.2.1 rd.2.2.2).mp ((f5 _ _).mp ⟨c, c0, c1, z.1, z.2⟩))
  have cw : w = 0 ∨ w = 1 ∨ w = 2 ∨ w = 3 := by omega
  unfold frU at fr frU'
  rcases cw with rfl | rfl | rfl | rfl
  · have u1 : onU M l 0 x y := by
      rcases fr with ⟨_, z⟩ | ⟨z, _⟩ | ⟨z, _⟩ | ⟨z, _⟩
      · exact z
      all_goals omega
    have u2 : onU M l 0 (x + (L - 1)) y := by
      rcases frU' with ⟨_, z⟩ | ⟨z, _⟩ | ⟨z, _⟩ | ⟨z, _⟩
      · exact z
      all_goals omega
    have eJ : gx 0 x L = x + L := rfl
    have eJ2 : gy 0 y L = y := rfl
    rw [eJ] at kJ j2
    rw [eJ2] at kJ j3
    rcases u1 with ⟨_, q1, q2, q3, q4⟩ | ⟨z, _⟩
    · rcases u2 with ⟨_, r1, r2, r3, r4⟩ | ⟨z, _⟩
      · have ij := kp_lt f2 i0 i1 j0 j1 (by omega)
        obtain ⟨q, t0, t1, t2, t3, t4⟩ := f10 l i j l0 l1 ⟨i0, ij, j1, by unfold onp onL; omega, by unfold onp onL; omega, fun c c1 c2 o => by
          have k1 := f2.2.2 i c i0 c1 (by omega)
          have k2 := f2.2.2 c j (by omega) c2 j1
          have kC : kp G c = 25 * (G 2174 c 0) + (G 2175 c 0) := rfl
          unfold onp onL at o
          exact noc c (by omega) (by omega) ((G 2174 c 0) - x) (by omega) (by omega) ⟨by show (G 2174 c 0) = x + ((G 2174 c 0) - x); omega, by show (G 2175 c 0) = y; omega⟩⟩
        have e2 : (2 * q) / 2 = q := by omega
        have e3 : (2 * q) % 2 = 0 := by omega
        have fx : (G 2160 l 0) = 1 := by
          rw [fl]
          rcases lf with z | z
          · exact z.1
          · exact absurd q1 z.2
        refine ⟨2 * q, by omega, by omega, ?_, ?_, ?_⟩
        · unfold sX sF
          rw [if_pos e3, e2, t3]
          exact i2
        · unfold sY sF
          rw [if_pos e3, e2, t3]
          exact i3
        · unfold sW sL
          rw [e2, t2, fx, if_neg (by decide)]
          omega
      · omega
    · omega
  · have u1 : onU M l 1 x y := by
      rcases fr with ⟨z, _⟩ | ⟨_, z⟩ | ⟨z, _⟩ | ⟨z, _⟩
      · omega
      · exact z
      all_goals omega
    have u2 : onU M l 1 x (y + (L - 1)) := by
      rcases frU' with ⟨z, _⟩ | ⟨_, z⟩ | ⟨z, _⟩ | ⟨z, _⟩
      · omega
      · exact z
      all_goals omega
    have eJ : gx 1 x L = x := rfl
    have eJ2 : gy 1 y L = y + L := rfl
    rw [eJ] at kJ j2
    rw [eJ2] at kJ j3
    rcases u1 with ⟨z, _⟩ | ⟨_, q1, q2, q3, q4⟩
    · omega
    · rcases u2 with ⟨z, _⟩ | ⟨_, r1, r2, r3, r4⟩
      · omega
      · have ij := kp_lt f2 i0 i1 j0 j1 (by omega)
        obtain ⟨q, t0, t1, t2, t3, t4⟩ := f10 l i j l0 l1 ⟨i0, ij, j1, by unfold onp onL; omega, by unfold onp onL; omega, fun c c1 c2 o => by
          have k1 := f2.2.2 i c i0 c1 (by omega)
          have k2 := f2.2.2 c j (by omega) c2 j1
          have kC : kp G c = 25 * (G 2174 c 0) + (G 2175 c 0) := rfl
          unfold onp onL at o
          exact noc c (by omega) (by omega) ((G 2175 c 0) - y) (by omega) (by omega) ⟨by show (G 2174 c 0) = x; omega, by show (G 2175 c 0) = y + ((G 2175 c 0) - y); omega⟩⟩
        have e2 : (2 * q) / 2 = q := by omega
        have e3 : (2 * q) % 2 = 0 := by omega
        have fx : (G 2160 l 0) = 0 := by
          rw [fl]
          rcases lf with z | z
          · exact absurd z.2 q1
          · exact z.1
        refine ⟨2 * q, by omega, by omega, ?_, ?_, ?_⟩
        · unfold sX sF
          rw [if_pos e3, e2, t3]
          exact i2
        · unfold sY sF
          rw [if_pos e3, e2, t3]
          exact i3
        · unfold sW sL
          rw [e2, t2, fx, if_pos rfl]
          omega
  · have u1 : onU M l 0 (x - 1) y := by
      rcases fr with ⟨z, _⟩ | ⟨z, _⟩ | ⟨_, z⟩ | ⟨z, _⟩
      · omega
      · omega
      · exact z
      · omega
    have u2 : onU M l 0 (x - (L - 1) - 1) y := by
      rcases frU' with ⟨z, _⟩ | ⟨z, _⟩ | ⟨_, z⟩ | ⟨z, _⟩
      · omega
      · omega
      · exact z
      · omega
    have eJ : gx 2 x L = x - L := rfl
    have eJ2 : gy 2 y L = y := rfl
    rw [eJ] at kJ j2
    rw [eJ2] at kJ j3
    rcases u1 with ⟨_, q1, q2, q3, q4⟩ | ⟨z, _⟩
    · rcases u2 with ⟨_, r1, r2, r3, r4⟩ | ⟨z, _⟩
      · have ij := kp_lt f2 j0 j1 i0 i1 (by omega)
        obtain ⟨q, t0, t1, t2, t3, t4⟩ := f10 l j i l0 l1 ⟨j0, ij, i1, by unfold onp onL; omega, by unfold onp onL; omega, fun c c1 c2 o => by
          have k1 := f2.2.2 j c j0 c1 (by omega)
          have k2 := f2.2.2 c i (by omega) c2 i1
          have kC : kp G c = 25 * (G 2174 c 0) + (G 2175 c 0) := rfl
          unfold onp onL at o
          exact noc c (by omega) (by omega) (x - (G 2174 c 0)) (by omega) (by omega) ⟨by show (G 2174 c 0) = x - (x - (G 2174 c 0)); omega, by show (G 2175 c 0) = y; omega⟩⟩
        have e2 : (2 * q + 1) / 2 = q := by omega
        have e3 : ¬ (2 * q + 1) % 2 = 0 := by omega
        have fx : (G 2160 l 0) = 1 := by
          rw [fl]
          rcases lf with z | z
          · exact z.1
          · exact absurd q1 z.2
        refine ⟨2 * q + 1, by omega, by omega, ?_, ?_, ?_⟩
        · unfold sX sF
          rw [if_neg e3, e2, t4]
          exact i2
        · unfold sY sF
          rw [if_neg e3, e2, t4]
          exact i3
        · unfold sW sL
          rw [e2, t2, fx, if_neg (by decide)]
          omega
      · omega
    · omega
  · have u1 : onU M l 1 x (y - 1) := by
      rcases fr with ⟨z, _⟩ | ⟨z, _⟩ | ⟨z, _⟩ | ⟨_, z⟩
      · omega
      · omega
      · omega
      · exact z
    have u2 : onU M l 1 x (y - (L - 1) - 1) := by
      rcases frU' with ⟨z, _⟩ | ⟨z, _⟩ | ⟨z, _⟩ | ⟨_, z⟩
      · omega
      · omega
      · omega
      · exact z
    have eJ : gx 3 x L = x := rfl
    have eJ2 : gy 3 y L = y - L := rfl
    rw [eJ] at kJ j2
    rw [eJ2] at kJ j3
    rcases u1 with ⟨z, _⟩ | ⟨_, q1, q2, q3, q4⟩
    · omega
    · rcases u2 with ⟨z, _⟩ | ⟨_, r1, r2, r3, r4⟩
      · omega
      · have ij := kp_lt f2 j0 j1 i0 i1 (by omega)
        obtain ⟨q, t0, t1, t2, t3, t4⟩ := f10 l j i l0 l1 ⟨j0, ij, i1, by unfold onp onL; omega, by unfold onp onL; omega, fun c c1 c2 o => by
          have k1 := f2.2.2 j c j0 c1 (by omega)
          have k2 := f2.2.2 c i (by omega) c2 i1
          have kC : kp G c = 25 * (G 2174 c 0) + (G 2175 c 0) := rfl
          unfold onp onL at o
          exact noc c (by omega) (by omega) (y - (G 2175 c 0)) (by omega) (by omega) ⟨by show (G 2174 c 0) = x; omega, by show (G 2175 c 0) = y - (y - (G 2175 c 0)); omega⟩⟩
        have e2 : (2 * q + 1) / 2 = q := by omega
        have e3 : ¬ (2 * q + 1) % 2 = 0 := by omega
        have fx : (G 2160 l 0) = 0 := by
          rw [fl]
          rcases lf with z | z
          · exact absurd z.2 q1
          · exact z.1
        refine ⟨2 * q + 1, by omega, by omega, ?_, ?_, ?_⟩
        · unfold sX sF
          rw [if_neg e3, e2, t4]
          exact i2
        · unfold sY sF
          rw [if_neg e3, e2, t4]
          exact i3
        · unfold sW sL
          rw [e2, t2, fx, if_pos rfl]
          omega
/-- just one -/
theorem side_one (h_lines : R_lines M K) (h_ends : R_ends M K) (h_alone : R_alone M K) (hA : WAL M A (M 7 0 0)) (hK : PFL M K E) (h : FPI M E G m p) (s0 : 0 ≤ s) (s1 : s < 2 * p) (t0 : 0 ≤ t) (t1 : t < 2 * p) (ex : sX G s = sX G t) (ey : sY G s = sY G t) (ew : sW G s = sW G t) : s = t := by
  have hs := side_ok h_lines h_ends h_alone hA hK h s0 s1
  have ht := side_ok h_lines h_ends h_alone hA hK h t0 t1
  obtain ⟨f1, f2, f3, f4, f5, f6, f7, f8, f9, f10, f11⟩ := h
  have par : s % 2 = t % 2 := by
    unfold sW at ew
    split at ew <;> split at ew <;> omega
  have el : sL G s = sL G t := by
    rw [← hs.2.1, ← ht.2.1, ex, ey, ew]
  have eF : sF G s = sF G t := by
    refine kp_eq f2 hs.2.2.2.2.2.2.2.2.2.2.2.2.1 (by have := hs.2.2.2.2.2.2.2.2.2.2.2.2.2.1; omega) ht.2.2.2.2.2.2.2.2.2.2.2.2.1 (by have := ht.2.2.2.2.2.2.2.2.2.2.2.2.2.1; omega) ?_
    unfold kp
    unfold sX at ex
    unfold sY at ey
    rw [ex, ey]
  have w1 := (f9 (s / 2) (by omega) (by omega)).2.2
  have w2 := (f9 (t / 2) (by omega) (by omega)).2.2
  have eq : s / 2 = t / 2 := by
    unfold sL at el
    unfold sF at eF
    rw [el] at w1
    have same : (G 2177 (s / 2) 0) = (G 2177 (t / 2) 0) := by
      by_cases g : s % 2 = 0
      · rw [if_pos g, if_pos (by omega)] at eF
        exact eF
      · rw [if_neg g, if_neg (by omega)] at eF
        rcases Int.lt_trichotomy (G 2177 (s / 2) 0) (G 2177 (t / 2) 0) with c | c | c
        · exact absurd w2.2.2.2.1 (w1.2.2.2.2.2 _ c (by rw [eF]; exact w2.2.1))
        · exact c
        · exact absurd w1.2.2.2.1 (w2.2.2.2.2.2 _ c (by rw [← eF]; exact w1.2.1))
    rcases Int.lt_trichotomy (s / 2) (t / 2) with c | c | c
    · rcases f11 _ _ (by omega) c (by omega) with z | ⟨_, z⟩ <;> omega
    · exact c
    · rcases f11 _ _ (by omega) c (by omega) with z | ⟨_, z⟩ <;> omega
  omega
end SB
