/-! ===== what was found, asked of the reference ===== -/
section US
variable {M K A B C D D0 E F G H T V K0 M0 : qm} {a b c d k n m p r q' s t u x y h i R S w : Int} {q stt cnt : Int → Int}
theorem fnw_kag (h : FNW M K M0 K0 A D0 D E F G H C q m p R stt cnt) : (∀ b i, ((2174 ≤ b ∧ b ≤ 2178) ∨ (b = 2157 ∧ (i = 27 ∨ i = 30))) → K b i 0 = G b i 0) ∧ (∀ l, 0 ≤ l → l < M0 7 0 0 → (K 2160 l 0) = (G 2160 l 0)) ∧ PFL M0 K0 K := by
  obtain ⟨⟨_, _, _, _, _, hP, hR, _⟩, _, hK, _⟩ := h
  have f : ∀ l, 0 ≤ l → l < M0 7 0 0 → (K 2160 l 0) = (G 2160 l 0) := fun l l0 l1 => (hK.2 l l0 l1).trans (hR.2.2.2.1.1 _ l 0 (by decide) (by decide) (by decide) (by omega))
  refine ⟨fun b i hb => ?_, f, fun l l0 l1 => ?_⟩
  · rw [hK.1 b i (by omega)]
    exact hR.2.2.2.1.1 b i 0 (by omega) (by omega) (by omega) (by omega)
  · rw [f l l0 l1, hR.2.2.1.1 _ l 0 (Or.inl (by decide)) (by omega)]
    exact (rch_pls hP hR).2.2.1 l
theorem fnw_fpi (h : FNW M K M0 K0 A D0 D E F G H C q m p R stt cnt) : FPI M0 K K m p ∧ FPI M0 F G m p ∧ PFL M0 K0 F := ⟨FPI_o h.1.2.2.2.2.2.2.1.2.2.1 (fnw_kag h).1, h.1.2.2.2.2.2.2.1.2.2.1, PFL_p (rch_pls h.1.2.2.2.2.2.1 h.1.2.2.2.2.2.2.1)⟩
/-- the sides are the same -/
theorem fnw_sid (h : FNW M K M0 K0 A D0 D E F G H C q m p R stt cnt) : (∀ s, sF K s = sF G s) ∧ (∀ s, sT K s = sT G s) ∧ (∀ s, sL K s = sL G s) ∧ (∀ s, sX K s = sX G s) ∧ (∀ s, sY K s = sY G s) ∧ (∀ s, sN K s = sN G s) ∧ ∀ s, 0 ≤ s → s < 2 * p → sW K s = sW G s := by
  have kg := fnw_kag h
  have fp := fnw_fpi h
  have e : ∀ b i, 2174 ≤ b ∧ b ≤ 2178 → K b i 0 = G b i 0 := fun b i hb => kg.1 b i (Or.inl hb)
  have e1 : ∀ s, sF K s = sF G s := fun s => by
    unfold sF
    rw [e _ _ (by decide), e _ _ (by decide)]
  have e3 : ∀ s, sL K s = sL G s := fun s => by
    unfold sL
    rw [e _ _ (by decide)]
  refine ⟨e1, fun s => ?_, e3, fun s => ?_, fun s => ?_, fun s => ?_, fun s s0 s1 => ?_⟩
  · unfold sT
    rw [e _ _ (by decide), e _ _ (by decide)]
  · unfold sX
    rw [e1, e _ _ (by decide)]
  · unfold sY
    rw [e1, e _ _ (by decide)]
  · unfold sN
    rw [e 2177 _ (by decide), e 2178 _ (by decide), e 2174 _ (by decide), e 2174 _ (by decide), e 2175 _ (by decide), e 2175 _ (by decide)]
  · have o := (fp.2.1.2.2.2.2.2.2.2.2.1 (s / 2) (by omega) (by omega))
    unfold sW
    rw [e3, kg.2.1 (sL G s) o.1 o.2.1]
theorem fnw_ok (h : FNW M K M0 K0 A D0 D E F G H C q m p R stt cnt) (s0 : 0 ≤ s) (s1 : s < 2 * p) : SDE M0 A G (M0 7 0 0) s ∧ s < 440 := by
  have fp := fnw_fpi h
  have := fp.2.1.2.2.2.2.2.2.2.1
  exact ⟨side_ok h.1.1 h.1.2.1 h.1.2.2.1 h.1.2.2.2.1 fp.2.2 fp.2.1 s0 s1, by omega⟩
theorem use_next (h : FNW M K M0 K0 A D0 D E F G H C q m p R stt cnt) (s0 : 0 ≤ s) (s1 : s < 2 * p) : qf_X16_next 20000 s K = some (nxs A G p s) := by
  have fp := fnw_fpi h
  have kg := fnw_kag h
  have so := fnw_sid h
  obtain ⟨h1, h2, h3, h4, _⟩ := h.1
  rw [next_e h1 h2 h3 h4 kg.2.2 fp.1 s0 s1]
  have q := nxs_s h1 h2 h3 h4 kg.2.2 fp.1 s0 s1
  congr 1
  refine (nxs_e h1 h2 h3 h4 fp.2.2 fp.2.1 s0 s1 ⟨q.1, q.2.1, ?_, ?_, ?_⟩).symm
  · rw [← so.2.2.2.1, q.2.2.1, so.2.2.2.2.2.2 s s0 s1, so.2.2.2.1, so.2.2.2.2.2.1]
  · rw [← so.2.2.2.2.1, q.2.2.2.1, so.2.2.2.2.2.2 s s0 s1, so.2.2.2.2.1, so.2.2.2.2.2.1]
  · rw [← so.2.2.2.2.2.2 _ q.1 q.2.1, q.2.2.2.2, so.2.2.2.2.2.2 s s0 s1, so.2.2.2.1, so.2.2.2.2.1, so.2.2.2.2.2.1]
theorem use_left (h : FNW M K M0 K0 A D0 D E F G H C q m p R stt cnt) (s0 : 0 ≤ s) (s1 : s < 2 * p) : qf_X16_left 20000 s K = some (lfs D G s) := by
  have fp := fnw_fpi h
  have kg := fnw_kag h
  have so := fnw_sid h
  have ok := fnw_ok h s0 s1
  have rc := fnw_rcx h
  have ax := fnw_axe h
  have hX := AXS_o h.1.2.2.2.2.2.2.1.1 ax
  obtain ⟨h1, h2, h3, h4, h5, h6, h7, h8, h9, h10⟩ := h.1
  have s_lines := h1
  unfold R_lines at s_lines
  have w := (fp.2.1.2.2.2.2.2.2.2.2.1 (s / 2) (by omega) (by omega)).2.2
  have m5 := fp.2.1.2.2.2.1
  have eF : (K 2177 (s / 2) 0) = (G 2177 (s / 2) 0) := kg.1 _ _ (Or.inl (by decide))
  have ePx : ∀ i, (K 2174 i 0) = (G 2174 i 0) := fun i => kg.1 _ _ (Or.inl (by decide))
  have ePy : ∀ i, (K 2175 i 0) = (G 2175 i 0) := fun i => kg.1 _ _ (Or.inl (by decide))
  have pa := pt_ax h1 h2 hX ((fp.2.1.2.2.2.2.1 _ _).mp ⟨(G 2177 (s / 2) 0), w.1, by have := w.2.1; have := w.2.2.1; omega, rfl, rfl⟩)
  have os := ok.1
  have el := left_e (H := K) hX.1 hX.2.1 s0 ok.2 (by rw [so.2.2.1]; exact os.2.2.1) (by rw [so.2.2.1]; have := os.2.2.2.1; omega) (by rw [eF]; exact w.1) (by rw [eF]; have := w.2.1; have := w.2.2.1; omega) (by rw [so.2.2.2.2.2.2 s s0 s1]; exact os.2.2.2.2.2.2.2.2.1) (by rw [so.2.2.2.2.2.2 s s0 s1]; exact os.2.2.2.2.2.2.2.2.2.1) (by rw [eF, ePx]; exact pa.1) (by rw [eF, ePy]; exact pa.2)
  have ex : lux K s = lux G s := by
    unfold lux
    rw [so.2.2.2.2.2.2 s s0 s1, eF, ePx]
  have ey : luy K s = luy G s := by
    unfold luy
    rw [so.2.2.2.2.2.2 s s0 s1, eF, ePy]
  have lu := left_u h1 h2 h3 h4 fp.2.2 fp.2.1 h9.2.2.1 s0 s1
  rw [el, ex, ey, rc.2.2.1 _ _ lu.2.1 lu.2.2.1 lu.2.2.2.1 lu.2.2.2.2, fnw_own h]
  exact congrArg some lu.1
/-- what is to the right of a side is to the left of the other one of its piece -/
theorem use_right (h : FNW M K M0 K0 A D0 D E F G H C q m p R stt cnt) (s0 : 0 ≤ s) (s1 : s < 2 * p) : qf_X16_right 20000 s K = some (lfs D G (flp s)) := by
  have f := flp_s (G := G) (p := p) s0
  have l := use_left h f.2.1 (f.2.2.2.1 s1)
  have ok := fnw_ok h s0 s1
  unfold qf_X16_right
  rw [Int.tmod_eq_emod_of_nonneg s0]
  unfold flp at l ⊢
  by_cases g : s % 2 = 0
  · rw [if_pos g] at l ⊢
    rw [if_pos g, w32_id (x := s + 1) (by omega) (by omega), l]
    rfl
  · rw [if_neg g] at l ⊢
    rw [if_neg g, w32_id (x := s - 1) (by omega) (by omega), l]
    rfl
theorem right_lfo (h : FNW M K M0 K0 A D0 D E F G H C q m p R stt cnt) (s0 : 0 ≤ s) (s1 : s < 2 * p) : lfo (oF D) (-1) (sX G s) (sY G s) (rgt (sW G s)) = lfs D G (flp s) := by
  have f := flp_s (G := G) (p := p) s0
  have fp := fnw_fpi h
  have o1 := (fnw_ok h s0 s1).1
  have o2 := (fnw_ok h f.2.1 (f.2.2.2.1 s1)).1
  obtain ⟨h1, h2, h3, h4, h5, h6, h7, h8, h9, h10⟩ := h.1
  have w0 := o2.2.2.2.2.2.2.2.2.1
  have w1 := o2.2.2.2.2.2.2.2.2.2.1
  have lp := (lfo_p h2 h3 h4 h9.2.2.1 w0 w1 o2.1 (by rw [o2.2.1]; have := o2.2.2.1; omega)).2
  have rl := rgt_lft o1.2.2.2.2.2.2.2.2.1 o1.2.2.2.2.2.2.2.2.2.1
  unfold lfs
  rw [← lp, ← o2.2.2.2.2.2.2.2.2.2.2.1, ← o2.2.2.2.2.2.2.2.2.2.2.2.1, f.2.2.2.2.2.1, flp_w s0, rl.2.2.2.2.2.2.2.2]
  rfl
theorem use_len (h : FNW M K M0 K0 A D0 D E F G H C q m p R stt cnt) (s0 : 0 ≤ s) (s1 : s < 2 * p) : qf_X16_sideLength 20000 s K = some (sN G s) := by
  have fp := fnw_fpi h
  have so := fnw_sid h
  have ok := fnw_ok h s0 s1
  have w := (fp.1.2.2.2.2.2.2.2.2.1 (s / 2) (by omega) (by omega)).2.2
  have m5 := fp.1.2.2.2.1
  obtain ⟨a0, ab, bm, _⟩ := w
  have ba := fp.1.2.1.2.1 _ a0 (by omega)
  have bb := fp.1.2.1.2.1 _ (by omega : 0 ≤ (K 2178 (s / 2) 0)) bm
  have td : Int.tdiv s 2 = s / 2 := Int.tdiv_eq_ediv_of_nonneg s0
  unfold qf_X16_sideLength
  rw [td, if_pos (by omega), if_pos (by omega), if_pos (by omega), if_pos (by omega), if_pos (by omega), if_pos (by omega), w32_id (x := (K 2174 (K 2178 (s / 2) 0) 0) - (K 2174 (K 2177 (s / 2) 0) 0)) (by omega) (by omega), w32_id (x := (K 2174 (K 2178 (s / 2) 0) 0) - (K 2174 (K 2177 (s / 2) 0) 0) + (K 2175 (K 2178 (s / 2) 0) 0)) (by omega) (by omega), w32_id (by omega) (by omega), ← so.2.2.2.2.2.1 s]
  rfl
end US
