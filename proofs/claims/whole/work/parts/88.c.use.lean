section UC
variable {M K A B C D D0 E F G H T V K0 M0 : qm} {a b c d k n m p r q' s t u v x y h i R S w : Int} {q stt cnt o : Int → Int}
theorem fnw_at (h : FNW M K M0 K0 A D0 D E F G H C q m p R stt cnt) (f0 : 0 ≤ r) (f1 : r < R) (j0 : 0 ≤ i) (j1 : i < cnt r) : 0 ≤ sI cnt r + i ∧ sI cnt r + i < 440 ∧ i < 440 := by
  obtain ⟨t1, t2, t3, t4, t5, t6, t7, t8, t9, t10⟩ := fnw_tab h
  have c0 : ∀ i, 0 ≤ i → i < R → 0 ≤ cnt i := fun i i0 i1 => by have := (t7 i i0 i1).2.2.2.2; omega
  have m1 := sI_mono (f := cnt) (a := r + 1) (b := R) (by omega) (by omega) (fun i i0 i1 => c0 i (by omega) i1)
  rw [sI_s f0] at m1
  have m2 := sI_n (f := cnt) (n := r) (fun i i0 i1 => c0 i i0 (by omega))
  omega
theorem sides_both (h : FNW M K M0 K0 A D0 D E F G H C q m p R stt cnt) (k0 : 0 ≤ k) (k1 : k < 2147483648) (hs : qf_X16_isSpace 20000 v K = some 1) : ∃ z, qf_X2_sidesOf 20000 v k M = some z ∧ qf_X16_sides 20000 v k K = some z ∧ (z = 0 ∨ ∃ f, RNK (fun r => lfs D G (stt r)) R v k f ∧ z = cnt f) := by
  obtain ⟨t1, t2, t3, t4, t5, t6, t7, t8, t9, t10⟩ := fnw_tab h
  obtain ⟨f, e1, c1⟩ := use_ringC (v := v) h k0
  obtain ⟨g, e2, c2⟩ := use_ringK (v := v) h k0 k1 hs
  unfold qf_X2_sidesOf qf_X16_sides
  rw [e1, e2]
  rcases c1 with ⟨rfl, n1⟩ | c1
  · rcases c2 with ⟨rfl, n2⟩ | c2
    · exact ⟨0, rfl, rfl, Or.inl rfl⟩
    · exact absurd c2 (n1 g)
  · rcases c2 with ⟨rfl, n2⟩ | c2
    · exact absurd c1 (n2 f)
    · have eq := rnk_one c1 c2
      subst eq
      have a := t5 f c1.1 c1.2.1
      have b := t7 f c1.1 c1.2.1
      refine ⟨cnt f, qW_e ?_, qW_e ?_, Or.inr ⟨f, c1, rfl⟩⟩
      · refine qW_bind (qW_some ?_)
        have c10 := c1.1
        have c11 := c1.2.1
        rw [if_neg (by omega), if_pos (by omega), a.2.2]
        exact qW_some rfl
      · refine qW_bind (qW_some ?_)
        have c10 := c1.1
        have c11 := c1.2.1
        rw [if_pos (by omega), if_pos (by omega), b.2.1]
        exact qW_some rfl
theorem side_both (h : FNW M K M0 K0 A D0 D E F G H C q m p R stt cnt) (k0 : 0 ≤ k) (k1 : k < 2147483648) (hs : qf_X16_isSpace 20000 v K = some 1) {z : Int} (hz : qf_X16_sides 20000 v k K = some z) (i0 : 0 ≤ i) (i1 : i < z) (w0 : 0 ≤ w) (w1 : w ≤ 5) : ∃ y, qf_X2_sideOf 20000 v k i w M = some y ∧ qf_X16_side 20000 v k i w K = some y := by
  obtain ⟨t1, t2, t3, t4, t5, t6, t7, t8, t9, t10⟩ := fnw_tab h
  obtain ⟨z2, _, ez, cz⟩ := sides_both (v := v) h k0 k1 hs
  rw [ez] at hz
  cases hz
  obtain ⟨f, e1, c1⟩ := use_ringC (v := v) h k0
  obtain ⟨g, e2, c2⟩ := use_ringK (v := v) h k0 k1 hs
  have hf : ∃ f, RNK (fun r => lfs D G (stt r)) R v k f ∧ z = cnt f := by
    rcases cz with cz | cz
    · omega
    · exact cz
  obtain ⟨f2, c3, ec⟩ := hf
  have eg : g = f2 := by
    rcases c2 with ⟨_, n2⟩ | c2
    · exact absurd c3 (n2 f2)
    · exact rnk_one c2 c3
  have ef : f = f2 := by
    rcases c1 with ⟨_, n1⟩ | c1
    · exact absurd c3 (n1 f2)
    · exact rnk_one c1 c3
  subst eg
  subst ef
  have fr0 := c3.1
  have fr1 := c3.2.1
  have a := t5 f fr0 fr1
  have b := t7 f fr0 fr1
  have at1 := fnw_at h fr0 fr1 i0 (by omega : i < cnt f)
  have fp := fnw_fpi h
  have so := fnw_sid h
  have hv := nxs_v h.1.1 h.1.2.1 h.1.2.2.1 h.1.2.2.2.1 fp.2.2 fp.2.1
  have sv := stI_v hv b.2.2.1 b.2.2.2.1
  have sd := h.1.2.2.2.2.2.2.2.2.2.2.2.2.2.1 f i fr0 fr1 i0 (by omega)
  have mt : ∀ r j, M 283 r j = C 283 r j := fun r j => h.2.1 _ r j (by omega)
  obtain ⟨u, hu⟩ : ∃ u, stI (nxs A G p) (stt f) i = u := ⟨_, rfl⟩
  have su := sv i i0
  rw [hu] at sd su
  have ok := fnw_ok h su.1 su.2
  obtain ⟨d0, d1, d2, d3, d4, d5⟩ := sd
  rw [← mt] at d0 d1 d2 d3 d4 d5
  have eC : qf_X2_sideOf 20000 v k i w M = some (M 283 (sI cnt f + i) w) := by
    refine qW_e ?_
    unfold qf_X2_sideOf
    refine qW_eq e1 ?_
    (try dsimp only)
    rw [if_neg (by omega), if_pos (by omega), a.2.1, w32_id (x := sI cnt f + i) (by omega) (by omega), if_pos ⟨at1.1, at1.2.1⟩, if_pos (by omega)]
    exact qW_some rfl
  have i440 := at1.2.2
  refine ⟨_, eC, ?_⟩
  have eN : qf_X16_side_L16 20000 20000 i w (stt f) 0 K = some (.inr u) := by
    refine qW_e ?_
    unfold qf_X16_side_L16
    refine qW_for i (fun j s => s = (i, w, stI (nxs A G p) (stt f) j, j)) ?_ ?_ rfl i0 (by omega)
    · rintro j _ j0 j1 rfl
      have vj := sv j j0
      unfold qf_X16_side_L16_b
      (try dsimp only)
      rw [if_neg (by omega), w32_id (x := j + 1) (by omega) (by omega)]
      refine qW_eq (use_next h vj.1 vj.2) ?_
      rw [← stI_s (nx := nxs A G p) (s := stt f) j0]
      exact qW_some rfl
    · rintro _ rfl
      unfold qf_X16_side_L16_b
      (try dsimp only)
      rw [if_pos (Int.le_refl _), hu]
      exact qW_some rfl
  have td : Int.tdiv u 2 = u / 2 := Int.tdiv_eq_ediv_of_nonneg su.1
  have eF := sF_e (G := K) su.1 (by omega : u < 920)
  have eT := sT_e (G := K) su.1 (by omega : u < 920)
  have os := ok.1
  have m5 := fp.2.1.2.2.2.1
  have mm := fp.2.1.2.2.1
  have ePx : ∀ i, (K 2174 i 0) = (G 2174 i 0) := fun i => (fnw_kag h).1 _ _ (Or.inl (by decide))
  have ePy : ∀ i, (K 2175 i 0) = (G 2175 i 0) := fun i => (fnw_kag h).1 _ _ (Or.inl (by decide))
  have f0 := os.2.2.2.2.2.2.2.2.2.2.2.2.1
  have f1 := os.2.2.2.2.2.2.2.2.2.2.2.2.2.1
  have f2 := os.2.2.2.2.2.2.2.2.2.2.2.2.2.2.1
  have f3 := os.2.2.2.2.2.2.2.2.2.2.2.2.2.2.2
  refine qW_e ?_
  unfold qf_X16_side
  refine qW_eq e2 ?_
  rw [if_pos (by omega), b.1]
  refine qW_eq eN ?_
  (try dsimp only)
  have cw : w = 0 ∨ w = 1 ∨ w = 2 ∨ w = 3 ∨ w = 4 ∨ w = 5 := by omega
  rcases cw with rfl | rfl | rfl | rfl | rfl | rfl
  · rw [if_pos rfl, td, if_pos (by omega), d0]
    exact qW_some (so.2.2.1 u)
  · rw [if_neg (by decide), if_pos rfl]
    refine qW_eq eF ?_
    rw [so.1 u, if_pos (by omega), d1, ePx]
    exact qW_some rfl
  · rw [if_neg (by decide), if_neg (by decide), if_pos rfl]
    refine qW_eq eF ?_
    rw [so.1 u, if_pos (by omega), d2, ePy]
    exact qW_some rfl
  · rw [if_neg (by decide), if_neg (by decide), if_neg (by decide), if_pos rfl]
    refine qW_eq eT ?_
    rw [so.2.1 u, if_pos (by omega), d3, ePx]
    exact qW_some os.2.2.2.2.2.2.2.2.2.2.1
  · rw [if_neg (by decide), if_neg (by decide), if_neg (by decide), if_neg (by decide), if_pos rfl]
    refine qW_eq eT ?_
    rw [so.2.1 u, if_pos (by omega), d4, ePy]
    exact qW_some os.2.2.2.2.2.2.2.2.2.2.2.1
  · rw [if_neg (by decide), if_neg (by decide), if_neg (by decide), if_neg (by decide), if_neg (by decide)]
    refine qW_eq (use_right h su.1 su.2) ?_
    rw [d5]
    exact qW_some (right_lfo h su.1 su.2).symm
/-- how many rings -/
theorem rings_both (h : FNW M K M0 K0 A D0 D E F G H C q m p R stt cnt) : ∃ z, qf_X2_countRings 20000 v M = some z ∧ qf_X16_ringsOf 20000 v K = some z := by
  obtain ⟨t1, t2, t3, t4, t5, t6, t7, t8, t9, t10⟩ := fnw_tab h
  have sb := fun r (r0 : 0 ≤ r) => sI_b (g := fun i => b01 (lfs D G (stt i) = v)) r0 (fun _ _ _ => b01_b)
  refine ⟨sI (fun i => b01 (lfs D G (stt i) = v)) R, qW_e ?_, qW_e ?_⟩
  · unfold qf_X2_countRings
    refine qW_call (Q := fun o => o = .inr (sI (fun i => b01 (lfs D G (stt i) = v)) R)) ?_ (fun o ho => by rw [ho]; exact qW_some rfl)
    unfold qf_X2_countRings_L4
    refine qW_for R (fun r s => s = (v, sI (fun i => b01 (lfs D G (stt i) = v)) r, r)) ?_ ?_ rfl t3 (by omega)
    · rintro r _ r0 r1 rfl
      have b := sb r r0
      have w := (t5 r r0 r1).1
      unfold qf_X2_countRings_L4_b qf_X2_countRings_J30
      (try dsimp only)
      rw [if_neg (by omega), if_pos (by omega), w32_id (x := r + 1) (by omega) (by omega), w32_id (x := sI (fun i => b01 (lfs D G (stt i) = v)) r + 1) (by omega) (by omega), w32_id (x := sI (fun i => b01 (lfs D G (stt i) = v)) r + 0) (by omega) (by omega), sI_s r0]
      by_cases g : lfs D G (stt r) = v
      · rw [if_pos (by omega), b01_t g]
        exact qW_some rfl
      · rw [if_neg (by omega), b01_f g]
        exact qW_some rfl
    · rintro _ rfl
      unfold qf_X2_countRings_L4_b
      (try dsimp only)
      rw [if_pos (by omega)]
      exact qW_some rfl
  · unfold qf_X16_ringsOf
    refine qW_call (Q := fun o => o = .inr (sI (fun i => b01 (lfs D G (stt i) = v)) R)) ?_ (fun o ho => by rw [ho]; exact qW_some rfl)
    unfold qf_X16_ringsOf_L4
    refine qW_for R (fun r s => s = (v, sI (fun i => b01 (lfs D G (stt i) = v)) r, r)) ?_ ?_ rfl t3 (by omega)
    · rintro r _ r0 r1 rfl
      have b := sb r r0
      have w := t7 r r0 r1
      have el := use_left h w.2.2.1 w.2.2.2.1
      rw [← w.1] at el
      unfold qf_X16_ringsOf_L4_b qf_X16_ringsOf_J32
      (try dsimp only)
      rw [if_neg (by omega), if_pos (by omega)]
      refine qW_eq el ?_
      (try dsimp only)
      rw [w.1, w32_id (x := r + 1) (by omega) (by omega), w32_id (x := sI (fun i => b01 (lfs D G (stt i) = v)) r + 1) (by omega) (by omega), w32_id (x := sI (fun i => b01 (lfs D G (stt i) = v)) r + 0) (by omega) (by omega), sI_s r0]
      by_cases g : lfs D G (stt r) = v
      · rw [if_pos g, b01_t g]
        exact qW_some rfl
      · rw [if_neg g, b01_f g]
        exact qW_some rfl
    · rintro _ rfl
      unfold qf_X16_ringsOf_L4_b
      (try dsimp only)
      rw [if_pos (by omega)]
      exact qW_some rfl
end UC
