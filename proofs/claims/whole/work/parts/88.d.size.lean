/-! ===== sizes, asked of both ===== -/
section UD
variable {M K A B C D D0 E F G H T V K0 M0 : qm} {a b c d k n m p r q' s t u v x y h i R S w : Int} {q stt cnt o f : Int → Int} {ow : Int → Int → Int}
/-- a sum over all sides, ring by ring -/
theorem side_sum (h : FNW M K M0 K0 A D0 D E F G H C q m p R stt cnt) : sI f (2 * p) = sI (fun r => sI (fun j => f (stI (nxs A G p) (stt r) j)) (cnt r)) R := by
  have fp := fnw_fpi h
  have hv := nxs_v h.1.1 h.1.2.1 h.1.2.2.1 h.1.2.2.2.1 fp.2.2 fp.2.1
  obtain ⟨⟨h1, h2, h3, h4, h5, h6, h7, h8, h9, h10⟩, hM, hK, _⟩ := h
  rw [← cov_sum hv h10.2.2.2.2.2.2.2.2 h10.2.1]
  refine sI_c (fun s s0 s1 => ?_)
  (try dsimp only)
  rw [b01_t (h7.2.2.2.2 s s0 s1), Int.one_mul]
theorem ring_lfs (h : FNW M K M0 K0 A D0 D E F G H C q m p R stt cnt) (r0 : 0 ≤ r) (r1 : r < R) (i0 : 0 ≤ i) : lfs D G (stI (nxs A G p) (stt r) i) = lfs D G (stt r) ∧ 0 ≤ stI (nxs A G p) (stt r) i ∧ stI (nxs A G p) (stt r) i < 2 * p := by
  obtain ⟨t1, t2, t3, t4, t5, t6, t7, t8, t9, t10⟩ := fnw_tab h
  have fp := fnw_fpi h
  have hv := nxs_v h.1.1 h.1.2.1 h.1.2.2.1 h.1.2.2.2.1 fp.2.2 fp.2.1
  have w := t7 r r0 r1
  exact ⟨lfs_ring h.1.1 h.1.2.1 h.1.2.2.1 h.1.2.2.2.1 fp.2.2 fp.2.1 h.1.2.2.2.2.2.2.2.2.1 w.2.2.1 w.2.2.2.1 i0, stI_v hv w.2.2.1 w.2.2.2.1 i i0⟩
theorem outer_both (h : FNW M K M0 K0 A D0 D E F G H C q m p R stt cnt) : ∃ z, qf_X2_countOutsideSides 20000 M = some z ∧ qf_X16_outerSides 20000 K = some z := by
  obtain ⟨t1, t2, t3, t4, t5, t6, t7, t8, t9, t10⟩ := fnw_tab h
  have fp := fnw_fpi h
  have pp : (K 2157 30 0) = p := ((fnw_kag h).1 2157 30 (by omega)).trans fp.2.1.2.2.2.2.2.1
  have p5 := fp.2.1.2.2.2.2.2.2.2.1
  have p0 := fp.2.1.2.2.2.2.2.2.1
  have hB := h.1.2.2.2.2.2.2.2.2.1
  have eq : sI (fun s => b01 (lfs D G s = -1)) (2 * p) = sI (fun r => b01 (lfs D G (stt r) = -1) * cnt r) R := by
    rw [side_sum h]
    refine sI_c (fun r r0 r1 => ?_)
    (try dsimp only)
    have w := t7 r r0 r1
    have e : sI (fun j => b01 (lfs D G (stI (nxs A G p) (stt r) j) = -1)) (cnt r) = sI (fun _ => b01 (lfs D G (stt r) = -1)) (cnt r) := sI_c (fun j j0 j1 => by
      (try dsimp only)
      rw [(ring_lfs h r0 r1 j0).1])
    rw [e, sI_const]
    have : ((cnt r).toNat : Int) = cnt r := by omega
    rw [this]
  refine ⟨sI (fun s => b01 (lfs D G s = -1)) (2 * p), qW_e ?_, qW_e ?_⟩
  · rw [eq]
    unfold qf_X2_countOutsideSides
    refine qW_call (Q := fun o => o = .inr (sI (fun r => b01 (lfs D G (stt r) = -1) * cnt r) R)) ?_ (fun o ho => by rw [ho]; exact qW_some rfl)
    unfold qf_X2_countOutsideSides_L4
    refine qW_for R (fun r s => s = (sI (fun r => b01 (lfs D G (stt r) = -1) * cnt r) r, r)) ?_ ?_ rfl t3 (by omega)
    · rintro r _ r0 r1 rfl
      have w := t5 r r0 r1
      have w2 := t7 r r0 r1
      have mono := sI_mono (f := cnt) (a := r + 1) (b := R) (by omega) (by omega) (fun i i0 i1 => by have := (t7 i (by omega) i1).2.2.2.2; omega)
      rw [sI_s r0] at mono
      have le := sI_le (f := fun r => b01 (lfs D G (stt r) = -1) * cnt r) (g := cnt) (n := r) (fun i i0 i1 => by
        have c := (t7 i i0 (by omega)).2.2.2.2
        (try dsimp only)
        rcases b01_01 (p := lfs D G (stt i) = -1) with e | e <;> rw [e] <;> omega)
      have ge := sI_n (f := fun r => b01 (lfs D G (stt r) = -1) * cnt r) (n := r) (fun i i0 i1 => by
        have c := (t7 i i0 (by omega)).2.2.2.2
        (try dsimp only)
        rcases b01_01 (p := lfs D G (stt i) = -1) with e | e <;> rw [e] <;> omega)
      unfold qf_X2_countOutsideSides_L4_b qf_X2_countOutsideSides_J37
      (try dsimp only)
      rw [if_neg (by omega), if_pos (by omega), w32_id (x := r + 1) (by omega) (by omega), sI_s r0]
      (try dsimp only)
      by_cases g : lfs D G (stt r) = -1
      · rw [if_pos (by omega), if_pos (by omega), b01_t g, Int.one_mul, w.2.2, w32_id (by omega) (by omega)]
        exact qW_some rfl
      · rw [if_neg (by omega), b01_f g, Int.zero_mul, w32_id (by omega) (by omega)]
        exact qW_some rfl
    · rintro _ rfl
      unfold qf_X2_countOutsideSides_L4_b
      (try dsimp only)
      rw [if_pos (by omega)]
      exact qW_some rfl
  · unfold qf_X16_outerSides
    refine qW_call (Q := fun o => o = .inr (sI (fun s => b01 (lfs D G s = -1)) (2 * p))) ?_ (fun o ho => by rw [ho]; exact qW_some rfl)
    unfold qf_X16_outerSides_L4
    refine qW_for (2 * p) (fun i s => s = (sI (fun s => b01 (lfs D G s = -1)) i, i)) ?_ ?_ rfl (by omega) (by omega)
    · rintro i _ i0 i1 rfl
      have sb := sI_b (g := fun s => b01 (lfs D G s = -1)) i0 (fun _ _ _ => b01_b)
      have lb := lfs_b (G := G) (s := i) hB
      unfold qf_X16_outerSides_L4_b qf_X16_outerSides_J28
      (try dsimp only)
      rw [pp, w32_id (x := 2 * p) (by omega) (by omega), if_neg (by omega), w32_id (x := i + 1) (by omega) (by omega), w32_id (x := sI (fun s => b01 (lfs D G s = -1)) i + 0) (by omega) (by omega), w32_id (x := sI (fun s => b01 (lfs D G s = -1)) i + 1) (by omega) (by omega), sI_s i0]
      refine qW_eq (use_left h i0 i1) ?_
      (try dsimp only)
      by_cases g : lfs D G i = -1
      · rw [if_neg (by omega), b01_t g]
        exact qW_some rfl
      · rw [if_pos (by omega), b01_f g]
        exact qW_some rfl
    · rintro _ rfl
      unfold qf_X16_outerSides_L4_b
      (try dsimp only)
      rw [pp, w32_id (x := 2 * p) (by omega) (by omega), if_pos (Int.le_refl _)]
      exact qW_some rfl
theorem points_both (h : FNW M K M0 K0 A D0 D E F G H C q m p R stt cnt) : qf_X2_countPoints 20000 M = some m ∧ (K 2157 27 0) = m := by
  have fp := fnw_fpi h
  have hB := h.1.2.2.2.2.2.2.2.2.1
  have h10 := h.1.2.2.2.2.2.2.2.2.2
  refine ⟨qW_e ?_, ((fnw_kag h).1 2157 27 (by omega)).trans fp.2.1.2.2.1⟩
  have ip : ∀ x y, 0 ≤ x → x ≤ 24 → 0 ≤ y → y ≤ 24 → (M 55 (25 * x + y) 0) = b01 (PT M0 A (M0 7 0 0) x y) := fun x y x0 x1 y0 y1 => by
    rw [h.2.1 55 _ 0 (by omega), h10.1 _ _ _ (by decide) (by decide) (by decide) (by decide) (by omega)]
    exact hB.2.1 x y x0 x1 y0 y1
  have m0 := fp.2.1.2.1.1
  have pts := fp.2.1.2.1
  have pin := fp.2.1.2.2.2.2.1
  have cntm := inj_eq (N := 625) m.toNat (fun v => PT M0 A (M0 7 0 0) (v / 25) (v % 25)) (fun i => kp G i) (fun i a b => by
    have w := pts.2.1 i a (by omega)
    have k : kp G i = 25 * (G 2174 i 0) + (G 2175 i 0) := rfl
    refine ⟨by omega, by omega, ?_⟩
    have e1 : kp G i / 25 = (G 2174 i 0) := by omega
    have e2 : kp G i % 25 = (G 2175 i 0) := by omega
    (try dsimp only)
    rw [e1, e2]
    exact (PL_PT h.1.2.1 h.1.2.2.2.1 w.1 w.2.1 w.2.2.1 w.2.2.2).mp ((pin _ _).mp ⟨i, a, by omega, rfl, rfl⟩)) (fun i j a b c z => by
    have := pts.2.2 i j a b (by omega)
    (try dsimp only at z)
    omega) (fun v v0 v1 z => by
    obtain ⟨i, i0, i1, i2, i3⟩ := (pin _ _).mpr ((PL_PT h.1.2.1 h.1.2.2.2.1 (by omega) (by omega) (by omega) (by omega)).mpr z)
    refine ⟨i, i0, by omega, ?_⟩
    unfold kp
    omega)
  (try dsimp only at cntm)
  have em : ((m.toNat : Nat) : Int) = m := by omega
  unfold qf_X2_countPoints
  refine qW_call (Q := fun o => o = .inr m) ?_ (fun o ho => by rw [ho]; exact qW_some rfl)
  unfold qf_X2_countPoints_L4
  refine qW_for 625 (fun i s => s = (sI (fun v => b01 (PT M0 A (M0 7 0 0) (v / 25) (v % 25))) i, i)) ?_ ?_ rfl (by decide) (by decide)
  · rintro i _ i0 i1 rfl
    have sb := sI_b (g := fun v => b01 (PT M0 A (M0 7 0 0) (v / 25) (v % 25))) i0 (fun _ _ _ => b01_b)
    have e := ip (i / 25) (i % 25) (by omega) (by omega) (by omega) (by omega)
    rw [show 25 * (i / 25) + i % 25 = i by omega] at e
    unfold qf_X2_countPoints_L4_b qf_X2_countPoints_J26
    (try dsimp only)
    rw [if_neg (by omega), if_pos ⟨i0, i1⟩, w32_id (x := i + 1) (by omega) (by omega), w32_id (x := sI (fun v => b01 (PT M0 A (M0 7 0 0) (v / 25) (v % 25))) i + 0) (by omega) (by omega), w32_id (x := sI (fun v => b01 (PT M0 A (M0 7 0 0) (v / 25) (v % 25))) i + 1) (by omega) (by omega), sI_s i0]
    (try dsimp only)
    rcases b01_o (p := PT M0 A (M0 7 0 0) (i / 25) (i % 25)) with ⟨e2, _⟩ | ⟨e2, _⟩
    · rw [if_neg (by omega), e2]
      exact qW_some rfl
    · rw [if_pos (by omega), e2]
      exact qW_some rfl
  · rintro _ rfl
    unfold qf_X2_countPoints_L4_b
    (try dsimp only)
    rw [if_pos (by decide), cntm, em]
    exact qW_some rfl
end UD
