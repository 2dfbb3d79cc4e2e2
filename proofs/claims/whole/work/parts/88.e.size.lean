section UE
variable {M K A B C D D0 E F G H T V K0 M0 : qm} {a b c d k n m p r q' s t u v x y h i R S w : Int} {q stt cnt o f : Int → Int} {ow : Int → Int → Int}
noncomputable def ARS (T : qm) (ow : Int → Int → Int) (s r c : Int) : Int := cnt2 (fun x y => ow x y = s ∧ (rowf T y < r ∨ (rowf T y = r ∧ colf T x < c)))
theorem ars_b {r c : Int} : 0 ≤ ARS T ow s r c ∧ ARS T ow s r c ≤ 576 := cnt2_b
theorem ars_s (hN : RCX T ow) (s0 : 0 ≤ s) (r0 : 1 ≤ r) (r1 : r < (T 2157 13 0)) (c0 : 1 ≤ c) (c1 : c < (T 2157 12 0)) : ARS T ow s r (c + 1) = ARS T ow s r c + if (T 2168 (42 * r + c) 0) = s then ((T 2166 c 0) - (T 2166 (c - 1) 0)) * ((T 2167 r 0) - (T 2167 (r - 1) 0)) else 0 := by
  have own1 : ∀ x y, 0 ≤ x → x < 24 → 0 ≤ y → y < 24 → colf T x = c → rowf T y = r → ow x y = (T 2168 (42 * r + c) 0) := fun x y x0 x1 y0 y1 ec er => by
    rw [← hN.2.2.1 x y (by omega) (by omega) (by omega) (by omega)]
    unfold kuf
    rw [ec, er]
  have iC := fun x => colf_iff (x := x) hN.1 c0 c1
  have iR := fun x => rowf_iff (x := x) hN.2.1 r0 r1
  unfold ARS
  by_cases g : (T 2168 (42 * r + c) 0) = s
  · rw [if_pos g]
    have bC := hN.1.2.2 (c - 1) (by omega) (by omega)
    have bC2 := hN.1.2.2 c (by omega) (by omega)
    have bR := hN.2.1.2.2 (r - 1) (by omega) (by omega)
    have bR2 := hN.2.1.2.2 r (by omega) (by omega)
    have lC := hN.1.2.1 (c - 1) c (by omega) (by omega) c1
    have lR := hN.2.1.2.1 (r - 1) r (by omega) (by omega) r1
    have e := rect (a := (T 2166 (c - 1) 0)) (b := (T 2166 c 0)) (c := (T 2167 (r - 1) 0)) (d := (T 2167 r 0)) (by omega) (by omega) (by omega) (by omega)
    rw [if_pos lC, if_pos lR] at e
    rw [← e, ← cnt2_add]
    · refine cnt2_c (fun x y x0 x1 y0 y1 => ?_)
      have a1 := iC x
      have a2 := iR y
      have o1 := own1 x y x0 x1 y0 y1
      constructor
      · rintro ⟨z1, z2⟩
        by_cases gg : colf T x = c ∧ rowf T y = r
        · exact Or.inr ⟨a1.mp gg.1, a2.mp gg.2⟩
        · exact Or.inl ⟨z1, by omega⟩
      · rintro (⟨z1, z2⟩ | ⟨z1, z2⟩)
        · exact ⟨z1, by omega⟩
        · have h1 := a1.mpr z1
          have h2 := a2.mpr z2
          exact ⟨(o1 h1 h2).trans g, by omega⟩
    · rintro x y x0 x1 y0 y1 ⟨_, z1⟩ ⟨z2, z3⟩
      have h1 := (iC x).mpr z2
      have h2 := (iR y).mpr z3
      omega
  · rw [if_neg g, Int.add_zero]
    refine cnt2_c (fun x y x0 x1 y0 y1 => ?_)
    have o1 := own1 x y x0 x1 y0 y1
    constructor
    · rintro ⟨z1, z2⟩
      refine ⟨z1, ?_⟩
      by_cases gg : colf T x = c ∧ rowf T y = r
      · have := o1 gg.1 gg.2
        omega
      · omega
    · rintro ⟨z1, z2⟩
      exact ⟨z1, by omega⟩
theorem ars_end (hN : RCX T ow) (s0 : 0 ≤ s) : (∀ r c, (T 2157 12 0) ≤ c → ARS T ow s r c = ARS T ow s (r + 1) 1) ∧ (∀ r, (T 2157 13 0) ≤ r → ARS T ow s r 1 = cnt2 (fun x y => ow x y = s)) ∧ ARS T ow s 1 1 = 0 := by
  have i1 := fun x y (x0 : 0 ≤ x) (x1 : x < 24) (y0 : 0 ≤ y) (y1 : y < 24) (e : ow x y = s) => rcx_in hN x0 x1 y0 y1 (by omega)
  refine ⟨fun r c hc => ?_, fun r hr => ?_, ?_⟩
  · refine cnt2_c (fun x y x0 x1 y0 y1 => ?_)
    constructor
    · rintro ⟨z, z2⟩
      have := i1 x y x0 x1 y0 y1 z
      exact ⟨z, by omega⟩
    · rintro ⟨z, z2⟩
      have := i1 x y x0 x1 y0 y1 z
      exact ⟨z, by omega⟩
  · refine cnt2_c (fun x y x0 x1 y0 y1 => ?_)
    constructor
    · rintro ⟨z, z2⟩
      exact z
    · rintro z
      have := i1 x y x0 x1 y0 y1 z
      exact ⟨z, by omega⟩
  · refine cnt2_0 (fun x y x0 x1 y0 y1 => ?_)
    rintro ⟨z, z2⟩
    have := i1 x y x0 x1 y0 y1 z
    omega
theorem area_e (hN : RCX T ow) (s0 : 0 ≤ s) : qf_X16_size_L5 20000 20000 s w 0 1 T = some (.inr (cnt2 (fun x y => ow x y = s))) := by
  obtain ⟨z1, z2, z3⟩ := ars_end hN s0
  have C5 := SRx_n hN.1
  have R5 := SRy_n hN.2.1
  refine qW_e ?_
  unfold qf_X16_size_L5
  refine qW_loop (fun u => ∃ r, u = (s, w, ARS T ow s r 1, r) ∧ 1 ≤ r) (fun u => (26 - u.2.2.2).toNat) ?_ 20000 _ ⟨1, by rw [z3], by decide⟩ (by (try dsimp only); omega)
  rintro _ ⟨r, rfl, r0⟩
  unfold qf_X16_size_L5_b
  (try dsimp only)
  by_cases gr : (T 2157 13 0) ≤ r
  · rw [if_pos gr, z2 r gr]
    exact qW_some rfl
  rw [if_neg gr]
  refine qW_call (Q := fun o => o = .inr (ARS T ow s (r + 1) 1)) ?_ (fun o ho => by
    rw [ho]
    (try dsimp only)
    rw [w32_id (x := r + 1) (by omega) (by omega)]
    exact qW_some ⟨⟨r + 1, rfl, by omega⟩, by (try dsimp only); omega⟩)
  unfold qf_X16_size_L17
  refine qW_loop (fun u => ∃ c, u = (s, w, ARS T ow s r c, r, c) ∧ 1 ≤ c) (fun u => (26 - u.2.2.2.2).toNat) ?_ 20000 _ ⟨1, rfl, by decide⟩ (by (try dsimp only); omega)
  rintro _ ⟨c, rfl, c0⟩
  unfold qf_X16_size_L17_b qf_X16_size_J83
  (try dsimp only)
  by_cases gc : (T 2157 12 0) ≤ c
  · rw [if_pos gc, z1 r c gc]
    exact qW_some rfl
  have bC := hN.1.2.2 (c - 1) (by omega) (by omega)
  have bC2 := hN.1.2.2 c (by omega) (by omega)
  have bR := hN.2.1.2.2 (r - 1) (by omega) (by omega)
  have bR2 := hN.2.1.2.2 r (by omega) (by omega)
  have lC := hN.1.2.1 (c - 1) c (by omega) (by omega) (by omega)
  have lR := hN.2.1.2.1 (r - 1) r (by omega) (by omega) (by omega)
  have st := ars_s hN s0 r0 (show r < _ by omega) c0 (show c < _ by omega)
  have ab := ars_b (T := T) (ow := ow) (s := s) (r := r) (c := c)
  have ab2 := ars_b (T := T) (ow := ow) (s := s) (r := r) (c := c + 1)
  rw [if_neg gc, w32_id (x := 42 * r) (by omega) (by omega), w32_id (x := 42 * r + c) (by omega) (by omega), if_pos (by omega), w32_id (x := c + 1) (by omega) (by omega)]
  by_cases g : (T 2168 (42 * r + c) 0) = s
  · rw [if_pos g] at st
    rw [if_pos g, w32_id (x := c - 1) (by omega) (by omega), w32_id (x := r - 1) (by omega) (by omega), if_pos (by omega), if_pos (by omega), if_pos (by omega), if_pos (by omega), w32_id (x := (T 2166 c 0) - (T 2166 (c - 1) 0)) (by omega) (by omega), w32_id (x := (T 2167 r 0) - (T 2167 (r - 1) 0)) (by omega) (by omega)]
    have nn : 0 ≤ ((T 2166 c 0) - (T 2166 (c - 1) 0)) * ((T 2167 r 0) - (T 2167 (r - 1) 0)) := Int.mul_nonneg (by omega) (by omega)
    rw [w32_id (x := ((T 2166 c 0) - (T 2166 (c - 1) 0)) * ((T 2167 r 0) - (T 2167 (r - 1) 0))) (by omega) (by omega), w32_id (by omega) (by omega), ← st]
    exact qW_some ⟨⟨c + 1, rfl, by omega⟩, by (try dsimp only); omega⟩
  · rw [if_neg g] at st
    rw [if_neg g, w32_id (by omega) (by omega), ← st]
    exact qW_some ⟨⟨c + 1, rfl, by omega⟩, by (try dsimp only); omega⟩
theorem size_both (h : FNW M K M0 K0 A D0 D E F G H C q m p R stt cnt) (s0 : 0 ≤ s) (s1 : s < (M 51 3 0)) (w0 : 0 ≤ w) (w1 : w ≤ 2) : ∃ z, qf_X2_measureOf 20000 s w M = some z ∧ qf_X16_size 20000 s w K = some z ∧ 0 ≤ z ∧ z ≤ 100000 := by
  obtain ⟨t1, t2, t3, t4, t5, t6, t7, t8, t9, t10⟩ := fnw_tab h
  have fp := fnw_fpi h
  have rc := fnw_rcx h
  have pp : (K 2157 30 0) = p := ((fnw_kag h).1 2157 30 (by omega)).trans fp.2.1.2.2.2.2.2.1
  have p5 := fp.2.1.2.2.2.2.2.2.2.1
  have p0 := fp.2.1.2.2.2.2.2.2.1
  have h8 := h.1.2.2.2.2.2.2.2.1
  have hB := h.1.2.2.2.2.2.2.2.2.1
  have h10 := h.1.2.2.2.2.2.2.2.2.2
  have sp : (M 51 3 0) = (D 51 3 0) := (h.2.1 51 3 0 (by omega)).trans (h10.1 51 3 0 (by decide) (by decide) (by decide) (by decide) (by omega))
  have s100 : s < 100 := by have := h8.2.2.2.2.2.2.2; omega
  have c100 : 0 ≤ s ∧ s < 100 := ⟨s0, s100⟩
  have ar : (M 60 s 0) = cnt2 (fun x y => own M x y = s) := by
    rw [h.2.1 60 s 0 (by omega), h10.1 _ _ _ (by decide) (by decide) (by decide) (by decide) (by omega), h8.2.2.2.2.2.1 s s0 (by omega), cells_cnt2]
    refine cnt2_c (fun x y x0 x1 y0 y1 => ?_)
    rw [fnw_own h]
    have e : own D x y = D 56 (24 * x + y) 0 := if_pos ⟨x0, x1, y0, y1⟩
    rw [e]
  have sN24 : ∀ u, 0 ≤ u → u < 2 * p → 0 ≤ sN G u ∧ sN G u ≤ 24 := fun u u0 u1 => by
    have o := (fnw_ok h u0 u1).1
    have a1 := o.1.1
    have a2 := o.1.2.1
    omega
  have ed : (M 61 s 0) = sI (fun t => b01 (lfs D G t = s) * sN G t) (2 * p) := by
    rw [h.2.1 61 s 0 (by omega), h10.2.2.2.2.2.1 s s0 s100, side_sum h]
    refine sI_c (fun r r0 r1 => ?_)
    (try dsimp only)
    rw [← sI_mul]
    refine sI_c (fun j j0 j1 => ?_)
    (try dsimp only)
    rw [(ring_lfs h r0 r1 j0).1]
  have eb : ∀ n, 0 ≤ n → n ≤ 2 * p → 0 ≤ sI (fun t => b01 (lfs D G t = s) * sN G t) n ∧ sI (fun t => b01 (lfs D G t = s) * sN G t) n ≤ 24 * n := by
    intro n n0 n1
    have tm : ∀ t, 0 ≤ t → t < n → 0 ≤ b01 (lfs D G t = s) * sN G t ∧ b01 (lfs D G t = s) * sN G t ≤ 24 := fun t a b => by
      have w := sN24 t a (by omega)
      rcases b01_01 (p := lfs D G t = s) with e | e <;> rw [e] <;> omega
    refine ⟨sI_n (fun t a b => (tm t a b).1), ?_⟩
    have q := sI_le (f := fun t => b01 (lfs D G t = s) * sN G t) (g := fun _ => 24) (n := n) (fun t a b => (tm t a b).2)
    rw [sI_const] at q
    omega
  have eE : qf_X16_size_L103 20000 20000 s w (cnt2 (fun x y => own M x y = s)) 0 0 K = some (.inr (sI (fun t => b01 (lfs D G t = s) * sN G t) (2 * p))) := by
    refine qW_e ?_
    unfold qf_X16_size_L103
    refine qW_for (2 * p) (fun i u => u = (s, w, cnt2 (fun x y => own M x y = s), sI (fun t => b01 (lfs D G t = s) * sN G t) i, i)) ?_ ?_ rfl (by omega) (by omega)
    · rintro i _ i0 i1 rfl
      have b := eb i i0 (by omega)
      have sn := sN24 i i0 i1
      unfold qf_X16_size_L103_b qf_X16_size_J136
      (try dsimp only)
      rw [pp, w32_id (x := 2 * p) (by omega) (by omega), if_neg (by omega), w32_id (x := i + 1) (by omega) (by omega), sI_s i0]
      refine qW_eq (use_left h i0 i1) ?_
      (try dsimp only)
      by_cases g : lfs D G i = s
      · rw [if_pos g, b01_t g, Int.one_mul]
        refine qW_eq (use_len h i0 i1) ?_
        rw [w32_id (by omega) (by omega)]
        exact qW_some rfl
      · rw [if_neg g, b01_f g, Int.zero_mul, w32_id (by omega) (by omega)]
        exact qW_some rfl
    · rintro _ rfl
      unfold qf_X16_size_L103_b
      (try dsimp only)
      rw [pp, w32_id (x := 2 * p) (by omega) (by omega), if_pos (Int.le_refl _)]
      exact qW_some rfl
  obtain ⟨z, ez1, ez2⟩ := rings_both (v := s) h
  have zb : 0 ≤ z ∧ z ≤ 100000 := by
    have : qf_X2_countRings 20000 s M = some (sI (fun i => b01 (lfs D G (stt i) = s)) R) := by
      obtain ⟨_, _⟩ : True ∧ True := ⟨trivial, trivial⟩
      refine qW_e ?_
      unfold qf_X2_countRings
      refine qW_call (Q := fun o => o = .inr (sI (fun i => b01 (lfs D G (stt i) = s)) R)) ?_ (fun o ho => by rw [ho]; exact qW_some rfl)
      unfold qf_X2_countRings_L4
      refine qW_for R (fun r u => u = (s, sI (fun i => b01 (lfs D G (stt i) = s)) r, r)) ?_ ?_ rfl t3 (by omega)
      · rintro r _ r0 r1 rfl
        have b := sI_b (g := fun i => b01 (lfs D G (stt i) = s)) r0 (fun _ _ _ => b01_b)
        have w := (t5 r r0 r1).1
        unfold qf_X2_countRings_L4_b qf_X2_countRings_J30
        (try dsimp only)
        rw [if_neg (by omega), if_pos (by omega), w32_id (x := r + 1) (by omega) (by omega), w32_id (x := sI (fun i => b01 (lfs D G (stt i) = s)) r + 1) (by omega) (by omega), w32_id (x := sI (fun i => b01 (lfs D G (stt i) = s)) r + 0) (by omega) (by omega), sI_s r0]
        by_cases g : lfs D G (stt r) = s
        · rw [if_pos (by omega), b01_t g]
          exact qW_some rfl
        · rw [if_neg (by omega), b01_f g]
          exact qW_some rfl
      · rintro _ rfl
        unfold qf_X2_countRings_L4_b
        (try dsimp only)
        rw [if_pos (by omega)]
        exact qW_some rfl
    rw [ez1] at this
    cases this
    have b := sI_b (g := fun i => b01 (lfs D G (stt i) = s)) t3 (fun _ _ _ => b01_b)
    omega
  have cw : w = 0 ∨ w = 1 ∨ w = 2 := by omega
  have bb := cnt2_b (P := fun x y => own M x y = s)
  have be := eb (2 * p) (by omega) (Int.le_refl _)
  unfold qf_X2_measureOf qf_X16_size
  rw [area_e rc s0]
  rcases cw with rfl | rfl | rfl
  · refine ⟨cnt2 (fun x y => own M x y = s), qW_e ?_, qW_e ?_, by omega, by omega⟩
    · rw [if_pos rfl, if_pos c100, ar]
      exact qW_some rfl
    · refine qW_bind (qW_some ?_)
      (try dsimp only)
      refine qW_eq eE ?_
      (try dsimp only)
      rw [if_pos rfl]
      exact qW_some rfl
  · refine ⟨sI (fun t => b01 (lfs D G t = s) * sN G t) (2 * p), qW_e ?_, qW_e ?_, by omega, by omega⟩
    · rw [if_neg (by decide), if_pos rfl, if_pos c100, ed]
      exact qW_some rfl
    · refine qW_bind (qW_some ?_)
      (try dsimp only)
      refine qW_eq eE ?_
      (try dsimp only)
      rw [if_neg (by decide), if_pos rfl]
      exact qW_some rfl
  · refine ⟨z, qW_e ?_, qW_e ?_, zb.1, zb.2⟩
    · rw [if_neg (by decide), if_neg (by decide)]
      exact qW_eq ez1 (qW_some rfl)
    · refine qW_bind (qW_some ?_)
      (try dsimp only)
      refine qW_eq eE ?_
      (try dsimp only)
      rw [if_neg (by decide), if_neg (by decide)]
      exact qW_eq ez2 (qW_some rfl)
end UE
