section BY
variable {M K A B C D D0 E F G H T V K0 M0 : qm} {a b c d k n m p r q' s t u v x y h i j R S w x1 x2 L N sp ot : Int} {q stt cnt o f : Int → Int} {P : Int → Prop}
theorem wall_wf (h_ends : R_ends M K) (hA : WAL M A (M 7 0 0)) (x0 : 0 ≤ x) (x1 : x ≤ 24) (y0 : 0 ≤ y) (y1 : y ≤ 24) (d0 : 0 ≤ d) (d1 : d ≤ 1) : A 52 d (25 * x + y) = wf A d x y := by
  have r := hA.2 d x y d0 d1 x0 x1 y0 y1
  have c : d = 0 ∨ d = 1 := by omega
  unfold wf
  rcases c with rfl | rfl
  · rw [if_pos rfl]
    by_cases g : 24 ≤ x
    · rw [if_pos g]
      rcases r with ⟨e, _⟩ | ⟨e1, e2, e3⟩
      · exact e
      · have := onU_b h_ends e1 e2 e3
        omega
    · rw [if_neg g]
  · rw [if_neg (by decide), if_pos rfl]
    by_cases g : 24 ≤ y
    · rw [if_pos g]
      rcases r with ⟨e, _⟩ | ⟨e1, e2, e3⟩
      · exact e
      · have := onU_b h_ends e1 e2 e3
        omega
    · rw [if_neg g]
theorem betw_both (h : FNW M K M0 K0 A D0 D E F G H C q m p R stt cnt) : ∃ z, qf_X2_lengthBetween 20000 sp ot M = some z ∧ qf_X16_between 20000 sp ot K = some z := by
  have fp := fnw_fpi h
  have pp : (K 2157 30 0) = p := ((fnw_kag h).1 2157 30 (by omega)).trans fp.2.1.2.2.2.2.2.1
  have p5 := fp.2.1.2.2.2.2.2.2.2.1
  have p0 := fp.2.1.2.2.2.2.2.2.1
  have h10 := h.1.2.2.2.2.2.2.2.2.2
  have hB := h.1.2.2.2.2.2.2.2.2.1
  have bs := betw_sum (c := fun a b => (a = sp ∧ b = ot) ∨ (a = ot ∧ b = sp)) h
  (try dsimp only at bs)
  obtain ⟨Z, hZ⟩ : ∃ Z, sI (fun s => b01 ((lfs D G (2 * s) = sp ∧ lfs D G (2 * s + 1) = ot) ∨ (lfs D G (2 * s) = ot ∧ lfs D G (2 * s + 1) = sp)) * sN G (2 * s)) p = Z := ⟨_, rfl⟩
  rw [hZ] at bs
  refine ⟨Z, qW_e ?_, qW_e ?_⟩
  · have oF2 : oF M = oF D := by
      funext v
      show M 56 v 0 = D 56 v 0
      rw [h.2.1 _ v 0 (by omega)]
      exact h10.1 _ v 0 (by decide) (by decide) (by decide) (by decide) (by omega)
    have mw : ∀ i j, M 52 i j = A 52 i j := fun i j => by
      rw [h.2.1 _ i j (by omega), h10.1 _ i j (by decide) (by decide) (by decide) (by decide) (by omega)]
      exact hB.1 i j
    obtain ⟨U, hU⟩ : ∃ U : Int → Int, U = fun v => b01 (wf A (v % 2) (v / 50) (v / 2 % 25) ≠ -1 ∧ ((lfo (oF D) (-1) (v / 50) (v / 2 % 25) (v % 2) = sp ∧ lfo (oF D) (-1) (v / 50) (v / 2 % 25) (rgt (v % 2)) = ot) ∨ (lfo (oF D) (-1) (v / 50) (v / 2 % 25) (v % 2) = ot ∧ lfo (oF D) (-1) (v / 50) (v / 2 % 25) (rgt (v % 2)) = sp))) := ⟨_, rfl⟩
    rw [← hU] at bs
    have ub : ∀ v, 0 ≤ U v ∧ U v ≤ 1 := fun v => by rw [hU]; exact b01_b
    unfold qf_X2_lengthBetween
    refine qW_call (Q := fun o => o = .inr Z) ?_ (fun o ho => by rw [ho]; exact qW_some rfl)
    unfold qf_X2_lengthBetween_L5
    refine qW_for 625 (fun i s => s = (sp, ot, sI U (2 * i), i)) ?_ ?_ rfl (by omega) (by omega)
    · rintro i _ i0 i1 rfl
      unfold qf_X2_lengthBetween_L5_b
      (try dsimp only)
      rw [if_neg (by omega), w32_id (x := i + 1) (by omega) (by omega)]
      refine qW_call (Q := fun o => o = .inr (sI U (2 * (i + 1)))) ?_ (fun o ho => by rw [ho]; exact qW_some rfl)
      unfold qf_X2_lengthBetween_L16
      refine qW_for 2 (fun d s => s = (sp, ot, sI U (2 * i + d), i, d)) ?_ ?_ (by rw [Int.add_zero]) (by omega) (by omega)
      · rintro d _ d0 d1 rfl
        have sb := sI_b (g := U) (i := 2 * i + d) (by omega) (fun k _ _ => ub k)
        have ex : (2 * i + d) / 50 = i / 25 := by omega
        have ey : (2 * i + d) / 2 % 25 = i % 25 := by omega
        have ed : (2 * i + d) % 2 = d := by omega
        have tX : Int.tdiv i 25 = i / 25 := Int.tdiv_eq_ediv_of_nonneg i0
        have tY : Int.tmod i 25 = i % 25 := Int.tmod_eq_emod_of_nonneg i0
        have eU : U (2 * i + d) = b01 (wf A d (i / 25) (i % 25) ≠ -1 ∧ ((lfo (oF D) (-1) (i / 25) (i % 25) d = sp ∧ lfo (oF D) (-1) (i / 25) (i % 25) (rgt d) = ot) ∨ (lfo (oF D) (-1) (i / 25) (i % 25) d = ot ∧ lfo (oF D) (-1) (i / 25) (i % 25) (rgt d) = sp))) := by
          rw [hU]
          (try dsimp only)
          rw [ex, ey, ed]
        have el := leftOf_e (C := M) (x := i / 25) (y := i % 25) (w := d) (by omega) (by omega) (by omega) (by omega) d0 (by omega)
        have er := rightOf_e (C := M) (x := i / 25) (y := i % 25) (w := d) (by omega) (by omega) (by omega) (by omega) d0 (by omega)
        rw [oF2] at el er
        have ww := wall_wf h.1.2.1 h.1.2.2.2.1 (x := i / 25) (y := i % 25) (d := d) (by omega) (by omega) (by omega) (by omega) d0 (by omega)
        rw [show 25 * (i / 25) + i % 25 = i by omega] at ww
        have wm := (mw d i).trans ww
        obtain ⟨a, ha⟩ : ∃ a, lfo (oF D) (-1) (i / 25) (i % 25) d = a := ⟨_, rfl⟩
        obtain ⟨b, hb⟩ : ∃ b, lfo (oF D) (-1) (i / 25) (i % 25) (rgt d) = b := ⟨_, rfl⟩
        rw [ha, hb] at eU
        rw [ha] at el
        rw [hb] at er
        have nxt : sI U (2 * i + (d + 1)) = sI U (2 * i + d) + U (2 * i + d) := by
          rw [show 2 * i + (d + 1) = 2 * i + d + 1 by omega, sI_s (by omega)]
        have j0 : ∀ v, v = U (2 * i + d) → w32 (sI U (2 * i + d) + v) = sI U (2 * i + (d + 1)) := fun v e => by
          have := ub (2 * i + d)
          rw [e, nxt, w32_id (by omega) (by omega)]
        unfold qf_X2_lengthBetween_L16_b qf_X2_lengthBetween_J82 qf_X2_lengthBetween_J70 qf_X2_lengthBetween_J82 qf_X2_lengthBetween_J86 qf_X2_lengthBetween_J87 qf_X2_lengthBetween_J113 qf_X2_lengthBetween_J114
        (try dsimp only)
        rw [if_neg (by omega), tX, tY, w32_id (x := d + 1) (by omega) (by omega)]
        refine qW_eq el ?_
        refine qW_eq er ?_
        (try dsimp only)
        have no : ¬ ((a = sp ∧ b = ot) ∨ (a = ot ∧ b = sp)) → w32 (sI U (2 * i + d) + 0) = sI U (2 * i + (d + 1)) := fun z => j0 0 (by rw [eU, b01_f (fun y => z y.2)])
        have yes : ((a = sp ∧ b = ot) ∨ (a = ot ∧ b = sp)) → (M 52 d i = -1 → w32 (sI U (2 * i + d) + 0) = sI U (2 * i + (d + 1))) ∧ (M 52 d i ≠ -1 → w32 (sI U (2 * i + d) + 1) = sI U (2 * i + (d + 1))) := fun z => ⟨fun y => j0 0 (by rw [eU, b01_f (fun w => w.1 (by rw [← wm]; exact y))]), fun y => j0 1 (by rw [eU, b01_t ⟨by rw [← wm]; exact y, z⟩])⟩
        have cd : 0 ≤ d ∧ d < 2 := ⟨d0, d1⟩
        have ci : 0 ≤ i ∧ i < 625 := ⟨i0, i1⟩
        have hit : ((a = sp ∧ b = ot) ∨ (a = ot ∧ b = sp)) → qW (if (1 : Int) = 0 then some (.inr (sp, ot, w32 (sI U (2 * i + d) + 0), i, d + 1)) else if 0 ≤ d ∧ d < 2 then if 0 ≤ i ∧ i < 625 then if M 52 d i = -1 then some (.inr (sp, ot, w32 (sI U (2 * i + d) + 0), i, d + 1)) else some (.inr (sp, ot, w32 (sI U (2 * i + d) + 1), i, d + 1)) else none else none : Option ((Int ⊕ Int) ⊕ (Int × Int × Int × Int × Int))) (fun o => o = .inr (sp, ot, sI U (2 * i + (d + 1)), i, d + 1)) := fun z => by
          have y := yes z
          rw [if_neg (by decide), if_pos cd, if_pos ci]
          by_cases g : M 52 d i = -1
          · rw [if_pos g, y.1 g]
            exact qW_some rfl
          · rw [if_neg g, y.2 g]
            exact qW_some rfl
        have miss : ¬ ((a = sp ∧ b = ot) ∨ (a = ot ∧ b = sp)) → qW (if (0 : Int) = 0 then some (.inr (sp, ot, w32 (sI U (2 * i + d) + 0), i, d + 1)) else if 0 ≤ d ∧ d < 2 then if 0 ≤ i ∧ i < 625 then if M 52 d i = -1 then some (.inr (sp, ot, w32 (sI U (2 * i + d) + 0), i, d + 1)) else some (.inr (sp, ot, w32 (sI U (2 * i + d) + 1), i, d + 1)) else none else none : Option ((Int ⊕ Int) ⊕ (Int × Int × Int × Int × Int))) (fun o => o = .inr (sp, ot, sI U (2 * i + (d + 1)), i, d + 1)) := fun z => by
          rw [if_pos rfl, no z]
          exact qW_some rfl
        by_cases g1 : a = sp
        · rw [if_pos g1]
          by_cases g2 : b = ot
          · rw [if_pos g2]
            refine qW_mono (hit (Or.inl ⟨g1, g2⟩)) ?_
            rintro _ rfl
            rfl
          · rw [if_neg g2]
            by_cases g3 : a = ot
            · rw [if_pos g3]
              by_cases g4 : b = sp
              · rw [if_pos g4]
                refine qW_mono (hit (Or.inr ⟨g3, g4⟩)) ?_
                rintro _ rfl
                rfl
              · rw [if_neg g4]
                refine qW_mono (miss (by omega)) ?_
                rintro _ rfl
                rfl
            · rw [if_neg g3]
              refine qW_mono (miss (by omega)) ?_
              rintro _ rfl
              rfl
        · rw [if_neg g1]
          by_cases g3 : a = ot
          · rw [if_pos g3]
            by_cases g4 : b = sp
            · rw [if_pos g4]
              refine qW_mono (hit (Or.inr ⟨g3, g4⟩)) ?_
              rintro _ rfl
              rfl
            · rw [if_neg g4]
              refine qW_mono (miss (by omega)) ?_
              rintro _ rfl
              rfl
          · rw [if_neg g3]
            refine qW_mono (miss (by omega)) ?_
            rintro _ rfl
            rfl
      · rintro _ rfl
        unfold qf_X2_lengthBetween_L16_b
        (try dsimp only)
        rw [if_pos (by decide)]
        exact qW_some (by rw [show 2 * i + 2 = 2 * (i + 1) by omega])
    · rintro _ rfl
      unfold qf_X2_lengthBetween_L5_b
      (try dsimp only)
      rw [if_pos (by decide)]
      exact qW_some (by rw [show (2 : Int) * 625 = 1250 by decide, bs])
  · have sN24 : ∀ u, 0 ≤ u → u < 2 * p → 0 ≤ sN G u ∧ sN G u ≤ 24 := fun u u0 u1 => by
      have o := (fnw_ok h u0 u1).1
      have a1 := o.1.1
      have a2 := o.1.2.1
      omega
    have eb : ∀ ot, qf_X16_beside 20000 sp ot K = some (sI (fun s => b01 (lfs D G s = sp ∧ lfs D G (flp s) = ot) * sN G s) (2 * p)) := by
      intro ot
      have bd : ∀ n, 0 ≤ n → n ≤ 2 * p → 0 ≤ sI (fun s => b01 (lfs D G s = sp ∧ lfs D G (flp s) = ot) * sN G s) n ∧ sI (fun s => b01 (lfs D G s = sp ∧ lfs D G (flp s) = ot) * sN G s) n ≤ 24 * n := by
        intro n n0 n1
        have tm : ∀ t, 0 ≤ t → t < n → 0 ≤ b01 (lfs D G t = sp ∧ lfs D G (flp t) = ot) * sN G t ∧ b01 (lfs D G t = sp ∧ lfs D G (flp t) = ot) * sN G t ≤ 24 := fun t a b => by
          have w := sN24 t a (by omega)
          rcases b01_01 (p := lfs D G t = sp ∧ lfs D G (flp t) = ot) with e | e <;> rw [e] <;> omega
        refine ⟨sI_n (fun t a b => (tm t a b).1), ?_⟩
        have q := sI_le (f := fun t => b01 (lfs D G t = sp ∧ lfs D G (flp t) = ot) * sN G t) (g := fun _ => 24) (n := n) (fun t a b => (tm t a b).2)
        rw [sI_const] at q
        omega
      refine qW_e ?_
      unfold qf_X16_beside
      refine qW_call (Q := fun o => o = .inr (sI (fun s => b01 (lfs D G s = sp ∧ lfs D G (flp s) = ot) * sN G s) (2 * p))) ?_ (fun o ho => by rw [ho]; exact qW_some rfl)
      unfold qf_X16_beside_L5
      refine qW_for (2 * p) (fun i u => u = (sp, ot, sI (fun s => b01 (lfs D G s = sp ∧ lfs D G (flp s) = ot) * sN G s) i, i)) ?_ ?_ rfl (by omega) (by omega)
      · rintro i _ i0 i1 rfl
        have b := bd i i0 (by omega)
        have sn := sN24 i i0 i1
        unfold qf_X16_beside_L5_b qf_X16_beside_J46 qf_X16_beside_J47
        (try dsimp only)
        rw [pp, w32_id (x := 2 * p) (by omega) (by omega), if_neg (by omega), w32_id (x := i + 1) (by omega) (by omega), sI_s i0]
        (try dsimp only)
        refine qW_eq (use_left h i0 i1) ?_
        (try dsimp only)
        by_cases g : lfs D G i = sp
        · rw [if_pos g]
          refine qW_eq (use_right h i0 i1) ?_
          (try dsimp only)
          by_cases g2 : lfs D G (flp i) = ot
          · rw [if_pos g2, b01_t ⟨g, g2⟩, Int.one_mul]
            refine qW_eq (use_len h i0 i1) ?_
            rw [w32_id (by omega) (by omega)]
            exact qW_some rfl
          · rw [if_neg g2, b01_f (fun z => g2 z.2), Int.zero_mul, w32_id (by omega) (by omega)]
            exact qW_some rfl
        · rw [if_neg g, b01_f (fun z => g z.1), Int.zero_mul, w32_id (by omega) (by omega)]
          exact qW_some rfl
      · rintro _ rfl
        unfold qf_X16_beside_L5_b
        (try dsimp only)
        rw [pp, w32_id (x := 2 * p) (by omega) (by omega), if_pos (Int.le_refl _)]
        exact qW_some rfl
    have f0 : ∀ q, 0 ≤ q → flp (2 * q) = 2 * q + 1 ∧ flp (2 * q + 1) = 2 * q ∧ sN G (2 * q + 1) = sN G (2 * q) := fun q q0 => by
      have e : flp (2 * q) = 2 * q + 1 := by unfold flp; rw [if_pos (by omega)]
      have w := flp_s (G := G) (p := 0) (by omega : 0 ≤ 2 * q)
      rw [e] at w
      exact ⟨e, w.1, w.2.2.2.2.2.2.2⟩
    unfold qf_X16_between
    by_cases g : sp = ot
    · rw [if_pos g]
      refine qW_eq (eb sp) ?_
      rw [sI_even p0]
      have e1 : sI (fun q => b01 (lfs D G (2 * q) = sp ∧ lfs D G (flp (2 * q)) = sp) * sN G (2 * q) + b01 (lfs D G (2 * q + 1) = sp ∧ lfs D G (flp (2 * q + 1)) = sp) * sN G (2 * q + 1)) p = 2 * Z := by
        rw [← hZ, ← sI_mul]
        refine sI_c (fun q q0 q1 => ?_)
        (try dsimp only)
        have w := f0 q q0
        rw [w.1, w.2.1, w.2.2, ← g, b01_c (p := lfs D G (2 * q + 1) = sp ∧ lfs D G (2 * q) = sp) (q := lfs D G (2 * q) = sp ∧ lfs D G (2 * q + 1) = sp) ⟨fun z => ⟨z.2, z.1⟩, fun z => ⟨z.2, z.1⟩⟩, b01_c (p := (lfs D G (2 * q) = sp ∧ lfs D G (2 * q + 1) = sp) ∨ (lfs D G (2 * q) = sp ∧ lfs D G (2 * q + 1) = sp)) (q := lfs D G (2 * q) = sp ∧ lfs D G (2 * q + 1) = sp) ⟨fun z => z.elim id id, Or.inl⟩]
        omega
      rw [e1, Int.tdiv_eq_ediv_of_nonneg]
      · refine qW_some ?_
        omega
      · have zn : 0 ≤ Z := by
          rw [← hZ]
          refine sI_n (fun t a b => ?_)
          have w := sN24 (2 * t) (by omega) (by omega)
          (try dsimp only)
          rcases b01_01 (p := (lfs D G (2 * t) = sp ∧ lfs D G (2 * t + 1) = ot) ∨ (lfs D G (2 * t) = ot ∧ lfs D G (2 * t + 1) = sp)) with e | e <;> rw [e] <;> omega
        omega
    · rw [if_neg g]
      refine qW_eq (eb ot) ?_
      rw [sI_even p0]
      refine qW_some ?_
      rw [← hZ]
      refine sI_c (fun q q0 q1 => ?_)
      (try dsimp only)
      have w := f0 q q0
      rw [w.1, w.2.1, w.2.2]
      by_cases z1 : lfs D G (2 * q) = sp ∧ lfs D G (2 * q + 1) = ot
      · rw [b01_t z1, b01_t (Or.inl z1), b01_f (by omega)]
        omega
      · rw [b01_f z1]
        by_cases z2 : lfs D G (2 * q) = ot ∧ lfs D G (2 * q + 1) = sp
        · rw [b01_t (Or.inr z2), b01_t ⟨z2.2, z2.1⟩]
          omega
        · rw [b01_f (p := lfs D G (2 * q + 1) = sp ∧ lfs D G (2 * q) = ot) (fun z => z2 ⟨z.2, z.1⟩), b01_f (fun z => z.elim z1 z2)]
          omega
theorem op_between (h_find0 : R_find0 M K) (h_spaces : R_spaces M K) (h : FND M K) : oK2 cI (qf_L_between 20000 x1 x2 M) (qf_X18_between 20000 x1 x2 K) (fun _ _ => True) := by
  have s_find := h_find0
  unfold R_find0 at s_find
  have s_spaces := h_spaces
  unfold R_spaces at s_spaces
  have main : (qf_X11_between 20000 x1 x2 M = some (.inr "java/lang/IllegalArgumentException") ∧ qf_X18_between 20000 x1 x2 K = some (0, qw K 2156 0 0 1)) ∨ (qf_X11_between 20000 x1 x2 M = some (.inr "java/lang/IllegalStateException") ∧ qf_X18_between 20000 x1 x2 K = some (0, qw K 2156 0 0 2)) ∨ ∃ v, qf_X11_between 20000 x1 x2 M = some (.inl v) ∧ qf_X18_between 20000 x1 x2 K = some (v, qw K 2156 0 0 0) := by
    unfold qf_X11_between qf_X18_between
    have o1 : ∀ {α : Type} (f g : α), (if (1 : Int) = 0 then f else g) = g := fun f g => if_neg (by decide)
    have bb : ∀ {α : Type} (a : Int) (f : Int → Option α), (some a).bind f = f a := fun a f => rfl
    rw [spaceC_e h_spaces, spaceK_e h_find0 h_spaces]
    rcases b01_o (p := 0 ≤ x1 ∧ x1 < (M 51 3 0)) with ⟨e, z⟩ | ⟨e, z⟩
    · rw [e, bb, bb, o1, o1, anyC_e h_spaces s_find.1, anyK_e h_find0 h_spaces, bb, bb]
      rcases b01_o (p := (M 51 1 0) ≠ 0 ∧ -1 ≤ x2 ∧ x2 < (M 51 3 0)) with ⟨e4, z4⟩ | ⟨e4, z4⟩
      · rw [e4, o1, o1]
        unfold qf_X11_between_J21 qf_X18_between_J28
        rcases s_find.2.2.2.1 with g | g
        · have gk : (K 2157 10 0) = 0 := by omega
          rw [g, gk]
          exact Or.inr (Or.inl ⟨rfl, rfl⟩)
        · have gk : (K 2157 10 0) = 1 := by omega
          rw [g, gk]
          have h' := FND_g (v := 0) h
          rcases h' with ⟨_, y⟩ | ⟨_, M0, K0, A, D0, D, E, F, G, H, C, q, m, p, R, stt, cnt, w⟩
          · omega
          obtain ⟨y, y1, y2⟩ := betw_both (sp := x1) (ot := x2) w
          refine Or.inr (Or.inr ⟨y, ?_, ?_⟩)
          · show (qf_X2_lengthBetween 20000 x1 x2 M).bind _ = _
            rw [y1]
            rfl
          · show (qf_X16_between 20000 x1 x2 (qw K 2156 0 0 0)).bind _ = _
            rw [y2]
            rfl
      · rw [e4]
        exact Or.inl ⟨rfl, rfl⟩
    · rw [e]
      exact Or.inl ⟨rfl, rfl⟩
  unfold oK2 qf_L_between
  rcases main with ⟨e1, e2⟩ | ⟨e1, e2⟩ | ⟨v, e1, e2⟩
  · refine qW_eq e1 ?_
    (try dsimp only)
    rw [if_pos rfl]
    refine qW_some ⟨_, e2, ?_⟩
    (try dsimp only)
    exact ⟨qw_s, fun z => absurd z (by decide), trivial⟩
  · refine qW_eq e1 ?_
    (try dsimp only)
    rw [if_neg (by decide), if_pos rfl]
    refine qW_some ⟨_, e2, ?_⟩
    (try dsimp only)
    exact ⟨qw_s, fun z => absurd z (by decide), trivial⟩
  · refine qW_eq e1 ?_
    (try dsimp only)
    refine qW_bnd (qW_some ⟨_, e2, ?_⟩)
    (try dsimp only)
    exact ⟨qw_s, fun _ => qw_s, trivial⟩
end BY
