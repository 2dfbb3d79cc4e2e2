/-! ===== an act's second, both sides ===== -/
theorem J106_no {M : qm} {a t : Int} (a0 : 0 ≤ a) (a1 : a < 20) (h : (M 1270 a 0) ≠ 1) : qf_X4_runAct_J106 20000 a t M = some ((), M) := by
  unfold qf_X4_runAct_J106
  rw [if_pos (show 0 ≤ a ∧ a < 20 from ⟨a0, a1⟩), if_neg h]
theorem J44_no {K : qm} {a : Int} (a0 : 0 ≤ a) (a1 : a < 20) (h : (K 2227 a 0) ≠ 1) : qf_X14_go_J32 20000 a K = some (-1, K) := by
  unfold qf_X14_go_J32 qf_X14_go_J33 qf_X14_go_J44 qf_X14_go_J63
  rw [if_pos rfl, if_pos rfl, if_pos (show 0 ≤ a ∧ a < 20 from ⟨a0, a1⟩), if_neg h, if_pos rfl]
theorem runAct_both {M K : qm} {t a E : Int} (a0 : 0 ≤ a) (a1 : a < 20) (hA : AcR M K E) (hE : E < 2147483647) (hZ : ZR M K t) (t0 : 0 ≤ t) (t1 : t ≤ 6000) (hta : (M 1197 a 0) = 1) : qW (qf_X4_runAct 20000 a t M) (fun x => qW ((qf_X14_go 20000 a K).bind (goDo a)) (fun y => actQ M K a E x y)) := by
  have hm := hA.1 a a0 a1
  have hz := hZ
  obtain ⟨h1, h2, h3, h4, h5, h6, h7, h8, h9, h10, h11, h12, h13⟩ := hz
  have q := h13 a a0 a1
  have qk : (K 2220 a 0) = (M 1197 a 1) := by omega
  have ql : (K 2223 a 0) = (M 1197 a 4) := by omega
  have hm2 := hm
  obtain ⟨m1, m2, m3, m4, m5, m6⟩ := hm2
  have n := h7
  unfold R_mnow at n
  have i20 : 0 ≤ a ∧ a < 20 := ⟨a0, a1⟩
  have i40 : 0 ≤ a ∧ a < 40 := by omega
  have eC := isCalled_e (a := a) h2 h3
  have eR := isCalledR0_e h5 h6 h7 h8 h9 h10 h11 h12 h1 (a := a)
  rw [h4] at eR
  have stay : qW (some ((), M)) (fun x => qW ((some (-1, K) : Option (Int × qm)).bind (goDo a)) (fun y => actQ M K a E x y)) := qW_some (qW_some ⟨AcR_m hA, Fg_refl, Fg_refl, fun _ _ => rfl⟩)
  unfold qf_X4_runAct
  refine qW_eq eC ?_
  have goC : ∀ X : Option (Int × qm), (qf_X14_go 20000 a K) = X → qW (if 0 ≤ a ∧ a < 20 then if (M 1270 a 0) = 0 then if b01 (clC M t a) = 0 then qf_X4_runAct_J50 20000 a t (b01 (clC M t a)) M else if 0 ≤ a ∧ a < 20 then qbnd (qw M 1270 a 0 1) (fun M23 => if 0 ≤ a ∧ a < 20 then qbnd (qw M23 1271 a 0 t) (fun M25 => if 0 ≤ a ∧ a < 20 then qbnd (qw M25 1272 a 0 0) (fun M27 => if 0 ≤ a ∧ a < 20 then qbnd (qw M27 1273 a 0 0) (fun M29 => qf_X4_runAct_J106 20000 a t M29) else none) else none) else none) else none else qf_X4_runAct_J50 20000 a t (b01 (clC M t a)) M else none) (fun x => qW (X.bind (goDo a)) (fun y => actQ M K a E x y)) → qW (if 0 ≤ a ∧ a < 20 then if (M 1270 a 0) = 0 then if b01 (clC M t a) = 0 then qf_X4_runAct_J50 20000 a t (b01 (clC M t a)) M else if 0 ≤ a ∧ a < 20 then qbnd (qw M 1270 a 0 1) (fun M23 => if 0 ≤ a ∧ a < 20 then qbnd (qw M23 1271 a 0 t) (fun M25 => if 0 ≤ a ∧ a < 20 then qbnd (qw M25 1272 a 0 0) (fun M27 => if 0 ≤ a ∧ a < 20 then qbnd (qw M27 1273 a 0 0) (fun M29 => qf_X4_runAct_J106 20000 a t M29) else none) else none) else none) else none else qf_X4_runAct_J50 20000 a t (b01 (clC M t a)) M else none) (fun x => qW ((qf_X14_go 20000 a K).bind (goDo a)) (fun y => actQ M K a E x y)) := fun X e h => by rw [e]; exact h
  rcases b01_o (p := clC M t a) with ⟨b, hb⟩ | ⟨b, hb⟩
  · rw [b] at eR
    by_cases s0 : (M 1270 a 0) = 0
    · have eG : qf_X14_go 20000 a K = qf_X14_go_J111 20000 a (qw (qw K 2227 a 0 1) 2228 a 0 t) := by
        unfold qf_X14_go
        rw [eR, Option.bind_some]
        (try dsimp only)
        rw [if_neg (by decide), if_pos i20, if_neg (by omega), if_pos i20, if_pos (by omega), if_pos i20]
        simp only [qbnd, if_pos i20]
        rw [qw_a (by decide), n, h4]
      refine goC _ eG ?_
      rw [b, if_pos i20, if_pos s0, if_neg (by decide)]
      simp only [if_pos i20, qbnd]
      rw [if_neg (by omega)] at m4
      generalize hM4 : qw (qw (qw (qw M 1270 a 0 1) 1271 a 0 t) 1272 a 0 0) 1273 a 0 0 = M4
      generalize hK4 : qw (qw K 2227 a 0 1) 2228 a 0 t = K4
      have f4 : Fg 13764423735814236934070963896749561825198080 M M4 := by
        rw [← hM4]
        exact Fg_wa (k := ky 1273 0) (Fg_wa (k := ky 1272 0) (Fg_wa (k := ky 1271 0) (Fg_wa (k := ky 1270 0) Fg_refl rfl rfl) rfl rfl) rfl rfl) rfl rfl
      have g4 : Fg 1973751609322728158430646311549781290260737553695531790793833605345297506781372428058624 K K4 := by
        rw [← hK4]
        exact Fg_wa (k := ky 2228 0) (Fg_wa (k := ky 2227 0) Fg_refl rfl rfl) rfl rfl
      have o4 : ∀ b i, (b ≠ 1270 ∧ b ≠ 1271 ∧ b ≠ 1272 ∧ b ≠ 1273) ∨ i ≠ a → ∀ j, M4 b i j = M b i j := by
        intro b i h j
        rw [← hM4, qw_ap, if_neg (by omega), qw_ap, if_neg (by omega), qw_ap, if_neg (by omega), qw_ap, if_neg (by omega)]
      have p4 : ∀ b i, (b ≠ 2227 ∧ b ≠ 2228) ∨ i ≠ a → ∀ j, K4 b i j = K b i j := by
        intro b i h j
        rw [← hK4, qw_ap, if_neg (by omega), qw_ap, if_neg (by omega)]
      have v1 : M4 1270 a 0 = 1 := by rw [← hM4, qw_a (by decide), qw_a (by decide), qw_a (by decide), qw_s]
      have v2 : M4 1271 a 0 = t := by rw [← hM4, qw_a (by decide), qw_a (by decide), qw_s]
      have v3 : M4 1272 a 0 = 0 := by rw [← hM4, qw_a (by decide), qw_s]
      have v4 : M4 1273 a 0 = 0 := by rw [← hM4, qw_s]
      have u1 : K4 2227 a 0 = 1 := by rw [← hK4, qw_a (by decide), qw_s]
      have u2 : K4 2228 a 0 = t := by rw [← hK4, qw_s]
      have A4 : AcR M4 K4 E := by
        obtain ⟨g1, g2, g3, g5, g6⟩ := hA
        refine ⟨mst_upd (M := M) (K := K) (a := a) (f4 6 12 0 rfl) (fun b _ _ i hi => o4 b i (Or.inr hi) 0) (fun b _ _ i hi => p4 b i (Or.inr hi) 0) g1 ?_, ?_, ?_, ?_, ?_⟩
        · unfold msA
          rw [v1, v2, v3, v4, u1, u2, p4 2229 a (Or.inl ⟨by decide, by decide⟩), p4 2230 a (Or.inl ⟨by decide, by decide⟩), show M4 6 12 0 = M 6 12 0 from f4 6 12 0 rfl, if_pos rfl]
          omega
        · unfold evn
          rw [show M4 1172 17 0 = M 1172 17 0 from o4 1172 17 (Or.inl (by decide)) 0, show K4 2208 30 0 = K 2208 30 0 from p4 2208 30 (Or.inl (by decide)) 0]
          exact g2
        · exact R_mevent_x (M := M) (K := K) (o4 1172 17 (Or.inl (by decide)) 0) (fun i j => o4 _ i (Or.inl (by decide)) j) (p4 2208 30 (Or.inl (by decide)) 0) (fun i j => p4 _ i (Or.inl (by decide)) j) (fun i j => p4 _ i (Or.inl (by decide)) j) (fun i j => p4 _ i (Or.inl (by decide)) j) g3
        · refine BQ_x (fun i j => o4 _ i (Or.inl (by decide)) j) (fun i j => o4 _ i (Or.inl (by decide)) j) (fun i j => o4 _ i (Or.inl (by decide)) j) (fun b hb i j => p4 b i (Or.inl ?_) j) g5
          rcases hb with hb | rfl | rfl
          · constructor <;> (rintro rfl; cases hb)
          · decide
          · decide
        · exact R_points_x (M := M) (K := K) (fun i j => o4 _ i (Or.inl (by decide)) j) (fun i j => p4 _ i (Or.inl (by decide)) j) g6
      refine qW2_mono (due_both a0 a1 A4 hE (ZR_F f4 (Fg_mono g4 rfl) hZ) t1 v1 ((o4 _ a (Or.inl (by decide)) 0).trans hta)) (fun x y h => ?_)
      obtain ⟨y1, y2, y3, y4⟩ := h
      exact ⟨y1, Fg_tr f4 y2, Fg_tr (Fg_mono g4 rfl) y3, fun i hi => (y4 i hi).trans (o4 _ i (Or.inr hi) 0)⟩
    · by_cases s1 : (M 1270 a 0) = 1
      · have eG : qf_X14_go 20000 a K = qf_X14_go_J111 20000 a K := by
          unfold qf_X14_go
          rw [eR, Option.bind_some]
          (try dsimp only)
          rw [if_neg (by decide), if_pos i20, if_neg (by omega), if_pos i20, if_neg (by omega)]
        refine goC _ eG ?_
        rw [b, if_pos i20, if_neg s0]
        unfold qf_X4_runAct_J50 qf_X4_runAct_J74
        rw [if_pos i20, if_pos s1, if_neg (by decide), if_pos i20, if_neg (by omega)]
        exact due_both a0 a1 hA hE hZ t1 s1 hta
      · have eG : qf_X14_go 20000 a K = some (-1, K) := by
          unfold qf_X14_go
          rw [eR, Option.bind_some]
          (try dsimp only)
          rw [if_neg (by decide), if_pos i20, if_pos (by omega)]
        refine goC _ eG ?_
        rw [b, if_pos i20, if_neg s0]
        unfold qf_X4_runAct_J50 qf_X4_runAct_J74
        rw [if_pos i20, if_neg s1, if_pos i20, if_pos (by omega), if_neg (by decide), J106_no a0 a1 s1]
        exact stay
  · rw [b] at eR
    by_cases s0 : (M 1270 a 0) = 0
    · have eG : qf_X14_go 20000 a K = some (-1, K) := by
        unfold qf_X14_go
        rw [eR, Option.bind_some]
        (try dsimp only)
        rw [if_pos rfl, if_pos i20, if_neg (by omega)]
        exact J44_no a0 a1 (by omega)
      refine goC _ eG ?_
      rw [b, if_pos i20, if_pos s0, if_pos rfl]
      unfold qf_X4_runAct_J50 qf_X4_runAct_J74
      rw [if_pos i20, if_neg (by omega), if_pos i20, if_neg (by omega), J106_no a0 a1 (by omega)]
      exact stay
    · by_cases s1 : (M 1270 a 0) = 1
      · have eG : qf_X14_go 20000 a K = some (-1, rsW K a 0 (-1) 0 0) := by
          unfold qf_X14_go
          rw [eR, Option.bind_some]
          (try dsimp only)
          rw [if_pos rfl, if_pos i20, if_neg (by omega)]
          unfold qf_X14_go_J32 qf_X14_go_J33 qf_X14_go_J44 qf_X14_go_J58 qf_X14_go_J63
          rw [if_pos rfl, if_pos rfl, if_pos i20, if_pos (by omega), rests_r a0 a1]
          rfl
        refine goC _ eG ?_
        rw [b, if_pos i20, if_neg s0]
        unfold qf_X4_runAct_J50
        rw [if_pos i20, if_pos s1, if_pos rfl, if_pos i20]
        refine qW_bnd ?_
        have x1 : (qw M 1270 a 0 0) 1270 a 0 = 0 := qw_s
        rw [J106_no (M := qw M 1270 a 0 0) a0 a1 (by rw [x1]; decide)]
        refine qW_some (qW_some ?_)
        have r1 := rsW_v (K := K) (a := a) (v1 := 0) (v2 := -1) (v3 := 0) (v4 := 0)
        obtain ⟨g1, g2, g3, g5, g6⟩ := hA
        refine ⟨AcR_m ⟨?_, g2, ?_, ?_, ?_⟩, Fg_wa (k := ky 1270 0) Fg_refl rfl rfl, Fg_mono rsW_F rfl, fun i hi => qw_i hi⟩
        · refine mst_upd (M := M) (K := K) (a := a) rfl (fun b _ _ i hi => qw_ap.trans (if_neg (by omega))) (fun b _ _ i hi => rsW_o (Or.inr hi)) g1 ?_
          unfold msA
          (try dsimp only)
          rw [r1.1, r1.2.1, r1.2.2.1, r1.2.2.2, if_neg (by rw [x1]; decide)]
          omega
        · show R_mevent (qw M 1270 a 0 0) (rsW K a 0 (-1) 0 0)
          exact R_mevent_x (M := M) (K := K) rfl (fun _ _ => rfl) (rsW_o (Or.inl rfl)) (fun i j => rsW_o (Or.inl rfl)) (fun i j => rsW_o (Or.inl rfl)) (fun i j => rsW_o (Or.inl rfl)) g3
        · refine BQ_x (fun i j => rfl) (fun i j => rfl) (fun i j => rfl) (fun b hb i j => rsW_o (Or.inl ?_)) g5
          rcases hb with hb | rfl | rfl
          · unfold bsA at hb
            simp only [Bool.or_eq_true, beq_iff_eq] at hb
            rcases hb with (((((((rfl | rfl) | rfl) | rfl) | rfl) | rfl) | rfl) | rfl) | rfl <;> rfl
          · rfl
          · rfl
        · show R_points (qw M 1270 a 0 0) (rsW K a 0 (-1) 0 0)
          exact R_points_x (M := M) (K := K) (fun i j => rfl) (fun i j => rsW_o (Or.inl rfl)) g6
      · by_cases l0 : (M 1197 a 4) = 0
        · have eG : qf_X14_go 20000 a K = qf_X14_go_J33 20000 a 1 K := by
            unfold qf_X14_go
            rw [eR, Option.bind_some]
            (try dsimp only)
            rw [if_pos rfl, if_pos i20, if_pos (by omega), if_pos i40, if_pos (by omega)]
          refine goC _ eG ?_
          rw [b, if_pos i20, if_neg s0]
          unfold qf_X4_runAct_J50 qf_X4_runAct_J74
          rw [if_pos i20, if_neg s1, if_pos i20, if_pos (by omega), if_pos rfl, if_pos i20, if_pos l0]
          obtain ⟨x, ex, y, ey, g1, g2, g3, g4, g5⟩ := doneOff (t := t) a0 a1 hA hE qk (n.trans h4) h4
          refine qW_eq ex ?_
          rw [J106_no a0 a1 (by rw [g4]; decide)]
          exact qW_some ⟨y, ey, g1, Fg_mono g2 rfl, g3, g5⟩
        · have eG : qf_X14_go 20000 a K = some (-1, K) := by
            unfold qf_X14_go
            rw [eR, Option.bind_some]
            (try dsimp only)
            rw [if_pos rfl, if_pos i20, if_pos (by omega), if_pos i40, if_neg (by omega)]
            exact J44_no a0 a1 (by omega)
          refine goC _ eG ?_
          rw [b, if_pos i20, if_neg s0]
          unfold qf_X4_runAct_J50 qf_X4_runAct_J74
          rw [if_pos i20, if_neg s1, if_pos i20, if_pos (by omega), if_pos rfl, if_pos i20, if_neg l0, J106_no a0 a1 s1]
          exact stay
