/-! ===== an act's second, both sides: all cases ===== -/
def dueC (M : qm) (t a : Int) : Prop := (M 1273 a 0) ≠ 0 ∨ (M 1271 a 0) + (M 1197 a 3) ≤ t ∨ slC M t a
theorem isDue_e {M : qm} {t a : Int} (a0 : 0 ≤ a) (a1 : a < 20) (hr : rwC M) (hk : lkC M t M) (w0 : 0 ≤ (M 1271 a 0)) (w1 : (M 1271 a 0) ≤ 6000) (d0 : 0 ≤ (M 1197 a 3)) (d1 : (M 1197 a 3) ≤ 600) : qf_X4_isDue 20000 a t M = some (b01 (dueC M t a)) := by
  refine qW_e ?_
  have e1 := isSurelyCalled_e (a := a) hr hk
  have e2 : w32 ((M 1271 a 0) + (M 1197 a 3)) = (M 1271 a 0) + (M 1197 a 3) := w32_id (by omega) (by omega)
  unfold qf_X4_isDue dueC
  rw [e2]
  repeat' first
    | with_reducible refine qW_eq e1 ?_
    | with_reducible refine qW_b (fun _ => ?_) (fun _ => ?_)
    | with_reducible refine qW_within (fun _ => ?_) (fun _ _ => ?_)
    | with_reducible refine qW_isIn (fun _ => ?_) (fun _ _ => ?_)
    | (exfalso; omega)
    | with_reducible refine qW_bind ?_
    | with_reducible refine qW_bnd ?_
    | with_reducible refine qW_some ?_
    | ((with_reducible refine qW_no ?_); omega)
    | with_reducible refine qW_pos rfl ?_
    | ((with_reducible refine qW_pos ?_ ?_); omega)
    | ((with_reducible refine qW_neg ?_ ?_); (first | omega | decide))
    | with_reducible refine qW_ite (fun _ => ?_) (fun _ => ?_)
    | dsimp only
  all_goals first
    | exact (b01_t (Or.inl (by assumption))).symm
    | exact (b01_t (Or.inr (Or.inl (by omega)))).symm
    | exact (b01_t (Or.inr (Or.inr (by assumption)))).symm
    | (refine (b01_f (fun x => ?_)).symm; rcases x with x | x | x; · contradiction
       · omega
       · contradiction)
theorem J111_e {M K : qm} {t a : Int} (a0 : 0 ≤ a) (a1 : a < 20) (hZ : ZR M K t) (hm : msA M K a) (hs : (M 1270 a 0) = 1) (hd : (K 2222 a 0) = (M 1197 a 3)) (w1 : (M 1271 a 0) ≤ 6000) (d0 : 0 ≤ (M 1197 a 3)) (d1 : (M 1197 a 3) ≤ 600) : (dueC M t a → qf_X14_go_J111 20000 a K = qf_X14_go_J151 20000 a K) ∧ (¬ dueC M t a → qf_X14_go_J111 20000 a K = some (-1, K)) := by
  obtain ⟨h1, h2, h3, h4, h5, h6, h7, h8, h9, h10, h11, h12, h13⟩ := hZ
  obtain ⟨m1, m2, m3, m4, m5, m6⟩ := hm
  rw [if_pos hs] at m4
  have e1 := isCalledR1_e h5 h6 h7 h8 h9 h10 h11 h12 h1 (a := a)
  rw [h4] at e1
  unfold R_mnow at h7
  have e2 : w32 ((K 2228 a 0) + (K 2222 a 0)) = (M 1271 a 0) + (M 1197 a 3) := by
    rw [m4.1, hd]
    exact w32_id (by omega) (by omega)
  unfold qf_X14_go_J111
  rw [if_pos ⟨a0, a1⟩, if_pos (show 0 ≤ a ∧ a < 40 by omega), e2, h7, h4, m4.2.2.2.2]
  unfold dueC
  by_cases c1 : (M 1271 a 0) + (M 1197 a 3) ≤ t
  · rw [if_pos c1]
    exact ⟨fun _ => rfl, fun h => absurd (Or.inr (Or.inl c1)) h⟩
  · rw [if_neg c1, if_pos (show 0 ≤ a ∧ a < 20 from ⟨a0, a1⟩)]
    by_cases c2 : (M 1273 a 0) = 0
    · rw [if_pos c2, e1]
      show (_ → (if b01 (slC M t a) = 0 then some ((-1 : Int), K) else qf_X14_go_J151 20000 a K) = _) ∧ (_ → (if b01 (slC M t a) = 0 then some ((-1 : Int), K) else qf_X14_go_J151 20000 a K) = _)
      rcases b01_o (p := slC M t a) with ⟨b, hb⟩ | ⟨b, hb⟩
      · rw [b, if_neg (by decide)]
        exact ⟨fun _ => rfl, fun h => absurd (Or.inr (Or.inr hb)) h⟩
      · rw [b, if_pos rfl]
        refine ⟨fun h => ?_, fun _ => rfl⟩
        rcases h with h | h | h
        · exact absurd c2 h
        · exact absurd h c1
        · exact absurd h hb
    · rw [if_neg c2]
      exact ⟨fun _ => rfl, fun h => absurd (Or.inl c2) h⟩
def actQ (M K : qm) (a E : Int) (x : Unit × qm) (y : Unit × qm) : Prop := AcR x.2 y.2 (E + 1) ∧ Fg 13764423735814236934070963896749561825198080 M x.2 ∧ Fg (1973751609322728158430646311549781290260737553695531790793833605345297506781372428058624 ||| 820219086978780714343243095759370041107539690231943260969623997760226754039967563635592039252361216) K y.2 ∧ ∀ i, i ≠ a → x.2 1270 i 0 = M 1270 i 0
theorem due_both {M K : qm} {t a E : Int} (a0 : 0 ≤ a) (a1 : a < 20) (hA : AcR M K E) (hE : E < 2147483647) (hZ : ZR M K t) (t1 : t ≤ 6000) (hs : (M 1270 a 0) = 1) (hta : (M 1197 a 0) = 1) : qW (qf_X4_runAct_J106 20000 a t M) (fun x => qW ((qf_X14_go_J111 20000 a K).bind (goDo a)) (fun y => actQ M K a E x y)) := by
  have hm := hA.1 a a0 a1
  have hz := hZ
  obtain ⟨h1, h2, h3, h4, h5, h6, h7, h8, h9, h10, h11, h12, h13⟩ := hz
  have q : (K 2220 a 0) = (M 1197 a 1) ∧ (K 2222 a 0) = (M 1197 a 3) ∧ 0 ≤ (M 1197 a 3) ∧ (M 1197 a 3) ≤ 600 := by
    have q := h13 a a0 a1
    omega
  have hm2 := hm
  obtain ⟨m1, m2, m3, m4, m5, m6⟩ := hm2
  rw [if_pos hs] at m4
  have eD := isDue_e (t := t) a0 a1 h2 h3 m4.2.1 (by omega) q.2.2.1 q.2.2.2
  obtain ⟨j1, j2⟩ := J111_e (t := t) a0 a1 hZ hm hs q.2.1 (by omega) q.2.2.1 q.2.2.2
  unfold qf_X4_runAct_J106
  rw [if_pos ⟨a0, a1⟩, if_pos hs]
  refine qW_eq eD (qW_b (fun w => ?_) (fun w => ?_))
  · rw [j2 w]
    exact qW_some (qW_some ⟨AcR_m hA, Fg_refl, Fg_refl, fun _ _ => rfl⟩)
  · rw [j1 w]
    have n := h7
    unfold R_mnow at n
    obtain ⟨x, ex, y, ey, g1, g2, g3, g4⟩ := doneOn (t := t) a0 a1 hA hE q.1 (n.trans h4) h4
    refine qW_eq ex (qW_some ⟨y, ey, g1, Fg_mono g2 rfl, g3, g4⟩)
