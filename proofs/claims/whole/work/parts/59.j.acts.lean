/-! ===== all acts go, both sides ===== -/
theorem rkC_F {M S : qm} (f : Fg 13764423735814236934070963896749561825198080 M S) (h : rkC M) : rkC S := by
  have e1 : ∀ i j, S 1269 i j = M 1269 i j := fun i j => Fg_v f rfl rfl
  have e2 : ∀ i j, S 1197 i j = M 1197 i j := fun i j => Fg_v f rfl rfl
  unfold rkC
  simp only [e1, e2]
  exact h
theorem tkC_F {M S : qm} (f : Fg 13764423735814236934070963896749561825198080 M S) (k : Int) : tkC S k = tkC M k := by
  have e1 : ∀ i j, S 1269 i j = M 1269 i j := fun i j => Fg_v f rfl rfl
  have e2 : ∀ i j, S 1197 i j = M 1197 i j := fun i j => Fg_v f rfl rfl
  unfold tkC
  simp only [e1, e2]
theorem L61_eq {a p : Int} {T : qm} (ha : 0 ≤ a) : qf_X18_second_L61_b 20000 a p T = ((qf_X14_go 20000 a T).bind (goDo a)).bind (fun y => qf_X18_second_J84 20000 p y.2) := by
  unfold qf_X18_second_L61_b
  rw [if_neg (by omega)]
  cases qf_X14_go 20000 a T with
  | none => rfl
  | some r =>
    show (if r.1 < 0 then _ else _) = (goDo a r).bind _
    unfold goDo
    by_cases e : r.1 < 0
    · rw [if_pos e, if_pos e]
      rfl
    · rw [if_neg e, if_neg e]
def actsI (M K : qm) (t E : Int) (k : Int) (s : Int × Int × qm) (u : Int × Int × qm) : Prop := s.1 = t ∧ s.2.1 = k ∧ AcR s.2.2 u.2.2 (E + k) ∧ Fg 13764423735814236934070963896749561825198080 M s.2.2 ∧ Fg (1973751609322728158430646311549781290260737553695531790793833605345297506781372428058624 ||| 820219086978780714343243095759370041107539690231943260969623997760226754039967563635592039252361216) K u.2.2 ∧ qf_X14_rankedOne 20000 (tkC M k) u.2.2 = some u.1 ∧ u.2.1 = tkC M k + 1 ∧ ∀ i, 0 ≤ i → i < 20 → (M 1197 i 0) = 0 → s.2.2 1270 i 0 = M 1270 i 0
theorem acts_loop {M K : qm} {t E a : Int} (hA : AcR M K E) (hE0 : 0 ≤ E) (hE : E + 20 < 2147483647) (hZ : ZR M K t) (hR : rkC M) (t0 : 0 ≤ t) (t1 : t ≤ 6000) (ha : qf_X14_rankedOne 20000 0 K = some a) : qW (qf_X4_runActs_L7 20000 20000 t 0 M) (fun x => qW (qf_X18_second_L61 20000 20000 a 1 K) (fun y => match x, y with
    | .inr x, .inr y => AcR x.2 y.2 (E + 20) ∧ Fg 13764423735814236934070963896749561825198080 M x.2 ∧ Fg (1973751609322728158430646311549781290260737553695531790793833605345297506781372428058624 ||| 820219086978780714343243095759370041107539690231943260969623997760226754039967563635592039252361216) K y.2 ∧ ∀ i, 0 ≤ i → i < 20 → (M 1197 i 0) = 0 → x.2 1270 i 0 = M 1270 i 0
    | _, _ => False)) := by
  unfold qf_X4_runActs_L7 qf_X18_second_L61
  have hmS := hZ.2.2.2.2.2.2.2.2.2.2.2.2
  have tk0 : tkC M 0 = 0 := rfl
  refine qW_skip 20 (actsI M K t E) ?_ ?_ ⟨rfl, rfl, by rw [Int.add_zero]; exact hA, Fg_refl, Fg_refl, by rw [tk0]; exact ha, by rw [tk0]; rfl, fun _ _ _ _ => rfl⟩ (by omega) (by omega)
  · rintro k ⟨t', k', S⟩ ⟨b, p, T⟩ k0 k1 ⟨e1, e2, hI, fS, fT, hr, hp, hz⟩
    (try dsimp only at *)
    subst e1
    subst e2
    have hb := hR.1 k' k0 k1
    have eb : S 1269 k' 0 = M 1269 k' 0 := Fg_v fS rfl rfl
    have ea : S 1197 (M 1269 k' 0) 0 = M 1197 (M 1269 k' 0) 0 := Fg_v fS rfl rfl
    have ew : w32 (k' + 1) = k' + 1 := w32_id (by omega) (by omega)
    have hs := sI_s (f := fun j => b01 ((M 1197 (M 1269 j 0) 0) ≠ 0)) k0
    (try dsimp only at hs)
    have hZS : ZR S T t' := ZR_F fS fT hZ
    have hRS := rkC_F fS hR
    have hmT : mactS M T := by
      have q := hZS.2.2.2.2.2.2.2.2.2.2.2.2
      intro i i0 i1
      have e : ∀ j, S 1197 i j = M 1197 i j := fun j => Fg_v fS rfl rfl
      have q2 := q i i0 i1
      rw [e, e, e, e, e] at q2
      exact q2
    unfold qf_X4_runActs_L7_b qf_X4_isAct
    rw [if_neg (by omega), if_pos (show 0 ≤ k' ∧ k' < 20 from ⟨k0, k1⟩), eb, if_neg (by omega), if_neg (by omega), if_pos hb, ea]
    by_cases c : (M 1197 (M 1269 k' 0) 0) = 0
    · refine Or.inl ⟨(t', k' + 1, S), ?_, rfl, rfl, ?_, fS, fT, ?_, ?_, hz⟩
      · rw [if_pos c, ew]
        rfl
      · have := AcR_m hI
        rw [show E + (k' + 1) = E + k' + 1 by omega]
        exact this
      · have e : tkC M (k' + 1) = tkC M k' := by
          unfold tkC
          rw [hs, b01_f (fun x => x c)]
          omega
        rw [e]
        exact hr
      · have e : tkC M (k' + 1) = tkC M k' := by
          unfold tkC
          rw [hs, b01_f (fun x => x c)]
          omega
        rw [e]
        exact hp
    · have c1 : S 1197 (M 1269 k' 0) 0 = 1 := by
        rw [ea]
        have q := hmS _ hb.1 hb.2
        omega
      have hbr : b = (M 1269 k' 0) := by
        have q := ranked_is hR hmT k0 k1 c
        rw [q] at hr
        exact (Option.some.inj hr).symm
      have e : tkC M (k' + 1) = tkC M k' + 1 := by
        unfold tkC
        rw [hs, b01_t c]
      obtain ⟨x, ex, y, ey, g1, g2, g3, g4⟩ := runAct_both (E := E + k') hb.1 hb.2 hI (by omega) hZS t0 t1 c1
      have fx := Fg_tr fS g2
      have fy := Fg_tr fT g3
      have hZX : ZR x.2 y.2 t' := ZR_F fx fy hZ
      have hmY : mactS M y.2 := by
        have q := hZX.2.2.2.2.2.2.2.2.2.2.2.2
        intro i i0 i1
        have e : ∀ j, x.2 1197 i j = M 1197 i j := fun j => Fg_v fx rfl rfl
        have q2 := q i i0 i1
        rw [e, e, e, e, e] at q2
        exact q2
      obtain ⟨a2, ha2⟩ : ∃ a2, qf_X14_rankedOne 20000 (tkC M (k' + 1)) y.2 = some a2 := by
        obtain ⟨v, hv, _⟩ := rankedOne_r (K := y.2) (p := tkC M (k' + 1))
        exact ⟨v, hv⟩
      refine Or.inr ⟨(t', k' + 1, x.2), (a2, tkC M (k' + 1) + 1, y.2), ?_, ?_, rfl, rfl, ?_, fx, fy, ha2, rfl, ?_⟩
      · rw [if_neg c, if_pos (show 0 ≤ k' ∧ k' < 20 from ⟨k0, k1⟩), ew]
        show ((qf_X4_runAct 20000 (M 1269 k' 0) t' S).bind _) = _
        rw [ex]
        rfl
      · rw [L61_eq (by omega), hbr, ey]
        show qf_X18_second_J84 20000 p y.2 = _
        unfold qf_X18_second_J84
        rw [hp, ← e, ha2]
        show some (Sum.inr (a2, w32 (tkC M (k' + 1) + 1), y.2)) = _
        have bd : 0 ≤ tkC M (k' + 1) ∧ tkC M (k' + 1) ≤ k' + 1 := sI_b (by omega) (fun _ _ _ => b01_b)
        rw [w32_id (by omega) (by omega)]
      · rw [show E + (k' + 1) = E + k' + 1 by omega]
        exact g1
      · intro i i0 i1 ic
        (try dsimp only)
        have ne : i ≠ (M 1269 k' 0) := by
          rintro rfl
          exact c ic
        rw [g4 i ne]
        exact hz i i0 i1 ic
  · rintro ⟨t', k', S⟩ ⟨b, p, T⟩ ⟨e1, e2, hI, fS, fT, hr, hp, hz⟩
    (try dsimp only at *)
    subst e1
    subst e2
    have hZS : ZR S T t' := ZR_F fS fT hZ
    have hmT : mactS M T := by
      have q := hZS.2.2.2.2.2.2.2.2.2.2.2.2
      intro i i0 i1
      have e : ∀ j, S 1197 i j = M 1197 i j := fun j => Fg_v fS rfl rfl
      have q2 := q i i0 i1
      rw [e, e, e, e, e] at q2
      exact q2
    rw [ranked_end hR hmT] at hr
    have hb : b = -1 := (Option.some.inj hr).symm
    refine ⟨.inr ((), S), .inr ((), T), ?_, ?_, hI, fS, fT, hz⟩
    · unfold qf_X4_runActs_L7_b
      rw [if_pos (by decide)]
    · unfold qf_X18_second_L61_b
      rw [if_pos (by omega)]
