/-! ===== latched acts rest, both sides ===== -/
theorem resets_both {M K : qm} {a t E : Int} (a0 : 0 ≤ a) (a1 : a < 20) (hA : AcR M K E) (hE : E < 2147483647) (hZ : ZR M K t) (hs : (M 1270 a 0) = 2) (hta : (M 1197 a 0) = 1) (hl : (M 1197 a 4) ≠ 0) (hc : ¬ clC M t a) : qW (qf_X4_setDone 20000 a 0 t M) (fun x => qW (qf_X14_resets 20000 a K) (fun r => r.1 = 1 ∧ qW (qf_X18_does 20000 a 0 r.2) (fun y => actQ M K a E x y))) := by
  have hz := hZ
  obtain ⟨h1, h2, h3, h4, h5, h6, h7, h8, h9, h10, h11, h12, h13⟩ := hz
  have q := h13 a a0 a1
  have hm := hA.1 a a0 a1
  have hn := hA.2.1
  obtain ⟨n0, n1, n2⟩ := hn
  have n := h7
  unfold R_mnow at n
  have eR := isCalledR0_e h5 h6 h7 h8 h9 h10 h11 h12 h1 (a := a)
  rw [h4, b01_f hc] at eR
  have e30 : (rsW K a 0 (-1) 0 0) 2208 30 0 = (K 2208 30 0) := rsW_o (Or.inl rfl)
  have ev0 : 0 ≤ (K 2208 30 0) ∧ (K 2208 30 0) ≤ 60 := by
    by_cases e : (M 1172 17 0) ≤ 60
    · rw [if_pos e] at n2; omega
    · rw [if_neg e] at n2; omega
  obtain ⟨⟨u, T⟩, eT, hT, hTf⟩ := tell_r (K := rsW K a 0 (-1) 0 0) (a := a) (d := 0) (by rw [e30]; exact ev0.1) (by rw [e30]; exact ev0.2)
  (try dsimp only at hT hTf)
  have fT : Fg 1740631342255640669920310882730959021463648733009275048243616116176628992556747408277504 (rsW K a 0 (-1) 0 0) T := fr_X14_tell Fg_refl _ eT
  have hm1 := hm.1
  have eJ : qf_X14_resets 20000 a K = some (1, T) := by
    unfold qf_X14_resets
    rw [if_pos (show 0 ≤ a ∧ a < 40 by omega), if_neg (by omega), if_pos (show 0 ≤ a ∧ a < 20 from ⟨a0, a1⟩), if_pos (by omega), eR, Option.bind_some]
    (try dsimp only)
    rw [if_pos rfl, rests_r a0 a1, Option.bind_some]
    show ((qf_X14_tell 20000 a 0 (rsW K a 0 (-1) 0 0)).bind _) = _
    rw [eT]
    rfl
  have r1 := rsW_v (K := K) (a := a) (v1 := 0) (v2 := -1) (v3 := 0) (v4 := 0)
  obtain ⟨x, ex, y, ey, hh⟩ := act_ev (M := M) (K := K) (K2 := rsW K a 0 (-1) 0 0) (d := 0) (t := t) (v2 := 0) (v3 := 0) (v4 := 0) a0 a1 (Or.inl rfl) hA hE (by omega) (n.trans h4) h4 T (fun b i j hb => rsW_o hb) rsW_F hT hTf (Fg_mono fT rfl) T (fun _ _ _ _ => rfl) Fg_refl ⟨by rw [hTf _ _ _ rfl (Or.inl (by decide))]; exact r1.1, by rw [hTf _ _ _ rfl (Or.inl (by decide))]; exact r1.2.1, by rw [hTf _ _ _ rfl (Or.inl (by decide))]; exact r1.2.2.1, by rw [hTf _ _ _ rfl (Or.inl (by decide))]; exact r1.2.2.2⟩
  refine ⟨x, ex, (1, T), eJ, rfl, y, ey, hh.1, Fg_mono hh.2.1 rfl, hh.2.2.1, fun i hi => by rw [hh.2.2.2, if_neg (fun z => hi z.1)]⟩
theorem resets_no {M K : qm} {a t E : Int} (a0 : 0 ≤ a) (a1 : a < 20) (hA : AcR M K E) (hZ : ZR M K t) (hta : (M 1197 a 0) = 1) (h : (M 1270 a 0) ≠ 2 ∨ (M 1197 a 4) = 0 ∨ clC M t a) : qf_X14_resets 20000 a K = some (0, K) := by
  have hz := hZ
  obtain ⟨h1, h2, h3, h4, h5, h6, h7, h8, h9, h10, h11, h12, h13⟩ := hz
  have q := h13 a a0 a1
  have hm := (hA.1 a a0 a1).1
  have eR := isCalledR0_e h5 h6 h7 h8 h9 h10 h11 h12 h1 (a := a)
  rw [h4] at eR
  unfold qf_X14_resets
  rw [if_pos (show 0 ≤ a ∧ a < 40 by omega)]
  by_cases c1 : (M 1197 a 4) = 0
  · rw [if_pos (by omega)]
  · rw [if_neg (by omega), if_pos (show 0 ≤ a ∧ a < 20 from ⟨a0, a1⟩)]
    by_cases c2 : (M 1270 a 0) = 2
    · rw [if_pos (by omega), eR]
      rw [b01_t (by rcases h with h | h | h; exact absurd c2 h; exact absurd h c1; exact h)]
      rfl
    · rw [if_neg (by omega)]
def rstI (M K : qm) (t E : Int) (k : Int) (s : Int × Int × Int × qm) (u : Int × Int × Int × qm) : Prop := s.1 = t ∧ s.2.2.1 = k ∧ s.2.1 = u.1 ∧ 0 ≤ s.2.1 ∧ s.2.1 ≤ k ∧ AcR s.2.2.2 u.2.2.2 (E + k) ∧ Fg 13764423735814236934070963896749561825198080 M s.2.2.2 ∧ Fg (1973751609322728158430646311549781290260737553695531790793833605345297506781372428058624 ||| 820219086978780714343243095759370041107539690231943260969623997760226754039967563635592039252361216) K u.2.2.2 ∧ qf_X14_rankedOne 20000 (tkC M k) u.2.2.2 = some u.2.1 ∧ u.2.2.1 = tkC M k + 1 ∧ ∀ i, 0 ≤ i → i < 20 → (M 1197 i 0) = 0 → s.2.2.2 1270 i 0 = M 1270 i 0
theorem reset_loop {M K : qm} {t E a : Int} (hA : AcR M K E) (hE0 : 0 ≤ E) (hE : E + 20 < 2147483647) (hZ : ZR M K t) (hR : rkC M) (hu : ∀ i, 0 ≤ i → i < 20 → (M 1197 i 0) = 0 → (M 1270 i 0) = 0) (ha : qf_X14_rankedOne 20000 0 K = some a) : qW (qf_X4_resetLatched_L9 20000 20000 t 0 0 M) (fun x => qW (qf_X18_reset_L26 20000 20000 0 a 1 K) (fun y => match x, y with
    | .inr x, .inr y => x.1 = y.1 ∧ AcR x.2 y.2 (E + 20) ∧ Fg 13764423735814236934070963896749561825198080 M x.2 ∧ Fg (1973751609322728158430646311549781290260737553695531790793833605345297506781372428058624 ||| 820219086978780714343243095759370041107539690231943260969623997760226754039967563635592039252361216) K y.2 ∧ ∀ i, 0 ≤ i → i < 20 → (M 1197 i 0) = 0 → x.2 1270 i 0 = M 1270 i 0
    | _, _ => False)) := by
  unfold qf_X4_resetLatched_L9 qf_X18_reset_L26
  have hmS := hZ.2.2.2.2.2.2.2.2.2.2.2.2
  have tk0 : tkC M 0 = 0 := rfl
  refine qW_skip 20 (rstI M K t E) ?_ ?_ ⟨rfl, rfl, rfl, Int.le_refl _, Int.le_refl _, by rw [Int.add_zero]; exact hA, Fg_refl, Fg_refl, by rw [tk0]; exact ha, by rw [tk0]; rfl, fun _ _ _ _ => rfl⟩ (by omega) (by omega)
  · rintro k ⟨t', c', k', S⟩ ⟨d', b, p, T⟩ k0 k1 ⟨e1, e2, e3, c0, c1, hI, fS, fT, hr, hp, hz⟩
    (try dsimp only at *)
    subst e1
    subst e2
    subst e3
    have hb := hR.1 k' k0 k1
    have eb : S 1269 k' 0 = M 1269 k' 0 := Fg_v fS rfl rfl
    have ea : ∀ j, S 1197 (M 1269 k' 0) j = M 1197 (M 1269 k' 0) j := fun j => Fg_v fS rfl rfl
    have ew : w32 (k' + 1) = k' + 1 := w32_id (by omega) (by omega)
    have ec : w32 (c' + 1) = c' + 1 := w32_id (by omega) (by omega)
    have hs := sI_s (f := fun j => b01 ((M 1197 (M 1269 j 0) 0) ≠ 0)) k0
    (try dsimp only at hs)
    have hZS : ZR S T t' := ZR_F fS fT hZ
    have hRS := rkC_F fS hR
    have hmT : mactS M T := by
      have q := hZS.2.2.2.2.2.2.2.2.2.2.2.2
      intro i i0 i1
      have e : ∀ j, S 1197 i j = M 1197 i j := fun j => Fg_v fS rfl rfl
      have q2 := q i i0 i1
      rw [e, e, e, e, e] at q2
      exact q2
    have m20 : 0 ≤ k' ∧ k' < 20 := ⟨k0, k1⟩
    by_cases c : (M 1197 (M 1269 k' 0) 0) = 0
    · have st : S 1270 (M 1269 k' 0) 0 = 0 := (hz _ hb.1 hb.2 c).trans (hu _ hb.1 hb.2 c)
      have e : tkC M (k' + 1) = tkC M k' := by
        unfold tkC
        rw [hs, b01_f (fun x => x c)]
        omega
      refine Or.inl ⟨(t', c', k' + 1, S), ?_, rfl, rfl, rfl, c0, by (try dsimp only); omega, ?_, fS, fT, by rw [e]; exact hr, by rw [e]; exact hp, hz⟩
      · unfold qf_X4_resetLatched_L9_b
        rw [if_neg (by omega), if_pos m20, eb, if_pos hb, st, if_neg (by decide), ew]
      · have := AcR_m hI
        rw [show E + (k' + 1) = E + k' + 1 by omega]
        exact this
    · have t1 : (M 1197 (M 1269 k' 0) 0) = 1 := by
        have q := hmS _ hb.1 hb.2
        omega
      have hbr : b = (M 1269 k' 0) := by
        have q := ranked_is hR hmT k0 k1 c
        rw [q] at hr
        exact (Option.some.inj hr).symm
      have e : tkC M (k' + 1) = tkC M k' + 1 := by
        unfold tkC
        rw [hs, b01_t c]
      have bd : 0 ≤ tkC M (k' + 1) ∧ tkC M (k' + 1) ≤ k' + 1 := sI_b (by omega) (fun _ _ _ => b01_b)
      have eC := isCalled_e (M := S) (t := t') (a := (M 1269 k' 0)) hZS.2.1 hZS.2.2.1
      by_cases g : S 1270 (M 1269 k' 0) 0 ≠ 2 ∨ S 1197 (M 1269 k' 0) 4 = 0 ∨ clC S t' (M 1269 k' 0)
      · have eN := resets_no hb.1 hb.2 hI hZS ((ea 0).trans t1) g
        obtain ⟨a2, ha2⟩ : ∃ a2, qf_X14_rankedOne 20000 (tkC M (k' + 1)) T = some a2 := by
          obtain ⟨v, hv, _⟩ := rankedOne_r (K := T) (p := tkC M (k' + 1))
          exact ⟨v, hv⟩
        refine Or.inr ⟨(t', c', k' + 1, S), (c', a2, tkC M (k' + 1) + 1, T), ?_, ?_, rfl, rfl, rfl, c0, by (try dsimp only); omega, ?_, fS, fT, ha2, rfl, hz⟩
        · unfold qf_X4_resetLatched_L9_b
          rw [if_neg (by omega), if_pos m20, eb, if_pos hb]
          by_cases g1 : S 1270 (M 1269 k' 0) 0 = 2
          · rw [if_pos g1, if_pos hb]
            by_cases g2 : S 1197 (M 1269 k' 0) 4 = 0
            · rw [if_pos g2, ew]
            · rw [if_neg g2, eC, b01_t (by rcases g with g | g | g; exact absurd g1 g; exact absurd g g2; exact g), Option.bind_some]
              (try dsimp only)
              rw [if_neg (by decide), ew]
          · rw [if_neg g1, ew]
        · unfold qf_X18_reset_L26_b
          rw [if_neg (by omega), hbr, eN, Option.bind_some]
          (try dsimp only)
          rw [if_pos rfl]
          unfold qf_X18_reset_J50
          rw [hp, ← e, ha2]
          show some (Sum.inr (c', a2, w32 (tkC M (k' + 1) + 1), T)) = _
          rw [w32_id (by omega) (by omega)]
        · have := AcR_m hI
          rw [show E + (k' + 1) = E + k' + 1 by omega]
          exact this
      · have g1 : S 1270 (M 1269 k' 0) 0 = 2 := Classical.byContradiction (fun x => g (Or.inl x))
        have g2 : S 1197 (M 1269 k' 0) 4 ≠ 0 := fun x => g (Or.inr (Or.inl x))
        have g3 : ¬ clC S t' (M 1269 k' 0) := fun x => g (Or.inr (Or.inr x))
        obtain ⟨x, ex, ⟨v, R⟩, er, rv, y, ey, y1, y2, y3, y4⟩ := resets_both (E := E + k') hb.1 hb.2 hI (by omega) hZS g1 ((ea 0).trans t1) g2 g3
        (try dsimp only at *)
        have fx := Fg_tr fS y2
        have fy := Fg_tr fT y3
        have hZX : ZR x.2 y.2 t' := ZR_F fx fy hZ
        obtain ⟨a2, ha2⟩ : ∃ a2, qf_X14_rankedOne 20000 (tkC M (k' + 1)) y.2 = some a2 := by
          obtain ⟨v, hv, _⟩ := rankedOne_r (K := y.2) (p := tkC M (k' + 1))
          exact ⟨v, hv⟩
        refine Or.inr ⟨(t', c' + 1, k' + 1, x.2), (c' + 1, a2, tkC M (k' + 1) + 1, y.2), ?_, ?_, rfl, rfl, rfl, by (try dsimp only); omega, by (try dsimp only); omega, ?_, fx, fy, ha2, rfl, ?_⟩
        · unfold qf_X4_resetLatched_L9_b
          rw [if_neg (by omega), if_pos m20, eb, if_pos hb, if_pos g1, if_pos hb, if_neg g2, eC, b01_f g3, Option.bind_some]
          (try dsimp only)
          rw [if_pos rfl, ex, ew, ec]
          rfl
        · unfold qf_X18_reset_L26_b
          rw [if_neg (by omega), hbr, er, Option.bind_some]
          (try dsimp only)
          rw [rv, if_neg (by decide), ey, Option.bind_some]
          unfold qf_X18_reset_J50
          (try dsimp only)
          rw [hp, ← e, ha2, ec]
          show some (Sum.inr (c' + 1, a2, w32 (tkC M (k' + 1) + 1), y.2)) = _
          rw [w32_id (by omega) (by omega)]
        · rw [show E + (k' + 1) = E + k' + 1 by omega]
          exact y1
        · intro i i0 i1 ic
          (try dsimp only)
          have ne : i ≠ (M 1269 k' 0) := by
            rintro rfl
            exact c ic
          rw [y4 i ne]
          exact hz i i0 i1 ic
  · rintro ⟨t', c', k', S⟩ ⟨d', b, p, T⟩ ⟨e1, e2, e3, c0, c1, hI, fS, fT, hr, hp, hz⟩
    (try dsimp only at *)
    subst e1
    subst e2
    have hZS : ZR S T t' := ZR_F fS fT hZ
    have hmT : mactS M T := by
      have q := hZS.2.2.2.2.2.2.2.2.2.2.2.2
      intro i i0 i1
      have e : ∀ j, S 1197 i j = M 1197 i j := fun j => Fg_v fS rfl rfl
      have q2 := q i i0 i1
      rw [e, e, e, e, e] at q2
      exact q2
    rw [ranked_end hR hmT] at hr
    have hb : b = -1 := (Option.some.inj hr).symm
    refine ⟨.inr (c', S), .inr (d', T), ?_, ?_, e3, hI, fS, fT, hz⟩
    · unfold qf_X4_resetLatched_L9_b
      rw [if_pos (by decide)]
    · unfold qf_X18_reset_L26_b
      rw [if_pos (by omega)]
