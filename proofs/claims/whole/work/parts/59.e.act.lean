/-! ===== an act's second, both sides: the cases ===== -/
def lk4 (M S : qm) : Prop := ∀ i j, S 1176 i j = M 1176 i j ∧ S 1173 i j = M 1173 i j ∧ S 1174 i j = M 1174 i j ∧ S 1175 i j = M 1175 i j
theorem cAk_4 {M S : qm} (h : lk4 M S) (t z : Int) : cAk S t z = cAk M t z := by
  unfold cAk
  rw [(h z 1).1]
  refine sI_c (fun k _ _ => ?_)
  (try dsimp only)
  rw [(h z (2 + k)).1]
  refine b01_c ?_
  unfold akC
  rw [(h _ 0).2.2.1, (h _ 0).2.2.2]
theorem cOn_4 {M S : qm} (h : lk4 M S) (t z : Int) : cOn S t z = cOn M t z := by
  unfold cOn
  rw [(h z 1).1]
  refine sI_c (fun k _ _ => ?_)
  (try dsimp only)
  rw [(h z (2 + k)).1]
  refine b01_c ?_
  unfold onC akC
  rw [(h _ 0).2.1, (h _ 0).2.2.1, (h _ 0).2.2.2]
theorem znC_4 {M S : qm} (h : lk4 M S) (hz : znC M) : znC S := by
  intro z z0 z1
  rw [(h z 1).1]
  have q := hz z z0 z1
  refine ⟨q.1, q.2.1, fun k k0 k1 => ?_⟩
  rw [(h z (2 + k)).1]
  exact q.2.2 k k0 k1
theorem zOn_4 {M S : qm} (h : lk4 M S) (t z : Int) : zOn S t z ↔ zOn M t z := by
  unfold zOn
  rw [cOn_4 h, (h z 0).1]
theorem zSu_4 {M S : qm} (h : lk4 M S) (t z : Int) : zSu S t z ↔ zSu M t z := by
  unfold zSu
  rw [cOn_4 h, cAk_4 h]
theorem ZR_F {M K S T : qm} {t : Int} (fM : Fg 13764423735814236934070963896749561825198080 M S) (fK : Fg (1973751609322728158430646311549781290260737553695531790793833605345297506781372428058624 ||| 820219086978780714343243095759370041107539690231943260969623997760226754039967563635592039252361216) K T) (h : ZR M K t) : ZR S T t := by
  obtain ⟨h1, h2, h3, h4, h5, h6, h7, h8, h9, h10, h11, h12, h13⟩ := h
  have l4 : lk4 M S := fun i j => ⟨Fg_v fM rfl rfl, Fg_v fM rfl rfl, Fg_v fM rfl rfl, Fg_v fM rfl rfl⟩
  have er : ∀ i j, S 1218 i j = M 1218 i j := fun i j => Fg_v fM rfl rfl
  refine ⟨znC_4 l4 h1, ⟨?_, ?_, ?_⟩, ?_, (fM 6 12 0 rfl).trans h4, (R_mfault_x (fun i j => Fg_v (a := 1174) (j := i) fM rfl rfl) (fun i j => Fg_v (a := 2210) (j := i) fK rfl rfl) h5), (R_muntil_x (fun i j => Fg_v (a := 1175) (j := i) fM rfl rfl) (fun i j => Fg_v (a := 2211) (j := i) fK rfl rfl) h6), (R_mnow_x (fM 6 12 0 rfl) (fK 2208 1 0 rfl) h7), (R_mvalue_x (fun i j => Fg_v (a := 1173) (j := i) fM rfl rfl) (fun i j => Fg_v (a := 2209) (j := i) fK rfl rfl) h8), (R_mzones_x (fun i j => Fg_v (a := 1176) (j := i) fM rfl rfl) (fun i j => Fg_v (a := 2215) (j := i) fK rfl rfl) (fun i j => Fg_v (a := 2216) (j := i) fK rfl rfl) (fun i j => Fg_v (a := 2217) (j := i) fK rfl rfl) h9), (R_mzonep_x (fM 1172 2 0 rfl) (fun i j => Fg_v (a := 1176) (j := i) fM rfl rfl) (fun i j => Fg_v (a := 2215) (j := i) fK rfl rfl) (fun i j => Fg_v (a := 2218) (j := i) fK rfl rfl) h10), (R_mrows_x (fM 1172 9 0 rfl) (fK 2208 21 0 rfl) h11), (R_mrow_x (fM 1172 9 0 rfl) (fun i j => Fg_v (a := 1218) (j := i) fM rfl rfl) (fun i j => Fg_v (a := 2215) (j := i) fK rfl rfl) (fun i j => Fg_v (a := 2219) (j := i) fK rfl rfl) (fun i j => Fg_v (a := 2224) (j := i) fK rfl rfl) (fun i j => Fg_v (a := 2225) (j := i) fK rfl rfl) (fun i j => Fg_v (a := 2226) (j := i) fK rfl rfl) h12), ?_⟩
  · rw [show S 1172 9 0 = M 1172 9 0 from fM 1172 9 0 rfl]
    exact h2.1
  · rw [show S 1172 9 0 = M 1172 9 0 from fM 1172 9 0 rfl]
    exact h2.2.1
  · intro r r0 r1
    rw [show S 1172 9 0 = M 1172 9 0 from fM 1172 9 0 rfl] at r1
    rw [er, er, (l4 _ 0).1, (l4 _ 0).1]
    exact h2.2.2 r r0 r1
  · intro z z0 z1
    have q := h3 z z0 z1
    rw [show S 1274 z 0 = M 1274 z 0 from Fg_v fM rfl rfl, show S 1275 z 0 = M 1275 z 0 from Fg_v fM rfl rfl, q.1, q.2]
    refine ⟨b01_c ?_, b01_c (zSu_4 l4 t z).symm⟩
    rw [zOn_4 l4, (l4 z 0).1]
  · intro a a0 a1
    have ea : ∀ j, S 1197 a j = M 1197 a j := fun j => Fg_v fM rfl rfl
    rw [ea, ea, ea, ea, ea, show T 2219 a 0 = K 2219 a 0 from Fg_v fK rfl rfl, show T 2220 a 0 = K 2220 a 0 from Fg_v fK rfl rfl, show T 2221 a 0 = K 2221 a 0 from Fg_v fK rfl rfl, show T 2222 a 0 = K 2222 a 0 from Fg_v fK rfl rfl, show T 2223 a 0 = K 2223 a 0 from Fg_v fK rfl rfl]
    exact h13 a a0 a1
theorem AcR_m {M K : qm} {E : Int} (h : AcR M K E) : AcR M K (E + 1) := by
  obtain ⟨h1, h2, h3⟩ := h
  exact ⟨h1, ⟨h2.1, by have := h2.2.1; omega, h2.2.2⟩, h3⟩
/-- an act becomes done -/
theorem doneOn {M K : qm} {a t E : Int} (a0 : 0 ≤ a) (a1 : a < 20) (hA : AcR M K E) (hE : E < 2147483647) (hkind : (K 2220 a 0) = (M 1197 a 1)) (hnow : (K 2208 1 0) = t) (ht : (M 6 12 0) = t) : qW (qf_X4_setDone 20000 a 1 t M) (fun x => qW ((qf_X14_go_J151 20000 a K).bind (goDo a)) (fun y => AcR x.2 y.2 (E + 1) ∧ Fg 11325279729724950027965494710678647285481472 M x.2 ∧ Fg (1973751609322728158430646311549781290260737553695531790793833605345297506781372428058624 ||| 820219086978780714343243095759370041107539690231943260969623997760226754039967563635592039252361216) K y.2 ∧ ∀ i, i ≠ a → x.2 1270 i 0 = M 1270 i 0)) := by
  have hn := hA.2.1
  obtain ⟨n0, n1, n2⟩ := hn
  have er := rests_r (K := K) a0 a1
  have e30 : (qw (rsW K a 0 (-1) 0 0) 2227 a 0 2) 2208 30 0 = (K 2208 30 0) := by
    rw [qw_a (by decide), rsW_o (Or.inl rfl)]
  have ev0 : 0 ≤ (K 2208 30 0) ∧ (K 2208 30 0) ≤ 60 := by
    by_cases e : (M 1172 17 0) ≤ 60
    · rw [if_pos e] at n2; omega
    · rw [if_neg e] at n2; omega
  obtain ⟨⟨u, T⟩, eT, hT, hTf⟩ := tell_r (K := qw (rsW K a 0 (-1) 0 0) 2227 a 0 2) (a := a) (d := 1) (by rw [e30]; exact ev0.1) (by rw [e30]; exact ev0.2)
  (try dsimp only at hT hTf)
  have fT : Fg 1740631342255640669920310882730959021463648733009275048243616116176628992556747408277504 (qw (rsW K a 0 (-1) 0 0) 2227 a 0 2) T := fr_X14_tell Fg_refl _ eT
  have eJ : (qf_X14_go_J151 20000 a K).bind (goDo a) = qf_X18_does 20000 a 1 T := by
    unfold qf_X14_go_J151
    rw [er]
    show ((if 0 ≤ a ∧ a < 20 then qbnd (qw (rsW K a 0 (-1) 0 0) 2227 a 0 2) (fun M15 => (qf_X14_tell 20000 a 1 M15).bind (fun r17 => some (1, r17.2))) else none : Option (Int × qm)).bind (goDo a)) = _
    rw [if_pos ⟨a0, a1⟩]
    simp only [qbnd, eT]
    rfl
  rw [eJ]
  have r1 := rsW_v (K := K) (a := a) (v1 := 0) (v2 := -1) (v3 := 0) (v4 := 0)
  refine qW2_mono (act_ev (M := M) (K := K) (K2 := qw (rsW K a 0 (-1) 0 0) 2227 a 0 2) (d := 1) (t := t) (v2 := 0) (v3 := 0) (v4 := 0) a0 a1 (Or.inr rfl) hA hE hkind hnow ht T (fun b i j hb => ?_) (Fg_wa (k := ky 2227 0) rsW_F rfl rfl) hT hTf (Fg_mono fT rfl) T (fun _ _ _ _ => rfl) Fg_refl ⟨?_, ?_, ?_, ?_⟩) (fun x y h => ⟨h.1, h.2.1, h.2.2.1, fun i hi => by rw [h.2.2.2, if_neg (fun z => hi z.1)]⟩)
  · rw [qw_ap, if_neg, rsW_o hb]
    rintro ⟨rfl, e, _⟩
    rcases hb with hb | hb
    · cases hb
    · exact hb e
  · rw [hTf _ _ _ rfl (Or.inl (by decide)), qw_s]
    rfl
  · rw [hTf _ _ _ rfl (Or.inl (by decide)), qw_a (by decide)]
    exact r1.2.1
  · rw [hTf _ _ _ rfl (Or.inl (by decide)), qw_a (by decide)]
    exact r1.2.2.1
  · rw [hTf _ _ _ rfl (Or.inl (by decide)), qw_a (by decide)]
    exact r1.2.2.2
/-- an act is at rest again -/
theorem doneOff {M K : qm} {a t E : Int} (a0 : 0 ≤ a) (a1 : a < 20) (hA : AcR M K E) (hE : E < 2147483647) (hkind : (K 2220 a 0) = (M 1197 a 1)) (hnow : (K 2208 1 0) = t) (ht : (M 6 12 0) = t) : qW (qf_X4_setDone 20000 a 0 t M) (fun x => qW ((qf_X14_go_J33 20000 a 1 K).bind (goDo a)) (fun y => AcR x.2 y.2 (E + 1) ∧ Fg 11325279729724950027965494710678647285481472 M x.2 ∧ Fg (1973751609322728158430646311549781290260737553695531790793833605345297506781372428058624 ||| 820219086978780714343243095759370041107539690231943260969623997760226754039967563635592039252361216) K y.2 ∧ (x.2 1270 a 0 = 0) ∧ ∀ i, i ≠ a → x.2 1270 i 0 = M 1270 i 0)) := by
  have hn := hA.2.1
  obtain ⟨n0, n1, n2⟩ := hn
  have ev0 : 0 ≤ (K 2208 30 0) ∧ (K 2208 30 0) ≤ 60 := by
    by_cases e : (M 1172 17 0) ≤ 60
    · rw [if_pos e] at n2; omega
    · rw [if_neg e] at n2; omega
  obtain ⟨⟨u, T⟩, eT, hT, hTf⟩ := tell_r (K := K) (a := a) (d := 0) ev0.1 ev0.2
  (try dsimp only at hT hTf)
  have fT : Fg 1740631342255640669920310882730959021463648733009275048243616116176628992556747408277504 K T := fr_X14_tell Fg_refl _ eT
  have er := rests_r (K := T) a0 a1
  have eJ : (qf_X14_go_J33 20000 a 1 K).bind (goDo a) = qf_X18_does 20000 a 0 (rsW T a 0 (-1) 0 0) := by
    unfold qf_X14_go_J33
    rw [if_neg (by decide), eT]
    show ((qf_X14_go_J44 20000 a 1 T).bind (goDo a)) = _
    unfold qf_X14_go_J44 qf_X14_go_J58
    rw [if_neg (by decide), er]
    rfl
  rw [eJ]
  have r1 := rsW_v (K := T) (a := a) (v1 := 0) (v2 := -1) (v3 := 0) (v4 := 0)
  refine qW2_mono (act_ev (M := M) (K := K) (K2 := K) (d := 0) (t := t) (v2 := 0) (v3 := 0) (v4 := 0) a0 a1 (Or.inl rfl) hA hE hkind hnow ht T (fun _ _ _ _ => rfl) Fg_refl hT hTf (Fg_mono fT rfl) (rsW T a 0 (-1) 0 0) (fun b i j hb => rsW_o hb) rsW_F ⟨r1.1, r1.2.1, r1.2.2.1, r1.2.2.2⟩) (fun x y h => ⟨h.1, h.2.1, h.2.2.1, by rw [h.2.2.2, if_pos ⟨rfl, rfl⟩, if_pos rfl], fun i hi => by rw [h.2.2.2, if_neg (fun z => hi z.1)]⟩)
