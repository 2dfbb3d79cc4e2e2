/-! ===== persons look, confirm: both sides ===== -/
def atI (M K : qm) (k : Int) (c d : Int) (S T : qm) : Prop := c = d ∧ 0 ≤ c ∧ c ≤ k ∧ R_mst S T ∧ Fg (1045347431181122959759486794030391945592832 ||| 1393796574908163946345982392040522594123776) M S ∧ Fg 217578915929281655942979733564234117543949565973839626380202989890757279942983351795712 K T
theorem msA_1 {S T : qm} {a : Int} (h1 : S 1270 a 0 = 1) (h2 : T 2227 a 0 = 1) (h3 : T 2228 a 0 = S 1271 a 0) (h4 : 0 ≤ S 1271 a 0) (h5 : S 1271 a 0 ≤ S 6 12 0) (h6 : T 2229 a 0 = S 1272 a 0) (h7 : T 2230 a 0 = S 1273 a 0) (h8 : T 2229 a 0 = 0 ∨ T 2229 a 0 = 1) (h9 : T 2230 a 0 = 0 ∨ T 2230 a 0 = 1) : msA S T a := ⟨by omega, by omega, by omega, by rw [if_pos h1]; exact ⟨h3, h4, h5, h6, h7⟩, h8, h9⟩
theorem look_loop {M K : qm} {t : Int} (hm : R_mst M K) (hs : mactS M K) (hu : ∀ i, 0 ≤ i → i < 20 → (M 1197 i 0) = 0 → (M 1270 i 0) = 0) (ht : (M 6 12 0) = t) (hn : (K 2208 1 0) = t) (t0 : 0 ≤ t) : qW (qf_X4_lookAtActs_L4 20000 20000 t 0 0 M) (fun x => qW (qf_X14_attend_L4 20000 20000 0 0 0 K) (fun y => match x, y with
    | .inr x, .inr y => atI M K 20 x.1 y.1 x.2 y.2
    | _, _ => False)) := by
  unfold qf_X4_lookAtActs_L4 qf_X14_attend_L4
  refine qW_for2 20 (fun k s u => s.1 = t ∧ s.2.2.1 = k ∧ u.1 = 0 ∧ u.2.2.1 = k ∧ atI M K k s.2.1 u.2.1 s.2.2.2 u.2.2.2) ?_ ?_ ⟨rfl, rfl, rfl, rfl, rfl, Int.le_refl _, Int.le_refl _, hm, Fg_refl, Fg_refl⟩ (by omega) (by omega)
  · rintro k ⟨t', c, k', S⟩ ⟨z, d, k2, T⟩ k0 k1 ⟨e1, e2, e3, e4, e5, c0, c1, hI, fS, fT⟩
    (try dsimp only at *)
    subst e1
    subst e2
    subst e3
    subst e4
    subst e5
    have ew : w32 (k2 + 1) = k2 + 1 := w32_id (by omega) (by omega)
    have ec : w32 (c + 1) = c + 1 := w32_id (by omega) (by omega)
    have ec0 : w32 (c + 0) = c := by rw [Int.add_zero]; exact w32_id (by omega) (by omega)
    have m20 : 0 ≤ k2 ∧ k2 < 20 := ⟨k0, k1⟩
    have m40 : 0 ≤ k2 ∧ k2 < 40 := by omega
    have q := hI k2 k0 k1
    have hq := q
    obtain ⟨q1, q2, q3, q4, q5, q6⟩ := hq
    have eS : S 1270 k2 0 = M 1270 k2 0 := Fg_v fS rfl rfl
    have eT : T 2219 k2 0 = K 2219 k2 0 := Fg_v fT rfl rfl
    have en : T 2208 1 0 = t' := (fT 2208 1 0 rfl).trans hn
    have et : S 6 12 0 = t' := (fS 6 12 0 rfl).trans ht
    have hs2 := hs k2 k0 k1
    unfold qf_X4_lookAtActs_L4_b qf_X14_attend_L4_b
    rw [if_neg (show ¬ 20 ≤ k2 by omega), if_neg (show ¬ 20 ≤ k2 by omega), if_pos m20, if_pos m40]
    have skipR : qf_X14_attend_J58 20000 0 c k2 T = some (.inr (0, c, k2 + 1, T)) := by
      unfold qf_X14_attend_J58 qf_X14_attend_J59 qf_X14_attend_J90 qf_X14_attend_J102 qf_X14_attend_J113
      rw [if_pos rfl, if_pos rfl, if_pos rfl, ec0, ew]
    have keep : atI M K (k2 + 1) c c S T := ⟨rfl, c0, by omega, hI, fS, fT⟩
    by_cases g : S 1270 k2 0 = 1
    · have told : K 2219 k2 0 ≠ 0 := by
        intro x
        have := hu k2 k0 k1 (by omega)
        omega
      rw [if_pos g] at q4
      rw [if_pos g, if_pos m20, eT, if_neg told, if_pos m20, if_pos (show T 2227 k2 0 = 1 by omega), if_pos (show (0 : Int) = 0 from rfl), if_pos m20]
      by_cases g2 : S 1272 k2 0 = 0
      · rw [if_pos g2, if_pos m20, if_pos (show T 2229 k2 0 = 0 by omega)]
        refine qW_bnd ?_
        rw [if_pos m20]
        refine qW_bnd ?_
        unfold qf_X14_attend_J54 qf_X14_attend_J59
        rw [if_neg (by decide), if_pos rfl, if_pos m20]
        refine qW_some (qW_bnd ?_)
        rw [if_pos m20]
        refine qW_bnd ?_
        unfold qf_X14_attend_J102 qf_X14_attend_J113
        rw [if_neg (by decide), ec, ew, en]
        refine qW_some ⟨rfl, rfl, rfl, rfl, rfl, by (try dsimp only); omega, by (try dsimp only); omega, ?_, Fg_wa (k := ky 1271 0) (Fg_wa (k := ky 1272 0) fS rfl rfl) rfl rfl, Fg_wa (k := ky 2229 0) (Fg_wa (k := ky 2228 0) fT rfl rfl) rfl rfl⟩
        refine mst_upd (M := S) (K := T) (a := k2) rfl (fun b hb _ i hi => ?_) (fun b hb _ i hi => ?_) hI ?_
        · (try dsimp only)
          rw [qw_ap, if_neg (by omega), qw_ap, if_neg (by omega)]
        · (try dsimp only)
          rw [qw_ap, if_neg (by omega), qw_ap, if_neg (by omega)]
        · have l1 : (qw (qw T 2228 k2 0 t') 2229 k2 0 1) 2229 k2 0 = 1 := qw_s
          have l2 : (qw (qw T 2228 k2 0 t') 2229 k2 0 1) 2228 k2 0 = t' := (qw_a (by decide)).trans qw_s
          have l3 : (qw (qw S 1272 k2 0 1) 1271 k2 0 t') 1271 k2 0 = t' := qw_s
          have l4 : (qw (qw S 1272 k2 0 1) 1271 k2 0 t') 1272 k2 0 = 1 := (qw_a (by decide)).trans qw_s
          have g3 : T 2227 k2 0 = 1 := by omega
          exact msA_1 g g3 (l2.trans l3.symm) (Int.le_trans t0 (Int.le_of_eq l3.symm)) (Int.le_trans (Int.le_of_eq l3) (Int.le_of_eq et.symm)) (l1.trans l4.symm) q4.2.2.2.2 (Or.inr l1) q6
      · rw [if_neg g2, if_neg (show ¬ T 2229 k2 0 = 0 by omega), skipR, ew]
        (try rw [if_pos m20])
        exact qW_some (qW_some ⟨rfl, rfl, rfl, rfl, keep⟩)
    · rw [if_neg g, ew]
      refine qW_some ?_
      by_cases g2 : T 2219 k2 0 = 0
      · rw [if_pos g2, skipR]
        exact qW_some ⟨rfl, rfl, rfl, rfl, keep⟩
      · rw [if_neg g2, if_pos m20, if_neg (show ¬ T 2227 k2 0 = 1 by omega), skipR]
        exact qW_some ⟨rfl, rfl, rfl, rfl, keep⟩
  · rintro ⟨t', c, k', S⟩ ⟨z, d, k2, T⟩ ⟨e1, e2, e3, e4, hI⟩
    (try dsimp only at *)
    unfold qf_X4_lookAtActs_L4_b qf_X14_attend_L4_b
    rw [if_pos (by omega), if_pos (by omega)]
    exact qW_some (qW_some hI)
theorem conf_loop {M K : qm} (hm : R_mst M K) (hs : mactS M K) (hu : ∀ i, 0 ≤ i → i < 20 → (M 1197 i 0) = 0 → (M 1270 i 0) = 0) : qW (qf_X4_confirmActs_L4 20000 20000 0 0 M) (fun x => qW (qf_X14_attend_L4 20000 20000 1 0 0 K) (fun y => match x, y with
    | .inr x, .inr y => atI M K 20 x.1 y.1 x.2 y.2
    | _, _ => False)) := by
  unfold qf_X4_confirmActs_L4 qf_X14_attend_L4
  refine qW_for2 20 (fun k s u => s.2.1 = k ∧ u.1 = 1 ∧ u.2.2.1 = k ∧ atI M K k s.1 u.2.1 s.2.2 u.2.2.2) ?_ ?_ ⟨rfl, rfl, rfl, rfl, Int.le_refl _, Int.le_refl _, hm, Fg_refl, Fg_refl⟩ (by omega) (by omega)
  · rintro k ⟨c, k', S⟩ ⟨z, d, k2, T⟩ k0 k1 ⟨e2, e3, e4, e5, c0, c1, hI, fS, fT⟩
    (try dsimp only at *)
    subst e2
    subst e3
    subst e4
    subst e5
    have ew : w32 (k2 + 1) = k2 + 1 := w32_id (by omega) (by omega)
    have ec : w32 (c + 1) = c + 1 := w32_id (by omega) (by omega)
    have ec0 : w32 (c + 0) = c := by rw [Int.add_zero]; exact w32_id (by omega) (by omega)
    have m20 : 0 ≤ k2 ∧ k2 < 20 := ⟨k0, k1⟩
    have m40 : 0 ≤ k2 ∧ k2 < 40 := by omega
    have q := hI k2 k0 k1
    have hq := q
    obtain ⟨q1, q2, q3, q4, q5, q6⟩ := hq
    have eS : S 1270 k2 0 = M 1270 k2 0 := Fg_v fS rfl rfl
    have eT : T 2219 k2 0 = K 2219 k2 0 := Fg_v fT rfl rfl
    have hs2 := hs k2 k0 k1
    unfold qf_X4_confirmActs_L4_b qf_X14_attend_L4_b
    rw [if_neg (show ¬ 20 ≤ k2 by omega), if_neg (show ¬ 20 ≤ k2 by omega), if_pos m20, if_pos m40]
    have skipR : qf_X14_attend_J58 20000 1 c k2 T = some (.inr (1, c, k2 + 1, T)) := by
      unfold qf_X14_attend_J58 qf_X14_attend_J59 qf_X14_attend_J90 qf_X14_attend_J102 qf_X14_attend_J113
      rw [if_pos rfl, if_pos rfl, if_pos rfl, ec0, ew]
    have keep : atI M K (k2 + 1) c c S T := ⟨rfl, c0, by omega, hI, fS, fT⟩
    by_cases g : S 1270 k2 0 = 1
    · have told : K 2219 k2 0 ≠ 0 := by
        intro x
        have := hu k2 k0 k1 (by omega)
        omega
      rw [if_pos g] at q4
      rw [if_pos g, if_pos m20, eT, if_neg told, if_pos m20, if_pos (show T 2227 k2 0 = 1 by omega), if_neg (show ¬ (1 : Int) = 0 by decide), if_pos m20]
      by_cases g2 : S 1273 k2 0 = 0
      · rw [if_pos g2, if_pos m20, if_pos (show T 2230 k2 0 = 0 by omega)]
        refine qW_bnd ?_
        unfold qf_X14_attend_J54 qf_X14_attend_J59 qf_X14_attend_J90
        rw [if_neg (by decide), if_neg (by decide), if_neg (by decide), if_pos m20]
        refine qW_some (qW_bnd ?_)
        unfold qf_X14_attend_J102 qf_X14_attend_J113
        rw [if_neg (by decide), ec, ew]
        refine qW_some ⟨rfl, rfl, rfl, rfl, by (try dsimp only); omega, by (try dsimp only); omega, ?_, Fg_wa (k := ky 1273 0) fS rfl rfl, Fg_wa (k := ky 2230 0) fT rfl rfl⟩
        refine mst_upd (M := S) (K := T) (a := k2) rfl (fun b hb _ i hi => ?_) (fun b hb _ i hi => ?_) hI ?_
        · (try dsimp only)
          rw [qw_ap, if_neg (by omega)]
        · (try dsimp only)
          rw [qw_ap, if_neg (by omega)]
        · have l1 : (qw T 2230 k2 0 1) 2230 k2 0 = 1 := qw_s
          have l4 : (qw S 1273 k2 0 1) 1273 k2 0 = 1 := qw_s
          have g3 : T 2227 k2 0 = 1 := by omega
          exact msA_1 g g3 q4.1 q4.2.1 q4.2.2.1 q4.2.2.2.1 (l1.trans l4.symm) q5 (Or.inr l1)
      · rw [if_neg g2, if_neg (show ¬ T 2230 k2 0 = 0 by omega), skipR, ew]
        (try rw [if_pos m20])
        exact qW_some (qW_some ⟨rfl, rfl, rfl, keep⟩)
    · rw [if_neg g, ew]
      refine qW_some ?_
      by_cases g2 : T 2219 k2 0 = 0
      · rw [if_pos g2, skipR]
        exact qW_some ⟨rfl, rfl, rfl, keep⟩
      · rw [if_neg g2, if_pos m20, if_neg (show ¬ T 2227 k2 0 = 1 by omega), skipR]
        exact qW_some ⟨rfl, rfl, rfl, keep⟩
  · rintro ⟨c, k', S⟩ ⟨z, d, k2, T⟩ ⟨e2, e3, e4, hI⟩
    (try dsimp only at *)
    unfold qf_X4_confirmActs_L4_b qf_X14_attend_L4_b
    rw [if_pos (by omega), if_pos (by omega)]
    exact qW_some (qW_some hI)
theorem MxI_st {M K S T : qm} {E : Int} (h : MxI M K E) (fM : Fg (1045347431181122959759486794030391945592832 ||| 1393796574908163946345982392040522594123776) M S) (fK : Fg 217578915929281655942979733564234117543949565973839626380202989890757279942983351795712 K T) (hm : R_mst S T) : MxI S T E := by
  obtain ⟨h1, h2, h3, h4, h5, h6, h7, h8, h9, h10, h11, h12, h13, h14⟩ := h
  have l4 : lk4 M S := fun i j => ⟨Fg_v fM rfl rfl, Fg_v fM rfl rfl, Fg_v fM rfl rfl, Fg_v fM rfl rfl⟩
  have er : ∀ i j, S 1218 i j = M 1218 i j := fun i j => Fg_v fM rfl rfl
  have eb : ∀ i j, S 1269 i j = M 1269 i j := fun i j => Fg_v fM rfl rfl
  have ea : ∀ i j, S 1197 i j = M 1197 i j := fun i j => Fg_v fM rfl rfl
  refine ⟨znC_4 l4 h1, ⟨?_, ?_, ?_⟩, ?_, (R_mfault_x (fun i j => Fg_v (a := 1174) (j := i) fM rfl rfl) (fun i j => Fg_v (a := 2210) (j := i) fK rfl rfl) h4), (R_muntil_x (fun i j => Fg_v (a := 1175) (j := i) fM rfl rfl) (fun i j => Fg_v (a := 2211) (j := i) fK rfl rfl) h5), (R_mnow_x (fM 6 12 0 rfl) (fK 2208 1 0 rfl) h6), (R_mvalue_x (fun i j => Fg_v (a := 1173) (j := i) fM rfl rfl) (fun i j => Fg_v (a := 2209) (j := i) fK rfl rfl) h7), (R_mzones_x (fun i j => Fg_v (a := 1176) (j := i) fM rfl rfl) (fun i j => Fg_v (a := 2215) (j := i) fK rfl rfl) (fun i j => Fg_v (a := 2216) (j := i) fK rfl rfl) (fun i j => Fg_v (a := 2217) (j := i) fK rfl rfl) h8), (R_mzonep_x (fM 1172 2 0 rfl) (fun i j => Fg_v (a := 1176) (j := i) fM rfl rfl) (fun i j => Fg_v (a := 2215) (j := i) fK rfl rfl) (fun i j => Fg_v (a := 2218) (j := i) fK rfl rfl) h9), (R_mrows_x (fM 1172 9 0 rfl) (fK 2208 21 0 rfl) h10), (R_mrow_x (fM 1172 9 0 rfl) (fun i j => Fg_v (a := 1218) (j := i) fM rfl rfl) (fun i j => Fg_v (a := 2215) (j := i) fK rfl rfl) (fun i j => Fg_v (a := 2219) (j := i) fK rfl rfl) (fun i j => Fg_v (a := 2224) (j := i) fK rfl rfl) (fun i j => Fg_v (a := 2225) (j := i) fK rfl rfl) (fun i j => Fg_v (a := 2226) (j := i) fK rfl rfl) h11), ?_, ⟨hm, ?_, ?_, ?_, ?_⟩, ?_⟩
  · rw [show S 1172 9 0 = M 1172 9 0 from fM 1172 9 0 rfl]
    exact h2.1
  · rw [show S 1172 9 0 = M 1172 9 0 from fM 1172 9 0 rfl]
    exact h2.2.1
  · intro r r0 r1
    rw [show S 1172 9 0 = M 1172 9 0 from fM 1172 9 0 rfl] at r1
    rw [er, er, (l4 _ 0).1, (l4 _ 0).1]
    exact h2.2.2 r r0 r1
  · unfold rkC
    simp only [eb, ea]
    exact h3
  · intro a a0 a1
    rw [ea, ea, ea, ea, ea, show T 2219 a 0 = K 2219 a 0 from Fg_v fK rfl rfl, show T 2220 a 0 = K 2220 a 0 from Fg_v fK rfl rfl, show T 2221 a 0 = K 2221 a 0 from Fg_v fK rfl rfl, show T 2222 a 0 = K 2222 a 0 from Fg_v fK rfl rfl, show T 2223 a 0 = K 2223 a 0 from Fg_v fK rfl rfl]
    exact h12 a a0 a1
  · unfold evn
    rw [show S 1172 17 0 = M 1172 17 0 from fM 1172 17 0 rfl, show T 2208 30 0 = K 2208 30 0 from fK 2208 30 0 rfl]
    exact h13.2.1
  · exact (R_mevent_x (fM 1172 17 0 rfl) (fun i j => Fg_v (a := 1276) (j := i) fM rfl rfl) (fK 2208 30 0 rfl) (fun i j => Fg_v (a := 2231) (j := i) fK rfl rfl) (fun i j => Fg_v (a := 2232) (j := i) fK rfl rfl) (fun i j => Fg_v (a := 2233) (j := i) fK rfl rfl) h13.2.2.1)
  · refine BQ_x (fun i j => Fg_v fM rfl rfl) (fun i j => Fg_v fM rfl rfl) (fun i j => Fg_v fM rfl rfl) (fun b hb i j => ?_) h13.2.2.2.1
    rcases hb with hb | rfl | rfl
    · unfold bsA at hb
      simp only [Bool.or_eq_true, beq_iff_eq] at hb
      rcases hb with (((((((rfl | rfl) | rfl) | rfl) | rfl) | rfl) | rfl) | rfl) | rfl <;> exact Fg_v fK rfl rfl
    · exact Fg_v fK rfl rfl
    · exact Fg_v fK rfl rfl
  · exact (R_points_x (fun i j => Fg_v (a := 1135) (j := i) fM rfl rfl) (fun i j => Fg_v (a := 2247) (j := i) fK rfl rfl) h13.2.2.2.2)
  · intro i i0 i1
    rw [ea, show S 1270 i 0 = M 1270 i 0 from Fg_v fM rfl rfl]
    exact h14 i i0 i1
theorem op_attend {M K : qm} {E x1 : Int} (h_built : R_built M K) (h_time : R_time M K) (h : MxI M K E) : oK2 cI (qf_L_attend 20000 x1 M) (qf_X18_attend 20000 x1 K) (fun M' K' => MxI M' K' E) := by
  have s_built := h_built
  unfold R_built at s_built
  have s_time := h_time
  unfold R_time at s_time
  have h1 := MxI_A (M := M) (K := K) (S := M) (T := qw K 2156 0 0 0) lkA_K h
  have hh := h1
  obtain ⟨g1, g2, g3, g4, g5, g6, g7, g8, g9, g10, g11, g12, g13, g14⟩ := hh
  have hn := g6
  unfold R_mnow at hn
  have fin : ∀ (x : Int × qm) (y : Int × qm), atI M (qw K 2156 0 0 0) 20 x.1 y.1 x.2 y.2 → MxI (qw x.2 2332 0 0 x.1) y.2 E ∧ y.2 2156 0 0 = 0 ∧ x.1 = y.1 := by
    rintro ⟨c, X⟩ ⟨d, Y⟩ ⟨e1, e2, e3, e4, e5, e6⟩
    exact ⟨MxI_A lkA_M (MxI_st h1 e5 e6 e4), e6 2156 0 0 rfl, e1⟩
  unfold oK2 qf_L_attend qf_X11_attend qf_X18_attend qf_X18_attend_J10 qf_X18_attend_J15 qf_X4_lookAtActs qf_X4_confirmActs qf_X14_attend
  refine qW_bind (qW_within (fun b => ?_) (fun b0 b1 => ?_))
  · refine qW_na (fun _ => ?_) (fun x => absurd rfl x)
    refine qW_some ?_
    (try dsimp only)
    rw [if_pos rfl]
    refine qW_some ?_
    rw [if_neg (by omega), if_neg (by omega)]
    refine qW_goes (fun _ => ?_) (fun x _ => absurd rfl x) (fun x _ => absurd rfl x)
    (try dsimp only)
    rw [if_pos rfl]
    exact qW_some ⟨rfl, fun x => absurd x (by decide), MxI_A lkA_K h⟩
  · refine qW_na (fun x => absurd x (by decide)) (fun _ => ?_)
    (try dsimp only)
    refine qW_ns (fun b => ?_) (fun b => ?_)
    · refine qW_some ?_
      (try dsimp only)
      rw [if_neg (by decide), if_pos rfl]
      refine qW_some ?_
      have go : qW ((qf_X18_goes 20000 1 (K 2156 1 0) K).bind (fun r3 => if r3.1 = 0 then some ((0 : Int), r3.2) else ((qf_X14_attend_L4 20000 20000 x1 0 0 r3.2).bind (fun r => (match r with | .inl o => some o | .inr (v17, M16) => some (v17, M16)))).bind (fun r6 => some (r6.1, r6.2)))) (fun s => s.2 2156 0 0 = 2 ∧ ((2 : Int) = 0 → cI (M 2332 0 0) s.1) ∧ MxI M s.2 E) := by
        refine qW_goes (fun x => absurd x (by decide)) (fun _ _ => ?_) (fun _ x => absurd (s_built.2.trans b) x)
        (try dsimp only)
        rw [if_pos rfl]
        exact qW_some ⟨rfl, fun x => absurd x (by decide), MxI_A lkA_K h⟩
      by_cases e : x1 = 0
      · rw [if_pos e]
        exact go
      · rw [if_neg e, if_pos (show x1 = 1 by omega)]
        exact go
    · (try dsimp only)
      have nb : K 2156 1 0 ≠ 0 := fun x => b (s_built.2.symm.trans x)
      by_cases e : x1 = 0
      · subst e
        rw [if_pos rfl, if_pos rfl]
        obtain ⟨x, ex, y, ey, hxy⟩ := look_loop (t := M 6 12 0) g13.1 g12 g14 rfl hn s_time.1
        rcases x with x | ⟨c, X⟩ <;> rcases y with y | ⟨d, Y⟩
        · exact hxy.elim
        · exact hxy.elim
        · exact hxy.elim
        · (try dsimp only at hxy)
          obtain ⟨f1, f2, f3⟩ := fin (c, X) (d, Y) hxy
          rw [ex]
          refine qW_bind (qW_bind (qW_some (qW_some (qW_some ?_))))
          (try dsimp only)
          refine qW_bnd (qW_some ?_)
          refine qW_goes (fun x => absurd x (by decide)) (fun _ x => absurd x nb) (fun _ _ => ?_)
          (try dsimp only)
          rw [if_neg (by decide), ey]
          exact qW_bind (qW_bind (qW_some (qW_some (qW_some ⟨f2, fun _ => f3, f1⟩))))
      · have e1 : x1 = 1 := by omega
        subst e1
        rw [if_neg e, if_neg e, if_pos rfl]
        obtain ⟨x, ex, y, ey, hxy⟩ := conf_loop g13.1 g12 g14
        rcases x with x | ⟨c, X⟩ <;> rcases y with y | ⟨d, Y⟩
        · exact hxy.elim
        · exact hxy.elim
        · exact hxy.elim
        · (try dsimp only at hxy)
          obtain ⟨f1, f2, f3⟩ := fin (c, X) (d, Y) hxy
          rw [ex]
          refine qW_bind (qW_bind (qW_some (qW_some (qW_some ?_))))
          (try dsimp only)
          refine qW_bnd (qW_some ?_)
          refine qW_goes (fun x => absurd x (by decide)) (fun _ x => absurd x nb) (fun _ _ => ?_)
          (try dsimp only)
          rw [if_neg (by decide), ey]
          exact qW_bind (qW_bind (qW_some (qW_some (qW_some ⟨f2, fun _ => f3, f1⟩))))
