/-! ===== the matrix text: a row ===== -/
section MTh
variable {M K A W Z A' Z' X : qm} {T bg en : Int → Int} {L p q e k i j x y z c n w s v C D r lo hi t P a i1 i2 i3 oth : Int} {m N : Nat}
theorem out_f {rc : Option (Int × qm)} {rk : Option (Unit × qm)} (h : OUTM T L n bg en P j A' Z' rc rk) (f : MFC A A') (g : MFK Z Z') (hi : i ≤ j) : OUTM T L n bg en P i A Z rc rk := by
  obtain ⟨b, B, Y, e1, e2, f1, g1, h1⟩ := h
  refine ⟨b, B, Y, e1, e2, mfc_t f f1, mfk_t g g1, ?_⟩
  rcases h1 with ⟨b1, j', q1, q2⟩ | h1
  · exact Or.inl ⟨b1, j', by omega, q2⟩
  · exact Or.inr h1
theorem row98_bad (hw : WRD T L n bg en) (hK : KSX T L n bg en j w Z) (w0 : 0 ≤ w) : qf_X14_readRow_J98 20000 i1 i2 i3 Z = some ((), Z) := by
  unfold qf_X14_readRow_J98
  rcases takeS_K hw hK (Or.inr w0) with ⟨z, _⟩ | ⟨z, _⟩ | ⟨_, z⟩
  · omega
  · omega
  · rw [z]
    simp only [Option.bind_some]
    rw [if_pos (show 0 ≤ Z 2208 11 0 by rw [hK.2.2.1]; exact w0)]
theorem row40_bad (hw : WRD T L n bg en) (hK : KSX T L n bg en j w Z) (w0 : 0 ≤ w) : qf_X14_readRow_J40 20000 i1 i2 Z = some ((), Z) := by
  unfold qf_X14_readRow_J40
  rcases takeW_K (C := 1685022067) (D := 628196) hw hK (by unfold KNW; omega) (Or.inr w0) with ⟨z, _⟩ | ⟨z, _⟩ | ⟨_, z⟩
  · omega
  · omega
  · rw [z]
    simp only [Option.bind_some]
    have w3 : 0 ≤ Z 2208 11 0 := by rw [hK.2.2.1]; exact w0
    rw [if_pos w3]
    unfold qf_X14_readRow_J64
    rw [if_pos w3]
    exact row98_bad hw hK w0
/-- a zone that is told, another one than oth -/
theorem takeZ_both (hw : WRD T L n bg en) (hA : MST T L n bg en j A) (hK : KSX T L n bg en j (-1) Z) (hT : TBL P A Z) : (∃ V, qf_X5_toldZoneHere 20000 A = some V ∧ V ≠ oth ∧ 0 ≤ V ∧ V < 20 ∧ Z 2215 (20 + V) 0 = 1 ∧ j < n ∧ qf_X14_takeZone 20000 oth Z = some (V, qw Z 2208 10 0 (j + 1)) ∧ KSX T L n bg en (j + 1) (-1) (qw Z 2208 10 0 (j + 1))) ∨ (∃ v v', qf_X5_toldZoneHere 20000 A = some v ∧ (v = -1 ∨ v = oth) ∧ qf_X14_takeZone 20000 oth Z = some (v', qw Z 2208 11 0 j) ∧ KSX T L n bg en j j (qw Z 2208 11 0 j)) := by
  have nL := hw.2.2.2.1
  have L1 := hw.2.1
  have j0 := hA.2.2.1
  obtain ⟨t1, t2, t3, t4, t5, t6, t7, t8, t9, t10⟩ := hT
  obtain ⟨v, ev, hv⟩ := toldZ_C hw hA
  have kb := ksx_wr (t := j) hK
  have b37 : ∀ u, qf_X14_takeZone_J37 20000 u Z = some (u, qw Z 2208 11 0 j) := fun u => by
    unfold qf_X14_takeZone_J37 qf_X14_takeZone_J38
    rw [want_K hK (Or.inl rfl), if_neg (by decide), if_pos rfl]
    simp only [Option.bind_some]
    (first | rw [if_pos trivial] | rw [if_pos rfl])
  rcases look_K (lo := 0) (hi := 19) hw hK with ⟨_, g1, g2⟩ | ⟨_, g1, g2⟩ | ⟨g0, _⟩
  · have b0 := g1.2.2.2.1
    have b1 := g1.2.2.2.2
    obtain ⟨V, hV⟩ : ∃ V, dgv T (bg j) (en j - bg j).toNat = V := ⟨_, rfl⟩
    rw [hV] at b0 b1 g2 hv
    have zn := t5 V b0 (by omega)
    unfold ZNE at zn
    have cV : 0 ≤ 20 + V ∧ 20 + V < 40 := by omega
    have st : qf_X14_takeZone 20000 oth Z = (if Z 2215 (20 + V) 0 = 0 then qf_X14_takeZone_J37 20000 V Z else if V = oth then qf_X14_takeZone_J37 20000 V Z else qf_X14_takeZone_J38 20000 V 1 Z) := by
      unfold qf_X14_takeZone
      rw [g2]
      simp only [Option.bind_some]
      rw [if_neg (show ¬ 0 ≤ Z 2208 11 0 by have := hK.2.2.1; omega), w32_id (x := 20 + V) (by omega) (by omega), if_pos cV]
    by_cases gz : A 910 V 0 = 0
    · have zt : Z 2215 (20 + V) 0 = 0 := by omega
      rw [if_pos zt, b37] at st
      refine Or.inr ⟨v, V, ev, ?_, st, kb⟩
      rcases hv with ⟨_, y, _, _, y2⟩ | ⟨y, _⟩
      · rw [y] at y2
        exact absurd gz y2
      · exact Or.inl y
    · have vV : v = V := by
        rcases hv with ⟨_, y, _⟩ | ⟨_, y | ⟨_, y⟩⟩
        · exact y
        · exact absurd g1 y
        · exact absurd y gz
      rw [if_neg (show ¬ Z 2215 (20 + V) 0 = 0 by omega)] at st
      by_cases go : V = oth
      · rw [if_pos go, b37] at st
        exact Or.inr ⟨v, V, ev, Or.inr (vV.trans go), st, kb⟩
      · rw [if_neg go] at st
        have jl := g1.1
        refine Or.inl ⟨V, by rw [ev, vV], go, b0, by omega, by omega, g1.1, ?_, ksx_at hK (by omega) (by have := g1.1; omega)⟩
        rw [st]
        unfold qf_X14_takeZone_J38 qbnd
        rw [want_K hK (Or.inr rfl), if_neg (by decide), if_neg (by decide)]
        simp only [Option.bind_some]
        rw [if_neg (by decide), hK.2.1, w32_id (x := j + 1) (by omega) (by omega)]
  · refine Or.inr ⟨v, -1, ev, ?_, ?_, kb⟩
    · rcases hv with ⟨y, _⟩ | ⟨y, _⟩
      · exact absurd y g1
      · exact Or.inl y
    · unfold qf_X14_takeZone
      rw [g2]
      simp only [Option.bind_some]
      rw [if_pos (show 0 ≤ qw Z 2208 11 0 j 2208 11 0 by rw [qw_s]; exact j0)]
  · omega
/-- behind the zones -/
theorem row52_both (hw : WRD T L n bg en) (hA : MST T L n bg en j A) (hK : KSX T L n bg en j (-1) Z) (hT : TBL P A Z) (hr : A 908 12 0 < 50) (a0 : 0 ≤ i1) (a1 : i1 < 20) (a2 : Z 2215 (20 + i1) 0 = 1) (b0 : -1 ≤ i2) (b1 : i2 < 20) (b2 : 0 ≤ i2 → Z 2215 (20 + i2) 0 = 1) : OUTM T L n bg en P j A Z (qf_X5_readRow_J52 20000 i1 i2 A) (qf_X14_readRow_J40 20000 i1 i2 Z) := by
  have nL := hw.2.2.2.1
  have L1 := hw.2.1
  have j0 := hA.2.2.1
  have hT' := hT
  obtain ⟨t1, t2, t3, t4, t5, t6, t7, t8, t9, t10⟩ := hT
  rcases skW_C (C := 1685022067) hw hA (by decide) with ⟨g, B, e1, f1, m1⟩ | ⟨g, e1⟩
  · rcases takeW_K (C := 1685022067) (D := 628196) hw hK (by unfold KNW; omega) (Or.inl rfl) with ⟨_, _, e2, k2⟩ | ⟨_, y, _⟩ | ⟨y, _⟩
    · obtain ⟨Y, hY⟩ : ∃ Y, qw Z 2208 10 0 (j + 1) = Y := ⟨_, rfl⟩
      rw [hY] at e2 k2
      have fY : ∀ b x y, ¬ (b = 2208 ∧ (x = 10 ∨ x = 11)) → Y b x y = Z b x y := fun b x y z => by rw [← hY]; exact o10 b x y z
      have y11 := k2.2.2.1
      obtain ⟨v, ev, hv⟩ := toldA_C hw m1
      have stC : qf_X5_readRow_J52 20000 i1 i2 A = (if v = -1 then some (0, B) else (qf_X5_nextWord 20000 B).bind (fun r14 => (qf_X5_skipSign 20000 59 r14.2).bind (fun r16 => if r16.1 = 0 then some (0, r16.2) else if 0 ≤ (r16.2 908 12 0) ∧ (r16.2 908 12 0) < 50 then some (1, qw (qw (qw (qw r16.2 952 (r16.2 908 12 0) 0 i1) 952 (r16.2 908 12 0) 1 i2) 952 (r16.2 908 12 0) 2 v) 908 12 0 (w32 (r16.2 908 12 0 + 1))) else none))) := by
        unfold qf_X5_readRow_J52 qbnd
        rw [e1]
        simp only [Option.bind_some]
        rw [if_neg (by decide), ev]
        simp only [Option.bind_some]
        rfl
      have stK : qf_X14_readRow_J40 20000 i1 i2 Z = (qf_X14_look 20000 0 19 Y).bind (fun r29 => qf_X14_readRow_J64 20000 i1 i2 r29.1 r29.2) := by
        unfold qf_X14_readRow_J40
        rw [e2]
        simp only [Option.bind_some]
        rw [if_neg (by omega)]
      -- wrong at the act
      have bad : ∀ u, qf_X14_readRow_J40 20000 i1 i2 Z = qf_X14_readRow_J98 20000 i1 i2 u (qw Y 2208 11 0 (j + 1)) → v = -1 → OUTM T L n bg en P j A Z (qf_X5_readRow_J52 20000 i1 i2 A) (qf_X14_readRow_J40 20000 i1 i2 Z) := fun u e3 vm => by
        rw [if_pos vm] at stC
        have k3 := ksx_wr (t := j + 1) k2
        rw [row98_bad hw k3 (by omega)] at e3
        exact ⟨0, B, _, stC, e3, mfc_x f1, mfk_t (fr10 fY) (fr10 o11), Or.inr ⟨rfl, j + 1, by omega, m1.2.2.2.2.1, k3.2.2.1⟩⟩
      rcases look_K (lo := 0) (hi := 19) hw k2 with ⟨_, g1, g2⟩ | ⟨_, g1, g2⟩ | ⟨g0, _⟩
      · have c0 := g1.2.2.2.1
        have c1 := g1.2.2.2.2
        have jl := g1.1
        obtain ⟨V, hV⟩ : ∃ V, dgv T (bg (j + 1)) (en (j + 1) - bg (j + 1)).toNat = V := ⟨_, rfl⟩
        rw [hV] at c0 c1 g2 hv
        have cV : 0 ≤ 20 + V ∧ 20 + V < 40 := by omega
        have ac := t6 V c0 (by omega)
        unfold ACE at ac
        have y19 : Y 2219 (20 + V) 0 = Z 2219 (20 + V) 0 := fY _ _ _ (by omega)
        have z19 : Z 2219 (20 + V) 0 = 0 ∨ Z 2219 (20 + V) 0 = 1 := by omega
        have b931 : B 931 V 0 = A 931 V 0 := f1 _ _ _ (by omega)
        rw [g2] at stK
        simp only [Option.bind_some] at stK
        unfold qf_X14_readRow_J64 at stK
        rw [if_neg (by omega), w32_id (x := 20 + V) (by omega) (by omega), if_pos cV, y19, want_K k2 z19, if_neg (by decide)] at stK
        by_cases gt : A 931 V 0 = 0
        · have zt : Z 2219 (20 + V) 0 = 0 := by omega
          rw [if_pos zt] at stK
          simp only [Option.bind_some] at stK
          (first | rw [if_pos trivial] at stK | rw [if_pos rfl] at stK)
          refine bad V stK ?_
          rcases hv with ⟨_, y, _, _, y2⟩ | ⟨y, _⟩
          · rw [y, b931] at y2
            exact absurd gt y2
          · exact y
        · have vV : v = V := by
            rcases hv with ⟨_, y, _⟩ | ⟨_, y | ⟨_, y⟩⟩
            · exact y
            · exact absurd g1 y
            · rw [b931] at y
              exact absurd y gt
          rw [if_neg (show ¬ Z 2219 (20 + V) 0 = 0 by omega)] at stK
          simp only [Option.bind_some] at stK
          rw [if_neg (by decide)] at stK
          unfold qbnd at stK
          rw [k2.2.1, w32_id (x := j + 1 + 1) (by omega) (by omega)] at stK
          have k3 := ksx_at (t := j + 1 + 1) k2 (by omega) (by omega)
          rw [vV, if_neg (by omega)] at stC
          obtain ⟨G, e3, f3, m3⟩ := mst_next hw m1 jl
          rw [e3] at stC
          simp only [Option.bind_some] at stC
          have fAG : FMX A G := fun b x y z => (f3 b x y z).trans (f1 b x y z)
          rcases skS_C hw m3 (Or.inl rfl) with ⟨s1, U, e5, f5, m5⟩ | ⟨s1, e5⟩
          · rcases takeS_K hw k3 (Or.inl rfl) with ⟨_, _, e6, k6⟩ | ⟨_, y, _⟩ | ⟨y, _⟩
            · obtain ⟨H, hH⟩ : ∃ H, qw (qw Y 2208 10 0 (j + 1 + 1)) 2208 10 0 (j + 1 + 1 + 1) = H := ⟨_, rfl⟩
              rw [hH] at e6 k6
              have fH : ∀ b x y, ¬ (b = 2208 ∧ (x = 10 ∨ x = 11)) → H b x y = Z b x y := fun b x y z => by
                rw [← hH, o10 b x y z, o10 b x y z]
                exact fY b x y z
              have fU : FMX A U := fun b x y z => (f5 b x y z).trans (fAG b x y z)
              obtain ⟨ρ, hρ⟩ : ∃ ρ, A 908 12 0 = ρ := ⟨_, rfl⟩
              rw [hρ] at hr t7 t8 t9 t10
              have u12 : U 908 12 0 = ρ := (fU _ _ _ (by omega)).trans hρ
              have h22 : H 2208 22 0 = ρ := (fH _ _ _ (by omega)).trans t7
              rw [e5] at stC
              simp only [Option.bind_some] at stC
              rw [if_neg (by decide), u12, if_pos (show 0 ≤ ρ ∧ ρ < 50 from ⟨t8, hr⟩), w32_id (x := ρ + 1) (by omega) (by omega)] at stC
              obtain ⟨E, hE⟩ : ∃ E, qw (qw (qw (qw U 952 ρ 0 i1) 952 ρ 1 i2) 952 ρ 2 V) 908 12 0 (ρ + 1) = E := ⟨_, rfl⟩
              rw [hE] at stC
              have fE : ∀ b x y, ¬ (b = 908 ∧ ((4 ≤ x ∧ x ≤ 8) ∨ x = 12)) → ¬ (b = 952 ∧ x = ρ ∧ 0 ≤ y ∧ y ≤ 2) → E b x y = A b x y := fun b x y z1 z2 => by
                rw [← hE, qw_ap, if_neg (by omega), qw_ap, if_neg (by omega), qw_ap, if_neg (by omega), qw_ap, if_neg (by omega)]
                exact fU b x y (by omega)
              have E12 : E 908 12 0 = ρ + 1 := by rw [← hE]; exact qw_s
              have E0 : E 952 ρ 0 = i1 := by rw [← hE, qw_a (by decide), qw_j (by decide), qw_j (by decide)]; exact qw_s
              have E1 : E 952 ρ 1 = i2 := by rw [← hE, qw_a (by decide), qw_j (by decide)]; exact qw_s
              have E2 : E 952 ρ 2 = V := by rw [← hE, qw_a (by decide)]; exact qw_s
              obtain ⟨Q, hQ⟩ : ∃ Q, qw (qw (qw (qw H 2224 (50 + ρ) 0 i1) 2225 (50 + ρ) 0 i2) 2226 (50 + ρ) 0 V) 2208 22 0 (ρ + 1) = Q := ⟨_, rfl⟩
              have fQ : ∀ b x y, ¬ (b = 2208 ∧ (x = 10 ∨ x = 11 ∨ x = 22)) → ¬ (2224 ≤ b ∧ b ≤ 2226 ∧ x = 50 + ρ) → Q b x y = Z b x y := fun b x y z1 z2 => by
                rw [← hQ, qw_ap, if_neg (by omega), qw_ap, if_neg (by omega), qw_ap, if_neg (by omega), qw_ap, if_neg (by omega)]
                exact fH b x y (by omega)
              have Q22 : Q 2208 22 0 = ρ + 1 := by rw [← hQ]; exact qw_s
              have Q0 : Q 2224 (50 + ρ) 0 = i1 := by rw [← hQ, qw_a (by decide), qw_a (by decide), qw_a (by decide)]; exact qw_s
              have Q1 : Q 2225 (50 + ρ) 0 = i2 := by rw [← hQ, qw_a (by decide), qw_a (by decide)]; exact qw_s
              have Q2 : Q 2226 (50 + ρ) 0 = V := by rw [← hQ, qw_a (by decide)]; exact qw_s
              have cr : 0 ≤ 50 + ρ ∧ 50 + ρ < 100 := by omega
              have stK2 : qf_X14_readRow_J40 20000 i1 i2 Z = some ((), Q) := by
                rw [stK]
                unfold qf_X14_readRow_J98 qbnd
                (try dsimp only)
                rw [e6]
                simp only [Option.bind_some]
                rw [if_neg (show ¬ 0 ≤ H 2208 11 0 by rw [k6.2.2.1]; decide), h22, w32_id (x := 50 + ρ) (by omega) (by omega), if_pos cr]
                rw [show qw H 2224 (50 + ρ) 0 i1 2208 22 0 = ρ from (qw_a (by decide)).trans h22, w32_id (x := 50 + ρ) (by omega) (by omega), if_pos cr]
                rw [show qw (qw H 2224 (50 + ρ) 0 i1) 2225 (50 + ρ) 0 i2 2208 22 0 = ρ from (qw_a (by decide)).trans ((qw_a (by decide)).trans h22), w32_id (x := 50 + ρ) (by omega) (by omega), if_pos cr]
                rw [show qw (qw (qw H 2224 (50 + ρ) 0 i1) 2225 (50 + ρ) 0 i2) 2226 (50 + ρ) 0 V 2208 22 0 = ρ from (qw_a (by decide)).trans ((qw_a (by decide)).trans ((qw_a (by decide)).trans h22)), w32_id (x := ρ + 1) (by omega) (by omega), hQ]
              refine ⟨1, E, Q, stC, stK2, fun b x y z1 z2 z3 z4 => fE b x y (by omega) (by omega), fun b x y z1 z2 z3 z4 => fQ b x y (by omega) (by omega), Or.inl ⟨rfl, j + 1 + 1 + 1, by omega, mst_o m5 (fun b x y z => by rw [← hE, qw_ap, if_neg (by omega), qw_ap, if_neg (by omega), qw_ap, if_neg (by omega), qw_ap, if_neg (by omega)]), ksx_o k6 (fun b x y z => by rw [← hQ, qw_ap, if_neg (by omega), qw_ap, if_neg (by omega), qw_ap, if_neg (by omega), qw_ap, if_neg (by omega)]), ?_⟩⟩
              refine ⟨(fE _ _ _ (by omega) (by omega)).trans t1, (fQ _ _ _ (by omega) (by omega)).trans t2, t3, t4, fun z z0 z1 => ?_, fun a a0 a1 => ?_, by rw [E12, Q22], by omega, by omega, fun r r0 r1 => ?_⟩
              · have q := t5 z z0 z1
                unfold ZNE at q ⊢
                rw [fE 910 z 0 (by omega) (by omega), fE 910 z 1 (by omega) (by omega), fQ 2215 _ _ (by omega) (by omega), fQ 2216 _ _ (by omega) (by omega), fQ 2217 _ _ (by omega) (by omega)]
                rcases q with q | ⟨q1, q2, q3, q4, q5, q6, q7⟩
                · exact Or.inl q
                · exact Or.inr ⟨q1, q2, q3, q4, q5, q6, fun k k0 k1 => by rw [fQ 2218 _ _ (by omega) (by omega), fE 910 _ _ (by omega) (by omega)]; exact q7 k k0 k1⟩
              · have q := t6 a a0 a1
                unfold ACE at q ⊢
                rw [fE 931 a 0 (by omega) (by omega), fE 931 a 1 (by omega) (by omega), fE 931 a 2 (by omega) (by omega), fE 931 a 3 (by omega) (by omega), fE 931 a 4 (by omega) (by omega), fQ 2219 _ _ (by omega) (by omega), fQ 2220 _ _ (by omega) (by omega), fQ 2221 _ _ (by omega) (by omega), fQ 2222 _ _ (by omega) (by omega), fQ 2223 _ _ (by omega) (by omega)]
                exact q
              · rw [E12] at r1
                unfold RWE
                by_cases er : r = ρ
                · rw [er, E0, E1, E2, Q0, Q1, Q2, fQ 2215 _ _ (by omega) (by omega), fQ 2215 _ _ (by omega) (by omega), fQ 2219 _ _ (by omega) (by omega)]
                  exact ⟨rfl, rfl, rfl, a0, a1, a2, b0, b1, b2, c0, by omega, by omega⟩
                · have q := t10 r r0 (by omega)
                  unfold RWE at q
                  rw [fE 952 r 0 (by omega) (by omega), fE 952 r 1 (by omega) (by omega), fE 952 r 2 (by omega) (by omega), fQ 2224 _ _ (by omega) (by omega), fQ 2225 _ _ (by omega) (by omega), fQ 2226 _ _ (by omega) (by omega), fQ 2215 _ _ (by omega) (by omega), fQ 2215 _ _ (by omega) (by omega), fQ 2219 _ _ (by omega) (by omega)]
                  exact q
            · exact absurd s1 y
            · omega
          · rcases takeS_K hw k3 (Or.inl rfl) with ⟨_, y, _⟩ | ⟨_, _, e6, k6⟩ | ⟨y, _⟩
            · exact absurd y s1
            · rw [e5] at stC
              simp only [Option.bind_some] at stC
              (first | rw [if_pos trivial] at stC | rw [if_pos rfl] at stC)
              refine ⟨0, G, _, stC, ?_, mfc_x fAG, mfk_t (fr10 fY) (mfk_t (fr10 o10) (fr10 o11)), Or.inr ⟨rfl, j + 1 + 1, by omega, m3.2.2.2.2.1, k6.2.2.1⟩⟩
              rw [stK]
              unfold qf_X14_readRow_J98
              (try dsimp only)
              rw [e6]
              simp only [Option.bind_some]
              rw [if_pos (by rw [k6.2.2.1]; omega)]
            · omega
      · rw [g2] at stK
        simp only [Option.bind_some] at stK
        unfold qf_X14_readRow_J64 at stK
        rw [if_pos (show 0 ≤ qw Y 2208 11 0 (j + 1) 2208 11 0 by rw [qw_s]; omega)] at stK
        refine bad (-1) stK ?_
        rcases hv with ⟨y, _⟩ | ⟨y, _⟩
        · exact absurd y g1
        · exact y
      · omega
    · exact absurd g y
    · omega
  · rcases takeW_K (C := 1685022067) (D := 628196) hw hK (by unfold KNW; omega) (Or.inl rfl) with ⟨_, y, _⟩ | ⟨_, _, e2, k2⟩ | ⟨y, _⟩
    · exact absurd y g
    · refine ⟨0, A, _, ?_, ?_, fun _ _ _ _ _ _ _ => rfl, fr10 o11, Or.inr ⟨rfl, j, j0, hA.2.2.2.2.1, k2.2.2.1⟩⟩
      · unfold qf_X5_readRow_J52
        rw [e1]
        simp only [Option.bind_some]
        (first | rw [if_pos trivial] | rw [if_pos rfl])
      · unfold qf_X14_readRow_J40
        rw [e2]
        simp only [Option.bind_some]
        have w3 : 0 ≤ qw Z 2208 11 0 j 2208 11 0 := by rw [k2.2.2.1]; exact j0
        rw [if_pos w3]
        unfold qf_X14_readRow_J64
        rw [if_pos w3]
        exact row98_bad hw k2 j0
    · omega
/-- the class is at 'when', the reference behind it -/
theorem row_both (hw : WRD T L n bg en) (hA : MST T L n bg en j A) (jn : j < n) (hK : KSX T L n bg en (j + 1) (-1) Z) (hT : TBL P A Z) (hr : A 908 12 0 < 50) : OUTM T L n bg en P (j + 1) A Z (qf_X5_readRow 20000 A) (qf_X14_readRow 20000 Z) := by
  have nL := hw.2.2.2.1
  have L1 := hw.2.1
  have j0 := hA.2.2.1
  obtain ⟨B, e1, f1, m1⟩ := mst_next hw hA jn
  have tB : TBL P B Z := tbl_o hT (fun b x y z => f1 b x y (by omega)) (fun _ _ _ _ => rfl)
  rcases takeZ_both (oth := -1) hw m1 hK tB with ⟨V, z1, z2, z3, z4, z5, z6, z7, z8⟩ | ⟨v, v', z1, z2, z3, z4⟩
  · obtain ⟨G, e2, f2, m2⟩ := mst_next hw m1 z6
    have fAG : FMX A G := fun b x y z => (f2 b x y z).trans (f1 b x y z)
    obtain ⟨Y, hY⟩ : ∃ Y, qw Z 2208 10 0 (j + 1 + 1) = Y := ⟨_, rfl⟩
    rw [hY] at z7 z8
    have fY : ∀ b x y, ¬ (b = 2208 ∧ (x = 10 ∨ x = 11)) → Y b x y = Z b x y := fun b x y z => by rw [← hY]; exact o10 b x y z
    have tG : TBL P G Y := tbl_o hT (fun b x y z => fAG b x y (by omega)) (fun b x y z => fY b x y (by omega))
    have gr : G 908 12 0 < 50 := by rw [fAG _ _ _ (by omega)]; exact hr
    have stC : qf_X5_readRow 20000 A = (qf_X5_skipSign 20000 38 G).bind (fun r8 => if r8.1 = 0 then qf_X5_readRow_J52 20000 V (-1) r8.2 else (qf_X5_toldZoneHere 20000 r8.2).bind (fun r26 => if r26 = (-1) then some (0, r8.2) else if r26 = V then some (0, r8.2) else (qf_X5_nextWord 20000 r8.2).bind (fun r28 => qf_X5_readRow_J52 20000 V r26 r28.2))) := by
      unfold qf_X5_readRow
      rw [e1]
      simp only [Option.bind_some]
      rw [z1]
      simp only [Option.bind_some]
      rw [if_neg (by omega), e2]
      rfl
    have stK : qf_X14_readRow 20000 Z = (qf_X14_isSign 20000 38 Y).bind (fun r31 => if r31 = 0 then qf_X14_readRow_J40 20000 V (-1) Y else (qf_X14_takeZone 20000 V (qw Y 2208 10 0 (j + 1 + 1 + 1))).bind (fun r35 => qf_X14_readRow_J40 20000 V r35.1 r35.2)) := by
      unfold qf_X14_readRow qbnd
      rw [z7]
      simp only [Option.bind_some]
      rw [if_neg (by rw [z8.2.2.1]; decide), z8.2.1, w32_id (x := j + 1 + 1 + 1) (by omega) (by omega)]
    rw [issg_K hw z8 (Or.inr rfl)] at stK
    simp only [Option.bind_some] at stK
    have y15 : Y 2215 (20 + V) 0 = 1 := (fY _ _ _ (by omega)).trans z5
    rcases skS_C hw m2 (Or.inr rfl) with ⟨s1, U, e5, f5, m5⟩ | ⟨s1, e5⟩
    · rw [e5] at stC
      simp only [Option.bind_some] at stC
      rw [if_neg (by decide)] at stC
      rw [b01_t s1, if_neg (by decide)] at stK
      have s2 := s1.1
      have k3 := ksx_at (t := j + 1 + 1 + 1) z8 (by omega) (by omega)
      have fAU : FMX A U := fun b x y z => (f5 b x y z).trans (fAG b x y z)
      have tU : TBL P U (qw Y 2208 10 0 (j + 1 + 1 + 1)) := tbl_o hT (fun b x y z => fAU b x y (by omega)) (fun b x y z => by rw [o10 b x y (by omega)]; exact fY b x y (by omega))
      rcases takeZ_both (oth := V) hw m5 k3 tU with ⟨V2, y1, y2, y3, y4, y5, y6, y7, y8⟩ | ⟨v, v', y1, y2, y3, y4⟩
      · obtain ⟨H, e7, f7, m7⟩ := mst_next hw m5 y6
        rw [y1] at stC
        simp only [Option.bind_some] at stC
        rw [if_neg (by omega), if_neg y2, e7] at stC
        simp only [Option.bind_some] at stC
        rw [y7] at stK
        simp only [Option.bind_some] at stK
        have fAH : FMX A H := fun b x y z => (f7 b x y z).trans (fAU b x y z)
        have fY2 : ∀ b x y, ¬ (b = 2208 ∧ (x = 10 ∨ x = 11)) → qw (qw Y 2208 10 0 (j + 1 + 1 + 1)) 2208 10 0 (j + 1 + 1 + 1 + 1) b x y = Z b x y := fun b x y z => by
          rw [o10 b x y z, o10 b x y z]
          exact fY b x y z
        have tH : TBL P H (qw (qw Y 2208 10 0 (j + 1 + 1 + 1)) 2208 10 0 (j + 1 + 1 + 1 + 1)) := tbl_o hT (fun b x y z => fAH b x y (by omega)) (fun b x y z => fY2 b x y (by omega))
        rw [stC, stK]
        refine out_f (row52_both hw m7 y8 tH (by rw [fAH _ _ _ (by omega)]; exact hr) z3 z4 (by rw [fY2 _ _ _ (by omega)]; exact z5) (by omega) y4 (fun _ => ?_)) (mfc_x fAH) (fr10 fY2) (by omega)
        rw [o10 _ _ _ (by omega)]
        exact y5
      · rw [y1] at stC
        simp only [Option.bind_some] at stC
        have sc : qf_X5_readRow 20000 A = some (0, U) := by
          rw [stC]
          by_cases gv : v = -1
          · rw [if_pos gv]
          · rw [if_neg gv, if_pos (by omega)]
        rw [y3] at stK
        simp only [Option.bind_some] at stK
        rw [row40_bad hw y4 (by omega)] at stK
        exact ⟨0, U, _, sc, stK, mfc_x fAU, mfk_t (fr10 fY) (mfk_t (fr10 o10) (fr10 o11)), Or.inr ⟨rfl, j + 1 + 1 + 1, by omega, m5.2.2.2.2.1, y4.2.2.1⟩⟩
    · rw [e5] at stC
      simp only [Option.bind_some] at stC
      (first | rw [if_pos trivial] at stC | rw [if_pos rfl] at stC)
      rw [b01_f s1, if_pos rfl] at stK
      rw [stC, stK]
      exact out_f (row52_both hw m2 z8 tG gr z3 z4 y15 (by decide) (by decide) (fun z => by omega)) (mfc_x fAG) (fr10 fY) (by omega)
  · have sc : qf_X5_readRow 20000 A = some (0, B) := by
      unfold qf_X5_readRow
      rw [e1]
      simp only [Option.bind_some]
      rw [z1]
      simp only [Option.bind_some]
      rw [if_pos (by omega)]
    have sk : qf_X14_readRow 20000 Z = some ((), qw Z 2208 11 0 (j + 1)) := by
      unfold qf_X14_readRow
      rw [z3]
      simp only [Option.bind_some]
      rw [if_pos (by rw [z4.2.2.1]; omega)]
      exact row40_bad hw z4 (by omega)
    exact ⟨0, B, _, sc, sk, mfc_x f1, fr10 o11, Or.inr ⟨rfl, j + 1, by omega, m1.2.2.2.2.1, z4.2.2.1⟩⟩
end MTh
