/-! ===== the matrix text: a zone is told ===== -/
section MTj
variable {M K A W Z A' Z' X Y B : qm} {T bg en : Int → Int} {L p q e k i j x y z c n w s v C D r lo hi t P a J V i1 i2 i3 i4 : Int} {m N : Nat}
def zonK (i1 i2 i3 : Int) (X : qm) : Option (Unit × qm) := if 0 ≤ i1 ∧ i1 < 40 then qbnd (qw X 2217 i1 0 0) (fun M18 => (qf_X14_readZone_L86 20000 20000 i1 i2 i3 1 M18).bind (fun r => (match r with | .inl o => some o | .inr (_, M41) => qf_X14_readZone_J208 20000 i1 i2 i3 M41))) else none
theorem zonK_bad (a0 : 0 ≤ i1) (a1 : i1 < 40) (w0 : 0 ≤ X 2208 11 0) : zonK i1 i2 i3 X = some ((), qw X 2217 i1 0 0) := by
  have w1 : 0 ≤ qw X 2217 i1 0 0 2208 11 0 := by rw [qw_a (by decide)]; exact w0
  unfold zonK qbnd
  rw [if_pos ⟨a0, a1⟩]
  (try dsimp only)
  rw [l86_end (m := 19999) (Or.inr w1)]
  simp only [Option.bind_some]
  unfold qf_X14_readZone_J208
  rw [if_pos w1]
theorem zonK_t2 (hw : WRD T L n bg en) (k : KSX T L n bg en j w X) (w0 : 0 ≤ w) (a0 : 0 ≤ i1) (a1 : i1 < 40) : (qf_X14_take 20000 207 X).bind (fun r16 => zonK i1 i2 i3 r16.2) = some ((), qw X 2217 i1 0 0) := by
  rcases takeW_K (C := 28518) (D := 207) hw k (by unfold KNW; omega) (Or.inr w0) with ⟨z, _⟩ | ⟨z, _⟩ | ⟨_, z⟩
  · omega
  · omega
  · rw [z]
    simp only [Option.bind_some]
    exact zonK_bad a0 a1 (by rw [k.2.2.1]; exact w0)
theorem zonK_t1 (hw : WRD T L n bg en) (k : KSX T L n bg en j w X) (w0 : 0 ≤ w) (a0 : 0 ≤ i1) (a1 : i1 < 40) : (qf_X14_takeNumber 20000 1 12 X).bind (fun r14 => (qf_X14_take 20000 207 r14.2).bind (fun r16 => zonK i1 i2 r14.1 r16.2)) = some ((), qw X 2217 i1 0 0) := by
  rcases takeN_K (lo := 1) (hi := 12) hw k (Or.inr w0) with ⟨z, _⟩ | ⟨z, _⟩ | ⟨_, z⟩
  · omega
  · omega
  · rw [z]
    simp only [Option.bind_some]
    exact zonK_t2 hw k w0 a0 a1
theorem o17 {u i : Int} (h : 20 ≤ i) : MFK K (qw K 2217 i 0 u) := fun b x y z1 z2 z3 z4 => by rw [qw_ap, if_neg (by omega)]
theorem zone_both (hw : WRD T L n bg en) (hA : MST T L n bg en j A) (hK : KSX T L n bg en j (-1) Z) (hT : TBL P A Z) : OUTM T L n bg en P j A Z (qf_X5_readZone 20000 A) (qf_X14_readZone 20000 Z) := by
  have nL := hw.2.2.2.1
  have L1 := hw.2.1
  have j0 := hA.2.2.1
  have jn := hA.2.2.2.1
  have w4 := hA.2.2.2.2.1
  have hT' := hT
  obtain ⟨t1, t2, t3, t4, t5, t6, t7, t8, t9, t10⟩ := hT
  -- wrong at word j
  have bad : qf_X14_readZone 20000 Z = some ((), qw Z 2208 11 0 j) → qf_X5_readZone 20000 A = some (0, A) → OUTM T L n bg en P j A Z (qf_X5_readZone 20000 A) (qf_X14_readZone 20000 Z) := fun e1 e2 =>
    ⟨0, A, qw Z 2208 11 0 j, e2, e1, fun _ _ _ _ _ _ _ => rfl, fr10 o11, Or.inr ⟨rfl, j, j0, w4, qw_s⟩⟩
  rcases look_K (lo := 0) (hi := 19) hw hK with ⟨_, g1, g2⟩ | ⟨_, g1, g2⟩ | ⟨g0, _⟩
  · have b0 := g1.2.2.2.1
    have b1 := g1.2.2.2.2
    have jl := g1.1
    rcases num_C (lo := 0) (hi := 19) hw hA with ⟨_, g3⟩ | ⟨g3, _⟩
    · obtain ⟨V, hV⟩ : ∃ V, dgv T (bg j) (en j - bg j).toNat = V := ⟨_, rfl⟩
      rw [hV] at b0 b1 g2 g3
      have V1 : V < 20 := by omega
      have a0 : 0 ≤ 20 + V := by omega
      have a1 : 20 + V < 40 := by omega
      have zn := t5 V b0 V1
      unfold ZNE at zn
      have stK : qf_X14_readZone 20000 Z = (if Z 2215 (20 + V) 0 = 0 then qf_X14_readZone_J33 20000 (20 + V) 1 Z else qf_X14_readZone_J33 20000 (20 + V) 0 Z) := by
        unfold qf_X14_readZone
        rw [g2]
        simp only [Option.bind_some]
        rw [if_neg (show ¬ 0 ≤ Z 2208 11 0 by rw [hK.2.2.1]; decide), w32_id (x := V + 20) (by omega) (by omega), show V + 20 = 20 + V by omega, if_pos ⟨a0, a1⟩]
      have stC : qf_X5_readZone 20000 A = (if A 910 V 0 = 0 then (qf_X5_nextWord 20000 A).bind (fun r7 => (qf_X5_skipWord 20000 474147546227 r7.2).bind (fun r9 => if r9.1 = 0 then some (0, r9.2) else (qf_X5_numberHere 20000 1 12 r9.2).bind (fun r11 => if r11 = (-1) then some (0, r9.2) else (qf_X5_nextWord 20000 r9.2).bind (fun r14 => (qf_X5_skipWord 20000 28518 r14.2).bind (fun r16 => if r16.1 = 0 then some (0, r16.2) else (qf_X5_readPoints 20000 V r16.2).bind (fun r20 => if r20.1 = 0 then some (0, r20.2) else (qf_X5_skipSign 20000 59 r20.2).bind (fun r22 => if r22.1 = 0 then some (0, r22.2) else if r11 ≤ r20.1 then some (1, qw (qw r22.2 910 V 0 r11) 910 V 1 r20.1) else some (0, qw r22.2 908 4 0 (r9.2 908 4 0))))))))) else some (0, A)) := by
        unfold qf_X5_readZone qbnd
        rw [g3]
        simp only [Option.bind_some]
        rw [if_neg (by omega)]
        simp only [if_pos (show 0 ≤ V ∧ V < 20 from ⟨b0, V1⟩)]
      by_cases gt : A 910 V 0 = 0
      · have zt : Z 2215 (20 + V) 0 = 0 := by omega
        rw [if_pos gt] at stC
        rw [if_pos zt] at stK
        obtain ⟨B, e1, f1, m1⟩ := mst_next hw hA jl
        rw [e1] at stC
        simp only [Option.bind_some] at stC
        have k1 := ksx_at (t := j + 1) hK (by omega) (by omega)
        obtain ⟨Z1, hZ1⟩ : ∃ Z1, qw Z 2208 10 0 (j + 1) = Z1 := ⟨_, rfl⟩
        have stK2 : qf_X14_readZone 20000 Z = (qf_X14_take 20000 20059310 Z1).bind (fun r11 => (qf_X14_takeNumber 20000 1 12 r11.2).bind (fun r14 => (qf_X14_take 20000 207 r14.2).bind (fun r16 => zonK (20 + V) (r11.2 2208 10 0) r14.1 r16.2))) := by
          rw [stK]
          unfold qf_X14_readZone_J33
          rw [want_K hK (Or.inr rfl), if_neg (by decide), if_neg (by decide)]
          simp only [Option.bind_some]
          rw [if_neg (by decide), hK.2.1, w32_id (x := j + 1) (by omega) (by omega), hZ1]
          rfl
        have fZ1 : ∀ b x y, ¬ (b = 2208 ∧ (x = 10 ∨ x = 11)) → Z1 b x y = Z b x y := fun b x y z => by rw [← hZ1]; exact o10 b x y z
        rw [hZ1] at k1
        rcases skW_C (C := 474147546227) hw m1 (by decide) with ⟨s1, U, e3, f3, m3⟩ | ⟨s1, e3⟩
        · rcases takeW_K (C := 474147546227) (D := 20059310) hw k1 (by unfold KNW; omega) (Or.inl rfl) with ⟨_, _, e4, k4⟩ | ⟨_, y, _⟩ | ⟨y, _⟩
          · rw [e3] at stC
            rw [e4] at stK2
            simp only [Option.bind_some] at stC stK2
            rw [if_neg (by decide)] at stC
            obtain ⟨Z2, hZ2⟩ : ∃ Z2, qw Z1 2208 10 0 (j + 1 + 1) = Z2 := ⟨_, rfl⟩
            have fZ2 : ∀ b x y, ¬ (b = 2208 ∧ (x = 10 ∨ x = 11)) → Z2 b x y = Z b x y := fun b x y z => by rw [← hZ2, o10 b x y z]; exact fZ1 b x y z
            rw [hZ2] at k4 stK2
            rw [k4.2.1] at stK2
            have fU : FMX A U := fun b x y z => (f3 b x y z).trans (f1 b x y z)
            have u4 : U 908 4 0 = j + 1 + 1 := m3.2.2.2.2.1
            rcases num_C (lo := 1) (hi := 12) hw m3 with ⟨n1, n2⟩ | ⟨n1, n2⟩
            · rcases takeN_K (lo := 1) (hi := 12) hw k4 (Or.inl rfl) with ⟨_, _, e5, k5⟩ | ⟨_, y, _⟩ | ⟨y, _⟩
              · have h0 := n1.2.2.2.1
                have h1 := n1.2.2.2.2
                have jl2 := n1.1
                obtain ⟨H, hH⟩ : ∃ H, dgv T (bg (j + 1 + 1)) (en (j + 1 + 1) - bg (j + 1 + 1)).toNat = H := ⟨_, rfl⟩
                rw [hH] at h0 h1 n2 e5
                rw [n2] at stC
                rw [e5] at stK2
                simp only [Option.bind_some] at stC stK2
                obtain ⟨G, e6, f6, m6⟩ := mst_next hw m3 jl2
                rw [if_neg (by omega), e6] at stC
                simp only [Option.bind_some] at stC
                obtain ⟨Z3, hZ3⟩ : ∃ Z3, qw Z2 2208 10 0 (j + 1 + 1 + 1) = Z3 := ⟨_, rfl⟩
                have fZ3 : ∀ b x y, ¬ (b = 2208 ∧ (x = 10 ∨ x = 11)) → Z3 b x y = Z b x y := fun b x y z => by rw [← hZ3, o10 b x y z]; exact fZ2 b x y z
                rw [hZ3] at k5 stK2
                have fG : FMX A G := fun b x y z => (f6 b x y z).trans (fU b x y z)
                rcases skW_C (C := 28518) hw m6 (by decide) with ⟨s7, Q, e7, f7, m7⟩ | ⟨s7, e7⟩
                · rcases takeW_K (C := 28518) (D := 207) hw k5 (by unfold KNW; omega) (Or.inl rfl) with ⟨_, _, e8, k8⟩ | ⟨_, y, _⟩ | ⟨y, _⟩
                  · rw [e7] at stC
                    rw [e8] at stK2
                    simp only [Option.bind_some] at stC stK2
                    rw [if_neg (by decide)] at stC
                    obtain ⟨Z4, hZ4⟩ : ∃ Z4, qw Z3 2208 10 0 (j + 1 + 1 + 1 + 1) = Z4 := ⟨_, rfl⟩
                    have fZ4 : ∀ b x y, ¬ (b = 2208 ∧ (x = 10 ∨ x = 11)) → Z4 b x y = Z b x y := fun b x y z => by rw [← hZ4, o10 b x y z]; exact fZ3 b x y z
                    rw [hZ4] at k8 stK2
                    have fQ : FMX A Q := fun b x y z => (f7 b x y z).trans (fG b x y z)
                    obtain ⟨J, hJ⟩ : ∃ J, j + 1 + 1 + 1 + 1 = J := ⟨_, rfl⟩
                    rw [hJ] at m7 k8
                    obtain ⟨Z5, hZ5⟩ : ∃ Z5, qw Z4 2217 (20 + V) 0 0 = Z5 := ⟨_, rfl⟩
                    have k9 : KSX T L n bg en J (-1) Z5 := ksx_o k8 (fun b x y z => by rw [← hZ5, qw_ap, if_neg (by omega)])
                    have fZ5 : ∀ b x y, ¬ (b = 2208 ∧ (x = 10 ∨ x = 11)) → ¬ (b = 2217 ∧ x = 20 + V) → Z5 b x y = Z b x y := fun b x y z1 z2 => by
                      rw [← hZ5, qw_ap, if_neg (by omega)]
                      exact fZ4 b x y z1
                    have j00 : J + 0 = J := by omega
                    have m70 := m7
                    have k90 := k9
                    rw [← j00] at m70 k90
                    obtain ⟨c', R, Y, q1, q2, q3, q4, q5, q6, q7, q8⟩ := pts_both (J := J) (i2 := j + 1 + 1) (i3 := H) hw b0 V1 t3 t4 (by omega) 12 0 Q Z5 20000 20000 (by omega) (by omega) (by omega) (by omega) (by omega) m70 k90 ((fQ _ _ _ (by omega)).trans t1) ((fZ5 _ _ _ (by omega) (by omega)).trans t2) ⟨by rw [← hZ5]; exact qw_s, fun k k0 k1 => by omega⟩ (fun z => by omega)
                    have eP : qf_X5_readPoints 20000 V Q = some (c', R) := by
                      unfold qf_X5_readPoints
                      rcases q1 with q1 | q1
                      · rw [q1]
                        rfl
                      · rw [q1]
                        rfl
                    rw [eP] at stC
                    simp only [Option.bind_some] at stC
                    have eZ : zonK (20 + V) (j + 1 + 1) H Z4 = qf_X14_readZone_J208 20000 (20 + V) (j + 1 + 1) H Y := by
                      unfold zonK qbnd
                      rw [if_pos ⟨a0, a1⟩, hZ5]
                      (try dsimp only)
                      rw [q2]
                      rfl
                    rw [eZ] at stK2
                    have fR : ∀ b x y, ¬ (b = 908 ∧ 4 ≤ x ∧ x ≤ 8) → ¬ (b = 910 ∧ x = V ∧ 2 ≤ y) → R b x y = A b x y := fun b x y z1 z2 => (q3 b x y z1 z2).trans (fQ b x y z1)
                    have fY : ∀ b x y, ¬ (b = 2208 ∧ (x = 10 ∨ x = 11)) → ¬ (b = 2217 ∧ x = 20 + V) → ¬ (b = 2218 ∧ 12 * (20 + V) ≤ x ∧ x < 12 * (20 + V) + 12) → Y b x y = Z b x y := fun b x y z1 z2 z3 => (q4 b x y z1 z2 z3).trans (fZ5 b x y z1 z2)
                    have gR : MFC A R := fun b x y z1 z2 z3 z4 => fR b x y (by omega) (by omega)
                    have gY : MFK Z Y := fun b x y z1 z2 z3 z4 => fY b x y (by omega) (by omega) (by omega)
                    have r4 : R 908 4 0 = J + c' := q5.2.2.2.2.1
                    unfold qf_X14_readZone_J208 at stK2
                    rcases q8 with ⟨c1, sg, kY, pd⟩ | ⟨ns, kY⟩
                    · obtain ⟨_, X1, e9, f9, m9⟩ : isSg T n bg (J + c') 59 ∧ ∃ W, qf_X5_skipSign 20000 59 R = some (1, W) ∧ FMX R W ∧ MST T L n bg en (J + c' + 1) W := by
                        rcases skS_C hw q5 (Or.inl rfl) with y | ⟨y, _⟩
                        · exact y
                        · exact absurd sg y
                      have jl3 := sg.1
                      rw [if_neg (by omega), e9] at stC
                      simp only [Option.bind_some] at stC
                      rw [if_neg (by decide), u4] at stC
                      have k10 := ksx_at (t := J + c' + 1) kY (by omega) (by omega)
                      obtain ⟨Y1, hY1⟩ : ∃ Y1, qw Y 2208 10 0 (J + c' + 1) = Y1 := ⟨_, rfl⟩
                      rw [hY1] at k10
                      have fY1 : ∀ b x y, ¬ (b = 2208 ∧ (x = 10 ∨ x = 11)) → Y1 b x y = Y b x y := fun b x y z => by rw [← hY1]; exact o10 b x y z
                      have y17 : Y1 2217 (20 + V) 0 = c' := (fY1 _ _ _ (by omega)).trans pd.1
                      unfold qbnd at stK2
                      (try dsimp only at stK2)
                      rw [if_neg (show ¬ 0 ≤ Y 2208 11 0 by rw [kY.2.2.1]; decide), kY.2.1, w32_id (x := J + c' + 1) (by omega) (by omega), hY1, if_pos ⟨a0, a1⟩, y17] at stK2
                      have j241 : ∀ u, qf_X14_readZone_J241 20000 (20 + V) H u Y1 = some ((), qw (qw (qw Y1 2208 11 0 u) 2216 (20 + V) 0 H) 2215 (20 + V) 0 1) := fun u => by
                        unfold qf_X14_readZone_J241 qbnd
                        simp only [if_pos (show 0 ≤ 20 + V ∧ 20 + V < 40 from ⟨a0, a1⟩)]
                      rw [j241, j241] at stK2
                      have fX1 : ∀ b x y, ¬ (b = 908 ∧ 4 ≤ x ∧ x ≤ 8) → ¬ (b = 910 ∧ x = V ∧ 2 ≤ y) → X1 b x y = A b x y := fun b x y z1 z2 => (f9 b x y z1).trans (fR b x y z1 z2)
                      by_cases hc : H ≤ c'
                      · rw [if_pos hc] at stC stK2
                        obtain ⟨E, hE⟩ : ∃ E, qw (qw X1 910 V 0 H) 910 V 1 c' = E := ⟨_, rfl⟩
                        obtain ⟨F, hF⟩ : ∃ F, qw (qw (qw Y1 2208 11 0 (-1)) 2216 (20 + V) 0 H) 2215 (20 + V) 0 1 = F := ⟨_, rfl⟩
                        rw [hE] at stC
                        rw [hF] at stK2
                        have gE : ∀ b x y, ¬ (b = 910 ∧ x = V ∧ 0 ≤ y ∧ y ≤ 1) → E b x y = X1 b x y := fun b x y z => by rw [← hE, qw_ap, if_neg (by omega), qw_ap, if_neg (by omega)]
                        have fE : ∀ b x y, ¬ (b = 908 ∧ 4 ≤ x ∧ x ≤ 8) → ¬ (b = 910 ∧ x = V ∧ 0 ≤ y) → E b x y = A b x y := fun b x y z1 z2 => by
                          rw [gE b x y (by omega)]
                          exact fX1 b x y z1 (by omega)
                        have gF : ∀ b x y, ¬ (b = 2208 ∧ x = 11) → ¬ ((b = 2216 ∨ b = 2215) ∧ x = 20 + V) → F b x y = Y1 b x y := fun b x y z1 z2 => by rw [← hF, qw_ap, if_neg (by omega), qw_ap, if_neg (by omega), qw_ap, if_neg (by omega)]
                        have fF : ∀ b x y, ¬ (b = 2208 ∧ (x = 10 ∨ x = 11)) → ¬ ((b = 2216 ∨ b = 2215 ∨ b = 2217) ∧ x = 20 + V) → ¬ (b = 2218 ∧ 12 * (20 + V) ≤ x ∧ x < 12 * (20 + V) + 12) → F b x y = Z b x y := fun b x y z1 z2 z3 => by
                          rw [gF b x y (by omega) (by omega), fY1 b x y z1]
                          exact fY b x y z1 (by omega) z3
                        have E0 : E 910 V 0 = H := by rw [← hE, qw_j (by decide)]; exact qw_s
                        have E1 : E 910 V 1 = c' := by rw [← hE]; exact qw_s
                        have F15 : F 2215 (20 + V) 0 = 1 := by rw [← hF]; exact qw_s
                        have F16 : F 2216 (20 + V) 0 = H := by rw [← hF, qw_a (by decide)]; exact qw_s
                        have F17 : F 2217 (20 + V) 0 = c' := (gF _ _ _ (by omega) (by omega)).trans y17
                        have kF : KSX T L n bg en (J + c' + 1) (-1) F := by
                          have k11 := ksx_wr (t := -1) k10
                          rw [← hF]
                          exact ksx_o k11 (fun b x y z => by rw [qw_ap, if_neg (by omega), qw_ap, if_neg (by omega)])
                        have e12 : E 908 12 0 = A 908 12 0 := fE _ _ _ (by omega) (by omega)
                        refine ⟨1, E, F, stC, stK2, fun b x y z1 z2 z3 z4 => fE b x y (by omega) (by omega), fun b x y z1 z2 z3 z4 => fF b x y (by omega) (by omega) (by omega), Or.inl ⟨rfl, J + c' + 1, by omega, mst_o m9 (fun b x y z => gE b x y (by omega)), kF, ?_⟩⟩
                        have told : ∀ x, Z 2215 (20 + x) 0 = 1 → F 2215 (20 + x) 0 = 1 := fun x hx => by
                          by_cases ex : x = V
                          · rw [ex]
                            exact F15
                          · rw [fF _ _ _ (by omega) (by omega) (by omega)]
                            exact hx
                        refine ⟨(fE _ _ _ (by omega) (by omega)).trans t1, (fF _ _ _ (by omega) (by omega) (by omega)).trans t2, t3, t4, fun z z0 z1 => ?_, fun a a0 a1 => ?_, by rw [e12, fF 2208 22 0 (by omega) (by omega) (by omega)]; exact t7, by omega, by omega, fun r r0 r1 => ?_⟩
                        · by_cases ez : z = V
                          · unfold ZNE
                            rw [ez, E0, E1, F15, F16, F17]
                            refine Or.inr ⟨rfl, h0, rfl, c1, q7, rfl, fun k k0 k1 => ?_⟩
                            rw [gF 2218 _ _ (by omega) (by omega), fY1 2218 _ _ (by omega), gE 910 _ _ (by omega), f9 910 _ _ (by omega)]
                            exact pd.2 k k0 k1
                          · have q := t5 z z0 z1
                            unfold ZNE at q ⊢
                            rw [fE 910 z 0 (by omega) (by omega), fE 910 z 1 (by omega) (by omega), fF 2215 _ _ (by omega) (by omega) (by omega), fF 2216 _ _ (by omega) (by omega) (by omega), fF 2217 _ _ (by omega) (by omega) (by omega)]
                            rcases q with q | ⟨q1, q2, q3, q4, q5, q6, q7⟩
                            · exact Or.inl q
                            · refine Or.inr ⟨q1, q2, q3, q4, q5, q6, fun k k0 k1 => ?_⟩
                              rw [fF 2218 _ _ (by omega) (by omega) (by omega), fE 910 _ _ (by omega) (by omega)]
                              exact q7 k k0 k1
                        · have q := t6 a a0 a1
                          unfold ACE at q ⊢
                          rw [fE 931 a 0 (by omega) (by omega), fE 931 a 1 (by omega) (by omega), fE 931 a 2 (by omega) (by omega), fE 931 a 3 (by omega) (by omega), fE 931 a 4 (by omega) (by omega), fF 2219 _ _ (by omega) (by omega) (by omega), fF 2220 _ _ (by omega) (by omega) (by omega), fF 2221 _ _ (by omega) (by omega) (by omega), fF 2222 _ _ (by omega) (by omega) (by omega), fF 2223 _ _ (by omega) (by omega) (by omega)]
                          exact q
                        · rw [e12] at r1
                          have q := t10 r r0 r1
                          unfold RWE at q ⊢
                          rw [fE 952 r 0 (by omega) (by omega), fE 952 r 1 (by omega) (by omega), fE 952 r 2 (by omega) (by omega), fF 2224 _ _ (by omega) (by omega) (by omega), fF 2225 _ _ (by omega) (by omega) (by omega), fF 2226 _ _ (by omega) (by omega) (by omega), fF 2219 _ _ (by omega) (by omega) (by omega)]
                          obtain ⟨x1, x2, x3, x4, x5, x6, x7, x8, x9, x10⟩ := q
                          exact ⟨x1, x2, x3, x4, x5, told _ x6, x7, x8, fun z => told _ (x9 z), x10⟩
                      · rw [if_neg hc] at stC stK2
                        refine ⟨0, _, _, stC, stK2, fun b x y z1 z2 z3 z4 => ?_, fun b x y z1 z2 z3 z4 => ?_, Or.inr ⟨rfl, j + 1 + 1, by omega, qw_s, ?_⟩⟩
                        · rw [qw_ap, if_neg (by omega)]
                          exact fX1 b x y (by omega) (by omega)
                        · rw [qw_ap, if_neg (by omega), qw_ap, if_neg (by omega), qw_ap, if_neg (by omega), fY1 b x y (by omega)]
                          exact gY b x y z1 z2 z3 z4
                        · rw [qw_a (by decide), qw_a (by decide)]
                          exact qw_s
                    · rw [if_pos (show 0 ≤ Y 2208 11 0 by rw [kY.2.2.1]; omega)] at stK2
                      have sc : qf_X5_readZone 20000 A = some (0, R) := by
                        rw [stC]
                        by_cases z : c' = 0
                        · rw [if_pos z]
                        · rw [if_neg z]
                          rcases skS_C hw q5 (Or.inl rfl) with ⟨y, _⟩ | ⟨_, y⟩
                          · rcases ns with ns | ns
                            · exact absurd ns z
                            · exact absurd y ns
                          · rw [y]
                            simp only [Option.bind_some]
                            (first | rw [if_pos trivial] | rw [if_pos rfl])
                      exact ⟨0, R, Y, sc, stK2, gR, gY, Or.inr ⟨rfl, J + c', by omega, r4, kY.2.2.1⟩⟩
                  · exact absurd s7 y
                  · omega
                · rcases takeW_K (C := 28518) (D := 207) hw k5 (by unfold KNW; omega) (Or.inl rfl) with ⟨_, y, _⟩ | ⟨_, _, e8, k8⟩ | ⟨y, _⟩
                  · exact absurd y s7
                  · rw [e7] at stC
                    rw [e8] at stK2
                    simp only [Option.bind_some] at stC stK2
                    (first | rw [if_pos trivial] at stC | rw [if_pos rfl] at stC)
                    rw [zonK_bad a0 a1 (by rw [k8.2.2.1]; omega)] at stK2
                    exact ⟨0, G, _, stC, stK2, mfc_x fG, mfk_t (fr10 fZ3) (mfk_t (fr10 o11) (o17 (by omega))), Or.inr ⟨rfl, j + 1 + 1 + 1, by omega, m6.2.2.2.2.1, by rw [qw_a (by decide)]; exact k8.2.2.1⟩⟩
                  · omega
              · exact absurd n1 y
              · omega
            · rcases takeN_K (lo := 1) (hi := 12) hw k4 (Or.inl rfl) with ⟨_, y, _⟩ | ⟨_, _, X, e5, k5, f5⟩ | ⟨y, _⟩
              · exact absurd y n1
              · rw [n2] at stC
                rw [e5] at stK2
                simp only [Option.bind_some] at stC stK2
                (first | rw [if_pos trivial] at stC | rw [if_pos rfl] at stC)
                rw [zonK_t2 hw k5 (by omega) a0 a1] at stK2
                exact ⟨0, U, _, stC, stK2, mfc_x fU, mfk_t (fr10 fZ2) (mfk_t (fr10 f5) (o17 (by omega))), Or.inr ⟨rfl, j + 1 + 1, by omega, u4, by rw [qw_a (by decide)]; exact k5.2.2.1⟩⟩
              · omega
          · exact absurd s1 y
          · omega
        · rcases takeW_K (C := 474147546227) (D := 20059310) hw k1 (by unfold KNW; omega) (Or.inl rfl) with ⟨_, y, _⟩ | ⟨_, _, e4, k4⟩ | ⟨y, _⟩
          · exact absurd y s1
          · rw [e3] at stC
            rw [e4] at stK2
            simp only [Option.bind_some] at stC stK2
            (first | rw [if_pos trivial] at stC | rw [if_pos rfl] at stC)
            rw [zonK_t1 hw k4 (by omega) a0 a1] at stK2
            exact ⟨0, B, _, stC, stK2, mfc_x f1, mfk_t (fr10 fZ1) (mfk_t (fr10 o11) (o17 (by omega))), Or.inr ⟨rfl, j + 1, by omega, m1.2.2.2.2.1, by rw [qw_a (by decide)]; exact k4.2.2.1⟩⟩
          · omega
      · rw [if_neg gt] at stC
        rw [if_neg (show ¬ Z 2215 (20 + V) 0 = 0 by omega)] at stK
        refine bad ?_ stC
        rw [stK]
        unfold qf_X14_readZone_J33
        rw [want_K hK (Or.inl rfl), if_neg (by decide), if_pos rfl]
        simp only [Option.bind_some]
        (first | rw [if_pos trivial] | rw [if_pos rfl])
    · exact absurd g1 g3
  · refine bad ?_ ?_
    · unfold qf_X14_readZone
      rw [g2]
      simp only [Option.bind_some]
      rw [if_pos (show 0 ≤ qw Z 2208 11 0 j 2208 11 0 by rw [qw_s]; exact j0)]
    · unfold qf_X5_readZone
      rcases num_C (lo := 0) (hi := 19) hw hA with ⟨y, _⟩ | ⟨_, y⟩
      · exact absurd y g1
      · rw [y]
        simp only [Option.bind_some]
        (first | rw [if_pos trivial] | rw [if_pos rfl])
  · omega
end MTj
