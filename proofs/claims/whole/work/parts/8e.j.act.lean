/-! ===== the matrix text: an act is told ===== -/
section MTg
variable {M K A W Z A' Z' X : qm} {T bg en : Int → Int} {L p q e k i j x y z c n w s v C D r lo hi t P a what : Int} {m N : Nat}
/-- a word and a number behind it, in the class -/
theorem actn_C (hw : WRD T L n bg en) (hA : MST T L n bg en j A) (hC : 0 < C) (v0 : 0 ≤ v) (v1 : v < 20) (w0 : 1 ≤ what) (w1 : what < 4) : (isW T n bg en j C ∧ isN T n bg en (j + 1) 0 hi ∧ ∃ W, qf_X5_readActNumber 20000 v C what hi A = some (1, W) ∧ MST T L n bg en (j + 2) W ∧ W 931 v what = dgv T (bg (j + 1)) (en (j + 1) - bg (j + 1)).toNat ∧ (∀ b x y, ¬ (b = 908 ∧ 4 ≤ x ∧ x ≤ 8) → ¬ (b = 931 ∧ x = v ∧ y = what) → W b x y = A b x y)) ∨ (∃ W w, qf_X5_readActNumber 20000 v C what hi A = some (0, W) ∧ W 908 4 0 = w ∧ FMX A W ∧ ((¬ isW T n bg en j C ∧ w = j) ∨ (isW T n bg en j C ∧ ¬ isN T n bg en (j + 1) 0 hi ∧ w = j + 1))) := by
  unfold qf_X5_readActNumber qbnd
  rcases skW_C hw hA hC with ⟨g, B, e1, f1, m1⟩ | ⟨g, e1⟩
  · rw [e1]
    simp only [Option.bind_some]
    rw [if_neg (by decide)]
    rcases num_C (lo := 0) (hi := hi) hw m1 with ⟨g2, e2⟩ | ⟨g2, e2⟩
    · left
      rw [e2]
      simp only [Option.bind_some]
      have b0 := g2.2.2.2.1
      obtain ⟨V, hV⟩ : ∃ V, dgv T (bg (j + 1)) (en (j + 1) - bg (j + 1)).toNat = V := ⟨_, rfl⟩
      rw [hV] at b0 ⊢
      rw [if_neg (by omega), if_pos (show 0 ≤ v ∧ v < 20 from ⟨v0, v1⟩), if_pos (show 0 ≤ what ∧ what < 5 by omega)]
      obtain ⟨Y, hY⟩ : ∃ Y, qw B 931 v what V = Y := ⟨_, rfl⟩
      have fY : ∀ b x y, ¬ (b = 931 ∧ x = v ∧ y = what) → Y b x y = B b x y := fun b x y z => by rw [← hY, qw_ap, if_neg z]
      have mY : MST T L n bg en (j + 1) Y := mst_o m1 (fun b x y z => fY b x y (by omega))
      obtain ⟨U, e3, f3, m3⟩ := mst_next hw mY g2.1
      rw [hY, e3]
      refine ⟨g, g2, U, rfl, by rw [show j + 2 = j + 1 + 1 by omega]; exact m3, ?_, fun b x y z1 z2 => ?_⟩
      · rw [f3 _ _ _ (by omega), ← hY]
        exact qw_s
      · rw [f3 b x y z1, fY b x y z2]
        exact f1 b x y z1
    · right
      rw [e2]
      simp only [Option.bind_some]
      (first | rw [if_pos trivial] | rw [if_pos rfl])
      exact ⟨B, j + 1, rfl, m1.2.2.2.2.1, f1, Or.inr ⟨g, g2, rfl⟩⟩
  · right
    rw [e1]
    simp only [Option.bind_some]
    (first | rw [if_pos trivial] | rw [if_pos rfl])
    exact ⟨A, j, rfl, hA.2.2.2.2.1, fun _ _ _ _ => rfl, Or.inl ⟨g, rfl⟩⟩
/-- the same in the reference -/
theorem actn_K (hw : WRD T L n bg en) (hK : KSX T L n bg en j w Z) (hm : w = -1 ∨ 0 ≤ w) (kn : KNW C D) : ∃ (X : qm) (v : Int), (∀ {β : Type} (F : Int × qm → Option β), (qf_X14_take 20000 D Z).bind (fun r => (qf_X14_takeNumber 20000 0 hi r.2).bind F) = F (v, X)) ∧ (∀ b x y, ¬ (b = 2208 ∧ (x = 10 ∨ x = 11)) → X b x y = Z b x y) ∧ ((w = -1 ∧ isW T n bg en j C ∧ isN T n bg en (j + 1) 0 hi ∧ v = dgv T (bg (j + 1)) (en (j + 1) - bg (j + 1)).toNat ∧ KSX T L n bg en (j + 2) (-1) X) ∨ ∃ w' j', 0 ≤ w' ∧ KSX T L n bg en j' w' X ∧ ((w = -1 ∧ ¬ isW T n bg en j C ∧ w' = j) ∨ (w = -1 ∧ isW T n bg en j C ∧ ¬ isN T n bg en (j + 1) 0 hi ∧ w' = j + 1) ∨ (0 ≤ w ∧ w' = w))) := by
  have j0 := hK.2.2.2.1
  rcases takeW_K hw hK kn hm with ⟨a1, a2, a3, a4⟩ | ⟨a1, a2, a3, a4⟩ | ⟨a1, a3⟩
  · rcases takeN_K (lo := 0) (hi := hi) hw a4 (Or.inl rfl) with ⟨_, b2, b3, b4⟩ | ⟨_, b2, U, b3, b4, b5⟩ | ⟨b1, _⟩
    · refine ⟨_, _, fun F => ?_, fun b x y z => ?_, Or.inl ⟨a1, a2, b2, rfl, by rw [show j + 2 = j + 1 + 1 by omega]; exact b4⟩⟩
      · rw [a3]
        simp only [Option.bind_some]
        rw [b3]
        rfl
      · rw [o10 b x y z, o10 b x y z]
    · refine ⟨U, -1, fun F => ?_, fun b x y z => ?_, Or.inr ⟨j + 1, j + 1, by omega, b4, Or.inr (Or.inl ⟨a1, a2, b2, rfl⟩)⟩⟩
      · rw [a3]
        simp only [Option.bind_some]
        rw [b3]
        rfl
      · rw [b5 b x y z, o10 b x y z]
    · omega
  · rcases takeN_K (lo := 0) (hi := hi) hw a4 (Or.inr j0) with ⟨b1, _⟩ | ⟨b1, _⟩ | ⟨_, b3⟩
    · omega
    · omega
    · refine ⟨_, -1, fun F => ?_, o11, Or.inr ⟨j, j, j0, a4, Or.inl ⟨a1, a2, rfl⟩⟩⟩
      rw [a3]
      simp only [Option.bind_some]
      rw [b3]
      rfl
  · rcases takeN_K (lo := 0) (hi := hi) hw hK hm with ⟨b1, _⟩ | ⟨b1, _⟩ | ⟨_, b3⟩
    · omega
    · omega
    · refine ⟨Z, -1, fun F => ?_, fun _ _ _ _ => rfl, Or.inr ⟨w, j, a1, hK, Or.inr (Or.inr ⟨a1, rfl⟩)⟩⟩
      rw [a3]
      simp only [Option.bind_some]
      rw [b3]
      rfl
theorem act_both (hw : WRD T L n bg en) (hA : MST T L n bg en j A) (hK : KSX T L n bg en j (-1) Z) (hT : TBL P A Z) : OUTM T L n bg en P j A Z (qf_X5_readAct 20000 A) (qf_X14_readAct 20000 Z) := by
  have nL := hw.2.2.2.1
  have L1 := hw.2.1
  have j0 := hA.2.2.1
  have jn := hA.2.2.2.1
  have w4 := hA.2.2.2.2.1
  obtain ⟨t1, t2, t3, t4, t5, t6, t7, t8, t9, t10⟩ := hT
  rcases look_K (lo := 0) (hi := 19) hw hK with ⟨_, g1, g2⟩ | ⟨_, g1, g2⟩ | ⟨g0, _⟩
  · have b0 := g1.2.2.2.1
    have b1 := g1.2.2.2.2
    have jl := g1.1
    obtain ⟨V, hV⟩ : ∃ V, dgv T (bg j) (en j - bg j).toNat = V := ⟨_, rfl⟩
    have eC := num_C (lo := 0) (hi := 19) hw hA
    have eC2 : qf_X5_numberHere 20000 0 19 A = some V := by
      rcases eC with ⟨_, y⟩ | ⟨y, _⟩
      · rw [hV] at y
        exact y
      · exact absurd g1 y
    rw [hV] at b0 b1 g2
    have cV : 0 ≤ V + 20 ∧ V + 20 < 40 := by omega
    have cV2 : 0 ≤ V ∧ V < 20 := by omega
    have ac := t6 V b0 (by omega)
    unfold ACE at ac
    rw [show 20 + V = V + 20 by omega] at ac
    have stC : qf_X5_readAct 20000 A = (if A 931 V 0 = 0 then (qf_X5_nextWord 20000 A).bind (fun r7 => (qf_X5_readActNumber 20000 V 1802071652 1 5 r7.2).bind (fun r9 => if r9.1 = 0 then qf_X5_readAct_J85 20000 V r9.2 else (qf_X5_readActNumber 20000 V 1918987883 2 99 r9.2).bind (fun r14 => if r14.1 = 0 then qf_X5_readAct_J85 20000 V r14.2 else (qf_X5_readActNumber 20000 V 431198331257 3 600 r14.2).bind (fun r16 => if r16.1 = 0 then qf_X5_readAct_J85 20000 V r16.2 else (qf_X5_skipSign 20000 59 r16.2).bind (fun r18 => if r18.1 = 0 then qf_X5_readAct_J85 20000 V r18.2 else qf_X5_readAct_J86 20000 V 1 r18.2))))) else some (0, A)) := by
      unfold qf_X5_readAct
      rw [eC2]
      simp only [Option.bind_some]
      rw [if_neg (by omega), if_pos cV2]
    have stK : qf_X14_readAct 20000 Z = (if Z 2219 (V + 20) 0 = 0 then qf_X14_readAct_J33 20000 (V + 20) 1 Z else qf_X14_readAct_J33 20000 (V + 20) 0 Z) := by
      unfold qf_X14_readAct
      rw [g2]
      simp only [Option.bind_some]
      rw [if_neg (show ¬ 0 ≤ Z 2208 11 0 by have := hK.2.2.1; omega), w32_id (x := V + 20) (by omega) (by omega), if_pos cV]
    by_cases gt : A 931 V 0 = 0
    · rw [if_pos gt] at stC
      rw [if_pos (show Z 2219 (V + 20) 0 = 0 by omega)] at stK
      obtain ⟨B, e3, f3, m3⟩ := mst_next hw hA jl
      rw [e3] at stC
      simp only [Option.bind_some] at stC
      have k1 := ksx_at (t := j + 1) hK (by omega) (by omega)
      -- the three numbers in the reference
      obtain ⟨X1, v1, s1, fX1, h1⟩ := actn_K (hi := 5) (C := 1802071652) (D := 145707) hw k1 (Or.inl rfl) (by unfold KNW; omega)
      obtain ⟨Y1, hY1⟩ : ∃ Y, qw X1 2220 (V + 20) 0 v1 = Y := ⟨_, rfl⟩
      have fY1 : ∀ b x y, ¬ (b = 2220 ∧ x = V + 20 ∧ y = 0) → Y1 b x y = X1 b x y := fun b x y z => by rw [← hY1, qw_ap, if_neg z]
      obtain ⟨w1, i1, kX1, hm1⟩ : ∃ w1 i1, KSX T L n bg en i1 w1 Y1 ∧ (w1 = -1 ∨ 0 ≤ w1) := by
        rcases h1 with ⟨_, _, _, _, y⟩ | ⟨w', j', y0, y, _⟩
        · exact ⟨-1, _, ksx_o y (fun b x y z => fY1 b x y (by omega)), Or.inl rfl⟩
        · exact ⟨w', _, ksx_o y (fun b x y z => fY1 b x y (by omega)), Or.inr y0⟩
      obtain ⟨X2, v2, s2, fX2, h2⟩ := actn_K (hi := 99) (C := 1918987883) (D := 374834) hw kX1 hm1 (by unfold KNW; omega)
      obtain ⟨Y2, hY2⟩ : ∃ Y, qw X2 2221 (V + 20) 0 v2 = Y := ⟨_, rfl⟩
      have fY2 : ∀ b x y, ¬ (b = 2221 ∧ x = V + 20 ∧ y = 0) → Y2 b x y = X2 b x y := fun b x y z => by rw [← hY2, qw_ap, if_neg z]
      obtain ⟨w2, i2, kX2, hm2⟩ : ∃ w2 i2, KSX T L n bg en i2 w2 Y2 ∧ (w2 = -1 ∨ 0 ≤ w2) := by
        rcases h2 with ⟨_, _, _, _, y⟩ | ⟨w', j', y0, y, _⟩
        · exact ⟨-1, _, ksx_o y (fun b x y z => fY2 b x y (by omega)), Or.inl rfl⟩
        · exact ⟨w', _, ksx_o y (fun b x y z => fY2 b x y (by omega)), Or.inr y0⟩
      obtain ⟨X3, v3, s3, fX3, h3⟩ := actn_K (hi := 600) (C := 431198331257) (D := 26259620) hw kX2 hm2 (by unfold KNW; omega)
      obtain ⟨Y3, hY3⟩ : ∃ Y, qw X3 2222 (V + 20) 0 v3 = Y := ⟨_, rfl⟩
      have fY3 : ∀ b x y, ¬ (b = 2222 ∧ x = V + 20 ∧ y = 0) → Y3 b x y = X3 b x y := fun b x y z => by rw [← hY3, qw_ap, if_neg z]
      obtain ⟨w3, i3, kX3, hm3⟩ : ∃ w3 i3, KSX T L n bg en i3 w3 Y3 ∧ (w3 = -1 ∨ 0 ≤ w3) := by
        rcases h3 with ⟨_, _, _, _, y⟩ | ⟨w', j', y0, y, _⟩
        · exact ⟨-1, _, ksx_o y (fun b x y z => fY3 b x y (by omega)), Or.inl rfl⟩
        · exact ⟨w', _, ksx_o y (fun b x y z => fY3 b x y (by omega)), Or.inr y0⟩
      have stK2 : qf_X14_readAct 20000 Z = (qf_X14_takeStop 20000 Y3).bind (fun r29 => some ((), qw (qw r29.2 2219 (V + 20) 0 1) 2223 (V + 20) 0 0)) := by
        rw [stK]
        unfold qf_X14_readAct_J33 qbnd
        rw [want_K hK (Or.inr rfl), if_neg (by decide), if_neg (by decide)]
        simp only [Option.bind_some]
        rw [if_neg (by decide), hK.2.1, w32_id (x := j + 1) (by omega) (by omega), s1]
        (try dsimp only)
        rw [if_pos cV, hY1, s2]
        (try dsimp only)
        rw [if_pos cV, hY2, s3]
        (try dsimp only)
        rw [if_pos cV, hY3]
        congr 1
        funext r
        rw [if_pos cV, if_pos cV]
      -- frames so far
      have fZ3 : ∀ b x y, ¬ (b = 2208 ∧ (x = 10 ∨ x = 11)) → ¬ (2220 ≤ b ∧ b ≤ 2222 ∧ x = V + 20) → Y3 b x y = Z b x y := fun b x y z1 z2 => by
        rw [fY3 b x y (by omega), fX3 b x y z1, fY2 b x y (by omega), fX2 b x y z1, fY1 b x y (by omega), fX1 b x y z1]
        exact o10 b x y z1
      have k20 : Y3 2220 (V + 20) 0 = v1 := by
        rw [fY3 _ _ _ (by omega), fX3 _ _ _ (by omega), fY2 _ _ _ (by omega), fX2 _ _ _ (by omega), ← hY1]
        exact qw_s
      have k21 : Y3 2221 (V + 20) 0 = v2 := by
        rw [fY3 _ _ _ (by omega), fX3 _ _ _ (by omega), ← hY2]
        exact qw_s
      have k22 : Y3 2222 (V + 20) 0 = v3 := by rw [← hY3]; exact qw_s
      -- the end, wrong before: word w
      have bad : ∀ (w : Int) (Q : qm), 0 ≤ w → Y3 2208 11 0 = w → qf_X5_readAct 20000 A = qf_X5_readAct_J85 20000 V Q → Q 908 4 0 = w → MFC A Q → OUTM T L n bg en P j A Z (qf_X5_readAct 20000 A) (qf_X14_readAct 20000 Z) := fun w Q w0 y1 y2 y3 y4 => by
        have kb : w3 = w := by rw [← y1]; exact kX3.2.2.1.symm
        rw [kb] at kX3
        have e9 : qf_X14_takeStop 20000 Y3 = some ((), Y3) := by
          rcases takeS_K hw kX3 (Or.inr w0) with ⟨z, _⟩ | ⟨z, _⟩ | ⟨_, z⟩
          · omega
          · omega
          · exact z
        rw [e9] at stK2
        refine ⟨0, qw Q 931 V 0 1, _, ?_, stK2, fun b x y z1 z2 z3 z4 => by rw [qw_a z3]; exact y4 b x y z1 z2 z3 z4, fun b x y z1 z2 z3 z4 => ?_, Or.inr ⟨rfl, w, w0, (qw_a (by decide)).trans y3, (qw_a (by decide)).trans ((qw_a (by decide)).trans y1)⟩⟩
        · rw [y2]
          unfold qf_X5_readAct_J85 qf_X5_readAct_J86 qbnd
          rw [if_pos cV2]
          (try dsimp only)
          rw [if_pos (Or.inl rfl)]
        · rw [qw_ap, if_neg (by omega), qw_ap, if_neg (by omega)]
          exact fZ3 b x y (by omega) (by omega)
      rcases actn_C (hi := 5) (what := 1) hw m3 (by decide : (0 : Int) < 1802071652) cV2.1 cV2.2 (by decide) (by decide) with ⟨c1, c2, B1, c3, c4, c5, c6⟩ | ⟨B1, u, c3, c4, c5, c6⟩
      · rw [c3] at stC
        simp only [Option.bind_some] at stC
        rw [if_neg (by decide)] at stC
        rcases h1 with ⟨_, _, _, hv1, kk1⟩ | ⟨w', j', _, _, ⟨_, y, _⟩ | ⟨_, _, y, _⟩ | ⟨y, _⟩⟩
        · have w1e : w1 = -1 := by
            rw [← kX1.2.2.1, fY1 _ _ _ (by omega)]
            exact kk1.2.2.1
          have i1e : i1 = j + 1 + 2 := by
            rw [← kX1.2.1, fY1 _ _ _ (by omega)]
            exact kk1.2.1
          rw [w1e, i1e] at h2
          rcases actn_C (hi := 99) (what := 2) hw c4 (by decide : (0 : Int) < 1918987883) cV2.1 cV2.2 (by decide) (by decide) with ⟨d1, d2, B2, d3, d4, d5, d6⟩ | ⟨B2, u, d3, d4, d5, d6⟩
          · rw [d3] at stC
            simp only [Option.bind_some] at stC
            rw [if_neg (by decide)] at stC
            rcases h2 with ⟨_, _, _, hv2, kk2⟩ | ⟨w', j', _, _, ⟨_, y, _⟩ | ⟨_, _, y, _⟩ | ⟨y, _⟩⟩
            · have w2e : w2 = -1 := by
                rw [← kX2.2.2.1, fY2 _ _ _ (by omega)]
                exact kk2.2.2.1
              have i2e : i2 = j + 1 + 2 + 2 := by
                rw [← kX2.2.1, fY2 _ _ _ (by omega)]
                exact kk2.2.1
              rw [w2e, i2e] at h3
              rcases actn_C (hi := 600) (what := 3) hw d4 (by decide : (0 : Int) < 431198331257) cV2.1 cV2.2 (by decide) (by decide) with ⟨p1, p2, B3, p3, p4, p5, p6⟩ | ⟨B3, u, p3, p4, p5, p6⟩
              · rw [p3] at stC
                simp only [Option.bind_some] at stC
                rw [if_neg (by decide)] at stC
                rcases h3 with ⟨_, _, _, hv3, kk3⟩ | ⟨w', j', _, _, ⟨_, y, _⟩ | ⟨_, _, y, _⟩ | ⟨y, _⟩⟩
                · have kY3 : KSX T L n bg en (j + 1 + 2 + 2 + 2) (-1) Y3 := ksx_o kk3 (fun b x y z => fY3 b x y (by omega))
                  -- what the class has noted
                  have fB3 : ∀ b x y, ¬ (b = 908 ∧ 4 ≤ x ∧ x ≤ 8) → ¬ (b = 931 ∧ x = V ∧ 1 ≤ y ∧ y ≤ 3) → B3 b x y = A b x y := fun b x y z1 z2 => by
                    rw [p6 b x y z1 (by omega), d6 b x y z1 (by omega), c6 b x y z1 (by omega)]
                    exact f3 b x y z1
                  have n1 : B3 931 V 1 = v1 := by
                    rw [p6 _ _ _ (by omega) (by omega), d6 _ _ _ (by omega) (by omega), c5]
                    exact hv1.symm
                  have n2 : B3 931 V 2 = v2 := by
                    rw [p6 _ _ _ (by omega) (by omega), d5]
                    exact hv2.symm
                  have n3 : B3 931 V 3 = v3 := p5.trans hv3.symm
                  have n4 : B3 931 V 4 = 0 := by
                    rw [fB3 _ _ _ (by omega) (by omega)]
                    rcases ac with ⟨_, y, _⟩ | ⟨y, _⟩
                    · exact y
                    · omega
                  have r1 : 0 ≤ v1 ∧ v1 ≤ 5 := by rw [hv1]; exact ⟨c2.2.2.2.1, c2.2.2.2.2⟩
                  have r3 : 0 ≤ v3 ∧ v3 ≤ 600 := by rw [hv3]; exact ⟨p2.2.2.2.1, p2.2.2.2.2⟩
                  rcases skS_C hw p4 (Or.inl rfl) with ⟨q1, U, q2, q3, q4⟩ | ⟨q1, q2⟩
                  · rcases takeS_K hw kY3 (Or.inl rfl) with ⟨_, _, e6, k6⟩ | ⟨_, y, _⟩ | ⟨y, _⟩
                    · rw [q2] at stC
                      simp only [Option.bind_some] at stC
                      rw [if_neg (by decide)] at stC
                      rw [e6] at stK2
                      simp only [Option.bind_some] at stK2
                      obtain ⟨Q, hQ⟩ : ∃ Q, qw (qw (qw Y3 2208 10 0 (j + 1 + 2 + 2 + 2 + 1)) 2219 (V + 20) 0 1) 2223 (V + 20) 0 0 = Q := ⟨_, rfl⟩
                      rw [hQ] at stK2
                      have fQ3 : ∀ b x y, ¬ (b = 2208 ∧ x = 10) → ¬ ((b = 2219 ∨ b = 2223) ∧ x = V + 20) → Q b x y = Y3 b x y := fun b x y z1 z2 => by
                        rw [← hQ, qw_ap, if_neg (by omega), qw_ap, if_neg (by omega), qw_ap, if_neg (by omega)]
                      have fQ : ∀ b x y, ¬ (b = 2208 ∧ (x = 10 ∨ x = 11)) → ¬ (2219 ≤ b ∧ b ≤ 2223 ∧ x = V + 20) → Q b x y = Z b x y := fun b x y z1 z2 => by
                        rw [fQ3 b x y (by omega) (by omega)]
                        exact fZ3 b x y z1 (by omega)
                      have Q19 : Q 2219 (V + 20) 0 = 1 := by rw [← hQ, qw_a (by decide)]; exact qw_s
                      have Q23 : Q 2223 (V + 20) 0 = 0 := by rw [← hQ]; exact qw_s
                      obtain ⟨G, hG⟩ : ∃ G, qw U 931 V 0 1 = G := ⟨_, rfl⟩
                      have fG : ∀ b x y, ¬ (b = 908 ∧ 4 ≤ x ∧ x ≤ 8) → ¬ (b = 931 ∧ x = V ∧ 0 ≤ y ∧ y ≤ 3) → G b x y = A b x y := fun b x y z1 z2 => by
                        rw [← hG, qw_ap, if_neg (by omega), q3 b x y z1]
                        exact fB3 b x y z1 (by omega)
                      have G0 : G 931 V 0 = 1 := by rw [← hG]; exact qw_s
                      have G1 : ∀ y, y ≠ 0 → G 931 V y = B3 931 V y := fun y z => by
                        rw [← hG, qw_j z]
                        exact q3 _ _ _ (by omega)
                      have stC2 : qf_X5_readAct 20000 A = some (1, G) := by
                        rw [stC]
                        unfold qf_X5_readAct_J86 qbnd
                        rw [if_pos cV2]
                        (try dsimp only)
                        rw [if_pos (Or.inr rfl), hG]
                      refine ⟨1, G, Q, stC2, stK2, fun b x y z1 z2 z3 z4 => fG b x y (by omega) (by omega), fun b x y z1 z2 z3 z4 => fQ b x y (by omega) (by omega), Or.inl ⟨rfl, j + 1 + 2 + 2 + 2 + 1, by omega, mst_o q4 (fun b x y z => by rw [← hG, qw_ap, if_neg (by omega)]), ksx_o k6 (fun b x y z => by rw [← hQ, qw_ap, if_neg (by omega), qw_ap, if_neg (by omega)]), ?_⟩⟩
                      have e12 : G 908 12 0 = A 908 12 0 := fG _ _ _ (by omega) (by omega)
                      refine ⟨(fG _ _ _ (by omega) (by omega)).trans t1, (fQ _ _ _ (by omega) (by omega)).trans t2, t3, t4, fun z z0 z1 => ?_, fun a a0 a1 => ?_, by rw [e12, fQ 2208 22 0 (by omega) (by omega)]; exact t7, by omega, by omega, fun r r0 r1 => ?_⟩
                      · have q := t5 z z0 z1
                        unfold ZNE at q ⊢
                        rw [fG 910 z 0 (by omega) (by omega), fG 910 z 1 (by omega) (by omega), fQ 2215 _ _ (by omega) (by omega), fQ 2216 _ _ (by omega) (by omega), fQ 2217 _ _ (by omega) (by omega)]
                        rcases q with q | ⟨q1, q2, q3, q4, q5, q6, q7⟩
                        · exact Or.inl q
                        · exact Or.inr ⟨q1, q2, q3, q4, q5, q6, fun k k0 k1 => by rw [fQ 2218 _ _ (by omega) (by omega), fG 910 _ _ (by omega) (by omega)]; exact q7 k k0 k1⟩
                      · unfold ACE
                        by_cases ea : a = V
                        · rw [ea, show 20 + V = V + 20 by omega, G0, G1 1 (by decide), G1 2 (by decide), G1 3 (by decide), G1 4 (by decide), n1, n2, n3, n4, Q19, Q23, fQ3 2220 _ _ (by omega) (by omega), fQ3 2221 _ _ (by omega) (by omega), fQ3 2222 _ _ (by omega) (by omega), k20, k21, k22]
                          exact Or.inr ⟨rfl, rfl, rfl, r1.1, r1.2, rfl, rfl, r3.1, r3.2, rfl, Or.inl rfl⟩
                        · have q := t6 a a0 a1
                          unfold ACE at q
                          rw [fG 931 a 0 (by omega) (by omega), fG 931 a 1 (by omega) (by omega), fG 931 a 2 (by omega) (by omega), fG 931 a 3 (by omega) (by omega), fG 931 a 4 (by omega) (by omega), fQ 2219 _ _ (by omega) (by omega), fQ 2220 _ _ (by omega) (by omega), fQ 2221 _ _ (by omega) (by omega), fQ 2222 _ _ (by omega) (by omega), fQ 2223 _ _ (by omega) (by omega)]
                          exact q
                      · rw [e12] at r1
                        have q := t10 r r0 r1
                        unfold RWE at q ⊢
                        rw [fG 952 r 0 (by omega) (by omega), fG 952 r 1 (by omega) (by omega), fG 952 r 2 (by omega) (by omega), fQ 2224 _ _ (by omega) (by omega), fQ 2225 _ _ (by omega) (by omega), fQ 2226 _ _ (by omega) (by omega), fQ 2215 _ _ (by omega) (by omega), fQ 2215 _ _ (by omega) (by omega)]
                        refine ⟨q.1, q.2.1, q.2.2.1, q.2.2.2.1, q.2.2.2.2.1, q.2.2.2.2.2.1, q.2.2.2.2.2.2.1, q.2.2.2.2.2.2.2.1, q.2.2.2.2.2.2.2.2.1, q.2.2.2.2.2.2.2.2.2.1, q.2.2.2.2.2.2.2.2.2.2.1, ?_⟩
                        by_cases er : A 952 r 2 = V
                        · rw [er, show 20 + V = V + 20 by omega]
                          exact Q19
                        · rw [fQ 2219 _ _ (by omega) (by omega)]
                          exact q.2.2.2.2.2.2.2.2.2.2.2
                    · exact absurd q1 y
                    · omega
                  · rcases takeS_K hw kY3 (Or.inl rfl) with ⟨_, y, _⟩ | ⟨_, _, e6, k6⟩ | ⟨y, _⟩
                    · exact absurd y q1
                    · rw [q2] at stC
                      simp only [Option.bind_some] at stC
                      (first | rw [if_pos trivial] at stC | rw [if_pos rfl] at stC)
                      rw [e6] at stK2
                      refine ⟨0, qw B3 931 V 0 1, _, ?_, stK2, fun b x y z1 z2 z3 z4 => by rw [qw_a z3]; exact fB3 b x y (by omega) (by omega), fun b x y z1 z2 z3 z4 => ?_, Or.inr ⟨rfl, j + 1 + 2 + 2 + 2, by omega, (qw_a (by decide)).trans p4.2.2.2.2.1, (qw_a (by decide)).trans ((qw_a (by decide)).trans k6.2.2.1)⟩⟩
                      · rw [stC]
                        unfold qf_X5_readAct_J85 qf_X5_readAct_J86 qbnd
                        rw [if_pos cV2]
                        (try dsimp only)
                        rw [if_pos (Or.inl rfl)]
                      · show qw (qw (qw Y3 2208 11 0 (j + 1 + 2 + 2 + 2)) 2219 (V + 20) 0 1) 2223 (V + 20) 0 0 b x y = Z b x y
                        rw [qw_ap, if_neg (by omega), qw_ap, if_neg (by omega), qw_ap, if_neg (by omega)]
                        exact fZ3 b x y (by omega) (by omega)
                    · omega
                · exact absurd p1 y
                · exact absurd p2 y
                · omega
              · rw [p3] at stC
                simp only [Option.bind_some] at stC
                (first | rw [if_pos trivial] at stC | rw [if_pos rfl] at stC)
                have mfc : MFC A B3 := fun b x y z1 z2 z3 z4 => by
                  rw [p5 b x y (by omega), d6 b x y (by omega) (by omega), c6 b x y (by omega) (by omega)]
                  exact f3 b x y (by omega)
                rcases h3 with ⟨_, z1, z2, _⟩ | ⟨w', j', y0, y1, y2⟩
                · rcases p6 with ⟨y, _⟩ | ⟨_, y, _⟩
                  · exact absurd z1 y
                  · exact absurd z2 y
                · refine bad u B3 ?_ ?_ stC p4 mfc
                  · omega
                  · rw [fY3 _ _ _ (by omega), y1.2.2.1]
                    rcases p6 with ⟨z, z2⟩ | ⟨z, z1, z2⟩
                    · rcases y2 with ⟨_, _, y⟩ | ⟨_, y, _⟩ | ⟨y, _⟩
                      · omega
                      · exact absurd y z
                      · omega
                    · rcases y2 with ⟨_, y, _⟩ | ⟨_, _, _, y⟩ | ⟨y, _⟩
                      · exact absurd z y
                      · omega
                      · omega
            · exact absurd d1 y
            · exact absurd d2 y
            · omega
          · rw [d3] at stC
            simp only [Option.bind_some] at stC
            (first | rw [if_pos trivial] at stC | rw [if_pos rfl] at stC)
            have mfc : MFC A B2 := fun b x y z1 z2 z3 z4 => by
              rw [d5 b x y (by omega), c6 b x y (by omega) (by omega)]
              exact f3 b x y (by omega)
            rcases h2 with ⟨_, z1, z2, _⟩ | ⟨w', j', y0, y1, y2⟩
            · rcases d6 with ⟨y, _⟩ | ⟨_, y, _⟩
              · exact absurd z1 y
              · exact absurd z2 y
            · have wu : w' = u := by
                rcases d6 with ⟨z, z2⟩ | ⟨z, z1, z2⟩
                · rcases y2 with ⟨_, _, y⟩ | ⟨_, y, _⟩ | ⟨y, _⟩
                  · omega
                  · exact absurd y z
                  · omega
                · rcases y2 with ⟨_, y, _⟩ | ⟨_, _, _, y⟩ | ⟨y, _⟩
                  · exact absurd z y
                  · omega
                  · omega
              have w2e : w2 = w' := by
                rw [← kX2.2.2.1, fY2 _ _ _ (by omega)]
                exact y1.2.2.1
              refine bad u B2 (by omega) ?_ stC d4 mfc
              rw [fY3 _ _ _ (by omega)]
              rcases h3 with ⟨z, _⟩ | ⟨w3', j3, _, q1, ⟨z, _⟩ | ⟨z, _⟩ | ⟨_, z⟩⟩
              · omega
              · omega
              · omega
              · rw [q1.2.2.1]
                omega
        · exact absurd c1 y
        · exact absurd c2 y
        · omega
      · rw [c3] at stC
        simp only [Option.bind_some] at stC
        (first | rw [if_pos trivial] at stC | rw [if_pos rfl] at stC)
        have mfc : MFC A B1 := fun b x y z1 z2 z3 z4 => by
          rw [c5 b x y (by omega)]
          exact f3 b x y (by omega)
        rcases h1 with ⟨_, z1, z2, _⟩ | ⟨w', j', y0, y1, y2⟩
        · rcases c6 with ⟨y, _⟩ | ⟨_, y, _⟩
          · exact absurd z1 y
          · exact absurd z2 y
        · have wu : w' = u := by
            rcases c6 with ⟨z, z2⟩ | ⟨z, z1, z2⟩
            · rcases y2 with ⟨_, _, y⟩ | ⟨_, y, _⟩ | ⟨y, _⟩
              · omega
              · exact absurd y z
              · omega
            · rcases y2 with ⟨_, y, _⟩ | ⟨_, _, _, y⟩ | ⟨y, _⟩
              · exact absurd z y
              · omega
              · omega
          have w1e : w1 = w' := by
            rw [← kX1.2.2.1, fY1 _ _ _ (by omega)]
            exact y1.2.2.1
          have w2e : w2 = w' := by
            rw [← kX2.2.2.1, fY2 _ _ _ (by omega)]
            rcases h2 with ⟨z, _⟩ | ⟨w3', j3, _, q1, ⟨z, _⟩ | ⟨z, _⟩ | ⟨_, z⟩⟩
            · omega
            · omega
            · omega
            · rw [q1.2.2.1]
              omega
          refine bad u B1 (by omega) ?_ stC c4 mfc
          rw [fY3 _ _ _ (by omega)]
          rcases h3 with ⟨z, _⟩ | ⟨w3', j3, _, q1, ⟨z, _⟩ | ⟨z, _⟩ | ⟨_, z⟩⟩
          · omega
          · omega
          · omega
          · rw [q1.2.2.1]
            omega
    · rw [if_neg gt] at stC
      rw [if_neg (show ¬ Z 2219 (V + 20) 0 = 0 by omega)] at stK
      refine ⟨0, A, qw Z 2208 11 0 j, stC, ?_, fun _ _ _ _ _ _ _ => rfl, fr10 o11, Or.inr ⟨rfl, j, j0, w4, qw_s⟩⟩
      rw [stK]
      unfold qf_X14_readAct_J33
      rw [want_K hK (Or.inl rfl), if_neg (by decide), if_pos rfl]
      simp only [Option.bind_some]
      (first | rw [if_pos trivial] | rw [if_pos rfl])
  · have eC2 : qf_X5_numberHere 20000 0 19 A = some (-1) := by
      rcases num_C (lo := 0) (hi := 19) hw hA with ⟨y, _⟩ | ⟨_, y⟩
      · exact absurd y g1
      · exact y
    refine ⟨0, A, qw Z 2208 11 0 j, ?_, ?_, fun _ _ _ _ _ _ _ => rfl, fr10 o11, Or.inr ⟨rfl, j, j0, w4, qw_s⟩⟩
    · unfold qf_X5_readAct
      rw [eC2]
      simp only [Option.bind_some]
      (first | rw [if_pos trivial] | rw [if_pos rfl])
    · unfold qf_X14_readAct
      rw [g2]
      simp only [Option.bind_some]
      rw [if_pos (show 0 ≤ qw Z 2208 11 0 j 2208 11 0 by rw [qw_s]; exact j0)]
  · omega
end MTg
