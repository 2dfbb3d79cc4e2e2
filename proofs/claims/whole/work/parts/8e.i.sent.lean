/-! ===== the matrix text: holds and acts ===== -/
section MTf
variable {M K A W Z A' Z' : qm} {T bg en : Int → Int} {L p q e k i j x y z c n w s v C D r lo hi t P a P0 : Int} {m N : Nat}
def ZNE (P : Int) (A Z : qm) (z : Int) : Prop := (A 910 z 0 = 0 ∧ A 910 z 1 = 0 ∧ Z 2215 (20 + z) 0 = 0) ∨ (Z 2215 (20 + z) 0 = 1 ∧ 1 ≤ A 910 z 0 ∧ Z 2216 (20 + z) 0 = A 910 z 0 ∧ 1 ≤ A 910 z 1 ∧ A 910 z 1 ≤ 12 ∧ Z 2217 (20 + z) 0 = A 910 z 1 ∧ ∀ k, 0 ≤ k → k < A 910 z 1 → Z 2218 (12 * (20 + z) + k) 0 = A 910 z (2 + k) ∧ 0 ≤ A 910 z (2 + k) ∧ A 910 z (2 + k) < P)
def ACE (A Z : qm) (a : Int) : Prop := (A 931 a 0 = 0 ∧ A 931 a 4 = 0 ∧ Z 2219 (20 + a) 0 = 0) ∨ (A 931 a 0 = 1 ∧ Z 2219 (20 + a) 0 = 1 ∧ Z 2220 (20 + a) 0 = A 931 a 1 ∧ 0 ≤ A 931 a 1 ∧ A 931 a 1 ≤ 5 ∧ Z 2221 (20 + a) 0 = A 931 a 2 ∧ Z 2222 (20 + a) 0 = A 931 a 3 ∧ 0 ≤ A 931 a 3 ∧ A 931 a 3 ≤ 600 ∧ Z 2223 (20 + a) 0 = A 931 a 4 ∧ (A 931 a 4 = 0 ∨ A 931 a 4 = 1))
def RWE (A Z : qm) (r : Int) : Prop := Z 2224 (50 + r) 0 = A 952 r 0 ∧ Z 2225 (50 + r) 0 = A 952 r 1 ∧ Z 2226 (50 + r) 0 = A 952 r 2 ∧ 0 ≤ A 952 r 0 ∧ A 952 r 0 < 20 ∧ Z 2215 (20 + A 952 r 0) 0 = 1 ∧ -1 ≤ A 952 r 1 ∧ A 952 r 1 < 20 ∧ (0 ≤ A 952 r 1 → Z 2215 (20 + A 952 r 1) 0 = 1) ∧ 0 ≤ A 952 r 2 ∧ A 952 r 2 < 20 ∧ Z 2219 (20 + A 952 r 2) 0 = 1
/-- the tables that are being read -/
def TBL (P : Int) (A Z : qm) : Prop := A 908 3 0 = P ∧ Z 2208 0 0 = P ∧ 0 ≤ P ∧ P ≤ 50 ∧ (∀ z, 0 ≤ z → z < 20 → ZNE P A Z z) ∧ (∀ a, 0 ≤ a → a < 20 → ACE A Z a) ∧ Z 2208 22 0 = A 908 12 0 ∧ 0 ≤ A 908 12 0 ∧ A 908 12 0 ≤ 50 ∧ ∀ r, 0 ≤ r → r < A 908 12 0 → RWE A Z r
def MFC (A B : qm) : Prop := ∀ b x y, ¬ (b = 908 ∧ ((4 ≤ x ∧ x ≤ 8) ∨ x = 12)) → b ≠ 910 → b ≠ 931 → b ≠ 952 → B b x y = A b x y
def MFK (K Z : qm) : Prop := ∀ b x y, ¬ (b = 2208 ∧ (x = 10 ∨ x = 11 ∨ x = 22)) → ¬ ((b = 2215 ∨ b = 2216 ∨ b = 2217 ∨ (2219 ≤ b ∧ b ≤ 2223)) ∧ 20 ≤ x) → ¬ (b = 2218 ∧ 240 ≤ x) → ¬ (2224 ≤ b ∧ b ≤ 2226 ∧ 50 ≤ x) → Z b x y = K b x y
theorem mfc_t (h : MFC A M) (h2 : MFC M W) : MFC A W := fun b x y z1 z2 z3 z4 => (h2 b x y z1 z2 z3 z4).trans (h b x y z1 z2 z3 z4)
theorem mfk_t (h : MFK A M) (h2 : MFK M W) : MFK A W := fun b x y z1 z2 z3 z4 => (h2 b x y z1 z2 z3 z4).trans (h b x y z1 z2 z3 z4)
theorem mfc_x (h : FMX A W) : MFC A W := fun b x y z1 _ _ _ => h b x y (by omega)
theorem tbl_o (h : TBL P A Z) (f : ∀ b x y, (b = 908 ∧ (x = 3 ∨ x = 12)) ∨ b = 910 ∨ b = 931 ∨ b = 952 → A' b x y = A b x y) (g : ∀ b x y, (b = 2208 ∧ (x = 0 ∨ x = 22)) ∨ (2215 ≤ b ∧ b ≤ 2226) → Z' b x y = Z b x y) : TBL P A' Z' := by
  obtain ⟨h1, h2, h3, h4, h5, h6, h7, h8, h9, h10⟩ := h
  have e12 : A' 908 12 0 = A 908 12 0 := f _ _ _ (by omega)
  refine ⟨(f _ _ _ (by omega)).trans h1, (g _ _ _ (by omega)).trans h2, h3, h4, fun z z0 z1 => ?_, fun a a0 a1 => ?_, by rw [e12, g 2208 22 0 (by omega)]; exact h7, by omega, by omega, fun r r0 r1 => ?_⟩
  · have q := h5 z z0 z1
    unfold ZNE at q ⊢
    rw [f 910 z 0 (by omega), f 910 z 1 (by omega), g 2215 _ _ (by omega), g 2216 _ _ (by omega), g 2217 _ _ (by omega)]
    rcases q with q | ⟨q1, q2, q3, q4, q5, q6, q7⟩
    · exact Or.inl q
    · exact Or.inr ⟨q1, q2, q3, q4, q5, q6, fun k k0 k1 => by rw [g 2218 _ _ (by omega), f 910 _ _ (by omega)]; exact q7 k k0 k1⟩
  · have q := h6 a a0 a1
    unfold ACE at q ⊢
    rw [f 931 a 0 (by omega), f 931 a 1 (by omega), f 931 a 2 (by omega), f 931 a 3 (by omega), f 931 a 4 (by omega), g 2219 _ _ (by omega), g 2220 _ _ (by omega), g 2221 _ _ (by omega), g 2222 _ _ (by omega), g 2223 _ _ (by omega)]
    exact q
  · rw [e12] at r1
    have q := h10 r r0 r1
    unfold RWE at q ⊢
    rw [f 952 r 0 (by omega), f 952 r 1 (by omega), f 952 r 2 (by omega), g 2224 _ _ (by omega), g 2225 _ _ (by omega), g 2226 _ _ (by omega), g 2215 _ _ (by omega), g 2215 _ _ (by omega), g 2219 _ _ (by omega)]
    exact q
/-- what a sentence comes to on both sides -/
def OUTM (T : Int → Int) (L n : Int) (bg en : Int → Int) (P j : Int) (A Z : qm) (rc : Option (Int × qm)) (rk : Option (Unit × qm)) : Prop := ∃ b A' Z', rc = some (b, A') ∧ rk = some ((), Z') ∧ MFC A A' ∧ MFK Z Z' ∧ ((b = 1 ∧ ∃ j', j ≤ j' ∧ MST T L n bg en j' A' ∧ KSX T L n bg en j' (-1) Z' ∧ TBL P A' Z') ∨ (b = 0 ∧ ∃ w, 0 ≤ w ∧ A' 908 4 0 = w ∧ Z' 2208 11 0 = w))
theorem toldA_C (hw : WRD T L n bg en) (h : MST T L n bg en j A) : ∃ v, qf_X5_toldActHere 20000 A = some v ∧ ((isN T n bg en j 0 19 ∧ v = dgv T (bg j) (en j - bg j).toNat ∧ 0 ≤ v ∧ v < 20 ∧ A 931 v 0 ≠ 0) ∨ (v = -1 ∧ (¬ isN T n bg en j 0 19 ∨ (isN T n bg en j 0 19 ∧ A 931 (dgv T (bg j) (en j - bg j).toNat) 0 = 0)))) := by
  unfold qf_X5_toldActHere
  rcases num_C (lo := 0) (hi := 19) hw h with ⟨g, e⟩ | ⟨g, e⟩
  · rw [e]
    simp only [Option.bind_some]
    have b0 := g.2.2.2.1
    have b1 := g.2.2.2.2
    have g' := g
    generalize dgv T (bg j) (en j - bg j).toNat = v at b0 b1 ⊢
    rw [if_neg (by omega), if_pos (show 0 ≤ v ∧ v < 20 by omega)]
    by_cases g2 : A 931 v 0 = 0
    · rw [if_pos g2]
      exact ⟨-1, rfl, Or.inr ⟨rfl, Or.inr ⟨g', g2⟩⟩⟩
    · rw [if_neg g2]
      exact ⟨v, rfl, Or.inl ⟨g', rfl, b0, by omega, g2⟩⟩
  · rw [e]
    simp only [Option.bind_some]
    (first | rw [if_pos trivial] | rw [if_pos rfl])
    exact ⟨-1, rfl, Or.inr ⟨rfl, Or.inl g⟩⟩
theorem toldZ_C (hw : WRD T L n bg en) (h : MST T L n bg en j A) : ∃ v, qf_X5_toldZoneHere 20000 A = some v ∧ ((isN T n bg en j 0 19 ∧ v = dgv T (bg j) (en j - bg j).toNat ∧ 0 ≤ v ∧ v < 20 ∧ A 910 v 0 ≠ 0) ∨ (v = -1 ∧ (¬ isN T n bg en j 0 19 ∨ (isN T n bg en j 0 19 ∧ A 910 (dgv T (bg j) (en j - bg j).toNat) 0 = 0)))) := by
  unfold qf_X5_toldZoneHere
  rcases num_C (lo := 0) (hi := 19) hw h with ⟨g, e⟩ | ⟨g, e⟩
  · rw [e]
    simp only [Option.bind_some]
    have b0 := g.2.2.2.1
    have b1 := g.2.2.2.2
    have g' := g
    generalize dgv T (bg j) (en j - bg j).toNat = v at b0 b1 ⊢
    rw [if_neg (by omega), if_pos (show 0 ≤ v ∧ v < 20 by omega)]
    by_cases g2 : A 910 v 0 = 0
    · rw [if_pos g2]
      exact ⟨-1, rfl, Or.inr ⟨rfl, Or.inr ⟨g', g2⟩⟩⟩
    · rw [if_neg g2]
      exact ⟨v, rfl, Or.inl ⟨g', rfl, b0, by omega, g2⟩⟩
  · rw [e]
    simp only [Option.bind_some]
    (first | rw [if_pos trivial] | rw [if_pos rfl])
    exact ⟨-1, rfl, Or.inr ⟨rfl, Or.inl g⟩⟩
theorem fr10 (f : ∀ b x y, ¬ (b = 2208 ∧ (x = 10 ∨ x = 11)) → W b x y = K b x y) : MFK K W := fun b x y z1 _ _ _ => f b x y (by omega)
theorem o10 {t : Int} : ∀ b x y, ¬ (b = 2208 ∧ (x = 10 ∨ x = 11)) → qw K 2208 10 0 t b x y = K b x y := fun b x y z => by rw [qw_ap, if_neg (by omega)]
theorem o11 {t : Int} : ∀ b x y, ¬ (b = 2208 ∧ (x = 10 ∨ x = 11)) → qw K 2208 11 0 t b x y = K b x y := fun b x y z => by rw [qw_ap, if_neg (by omega)]
theorem hold_both (hw : WRD T L n bg en) (hA : MST T L n bg en j A) (hK : KSX T L n bg en j (-1) Z) (hT : TBL P A Z) : OUTM T L n bg en P j A Z (qf_X5_readHold 20000 A) (qf_X14_readHold 20000 Z) := by
  have nL := hw.2.2.2.1
  have L1 := hw.2.1
  have j0 := hA.2.2.1
  have jn := hA.2.2.2.1
  have w4 := hA.2.2.2.2.1
  obtain ⟨t1, t2, t3, t4, t5, t6, t7, t8, t9, t10⟩ := hT
  obtain ⟨v, ev, hv⟩ := toldA_C hw hA
  -- wrong at word j
  have bad : ∀ i1, qf_X14_readHold 20000 Z = qf_X14_readHold_J61 20000 i1 (qw Z 2208 11 0 j) → qf_X5_readHold 20000 A = some (0, A) → OUTM T L n bg en P j A Z (qf_X5_readHold 20000 A) (qf_X14_readHold 20000 Z) := fun i1 e1 e2 => by
    have k := ksx_wr (t := j) hK
    refine ⟨0, A, qw Z 2208 11 0 j, e2, ?_, fun _ _ _ _ _ _ _ => rfl, fr10 o11, Or.inr ⟨rfl, j, j0, w4, qw_s⟩⟩
    rw [e1]
    unfold qf_X14_readHold_J61
    rcases takeS_K hw k (Or.inr j0) with ⟨z, _⟩ | ⟨z, _⟩ | ⟨_, z⟩
    · omega
    · omega
    · rw [z]
      simp only [Option.bind_some]
      rw [if_pos (show 0 ≤ qw Z 2208 11 0 j 2208 11 0 by rw [qw_s]; exact j0)]
  have stC : qf_X5_readHold 20000 A = (if v = -1 then some (0, A) else if 0 ≤ v ∧ v < 20 then if A 931 v 4 = 0 then (qf_X5_nextWord 20000 A).bind (fun r7 => if 0 ≤ v ∧ v < 20 then (qf_X5_skipSign 20000 59 (qw r7.2 931 v 4 1)).bind (fun r12 => if (r12.1 = 0 ∨ r12.1 = 1) then some (r12.1, r12.2) else none) else none) else some (0, A) else none) := by
    unfold qf_X5_readHold qbnd
    rw [ev]
    rfl
  rcases look_K (lo := 0) (hi := 19) hw hK with ⟨_, g1, g2⟩ | ⟨_, g1, g2⟩ | ⟨g0, _⟩
  · -- a number
    have b0 := g1.2.2.2.1
    have b1 := g1.2.2.2.2
    obtain ⟨V, hV⟩ : ∃ V, dgv T (bg j) (en j - bg j).toNat = V := ⟨_, rfl⟩
    rw [hV] at b0 b1 g2 hv
    have cV : 0 ≤ 20 + V ∧ 20 + V < 40 := by omega
    have stK : qf_X14_readHold 20000 Z = (if Z 2219 (20 + V) 0 = 0 then qf_X14_readHold_J44 20000 V Z else if Z 2223 (20 + V) 0 = 0 then qf_X14_readHold_J45 20000 V 1 Z else qf_X14_readHold_J44 20000 V Z) := by
      unfold qf_X14_readHold
      rw [g2]
      simp only [Option.bind_some]
      rw [if_neg (show ¬ 0 ≤ Z 2208 11 0 by have := hK.2.2.1; omega), w32_id (x := 20 + V) (by omega) (by omega), if_pos cV, if_pos cV]
    have j44 : qf_X14_readHold_J44 20000 V Z = qf_X14_readHold_J61 20000 V (qw Z 2208 11 0 j) := by
      unfold qf_X14_readHold_J44 qf_X14_readHold_J45
      rw [want_K hK (Or.inl rfl), if_neg (by decide), if_pos rfl]
      rfl
    have ac := t6 V b0 (by omega)
    unfold ACE at ac
    by_cases gt : A 931 V 0 = 0
    · -- not told
      have zt : Z 2219 (20 + V) 0 = 0 := by omega
      rw [if_pos zt, j44] at stK
      have vm : v = -1 := by
        rcases hv with ⟨_, y, _, _, y2⟩ | ⟨y, _⟩
        · rw [y] at y2
          exact absurd gt y2
        · exact y
      rw [if_pos vm] at stC
      exact bad V stK stC
    · have vV : v = V := by
        rcases hv with ⟨_, y, _⟩ | ⟨_, y | ⟨_, y⟩⟩
        · exact y
        · exact absurd g1 y
        · exact absurd y gt
      rw [vV, if_neg (by omega), if_pos (show 0 ≤ V ∧ V < 20 by omega)] at stC
      rw [if_neg (show ¬ Z 2219 (20 + V) 0 = 0 by omega)] at stK
      by_cases g4 : A 931 V 4 = 0
      · rw [if_pos g4] at stC
        rw [if_pos (show Z 2223 (20 + V) 0 = 0 by omega)] at stK
        obtain ⟨B, e3, f3, m3⟩ := mst_next hw hA g1.1
        obtain ⟨Y, hY⟩ : ∃ Y, qw B 931 V 4 1 = Y := ⟨_, rfl⟩
        have fY : ∀ b x y, ¬ (b = 931 ∧ x = V ∧ y = 4) → Y b x y = B b x y := fun b x y z => by rw [← hY, qw_ap, if_neg z]
        have mY : MST T L n bg en (j + 1) Y := mst_o m3 (fun b x y z => fY b x y (by omega))
        rw [e3] at stC
        simp only [Option.bind_some] at stC
        rw [if_pos (show 0 ≤ V ∧ V < 20 by omega), hY] at stC
        have k1 := ksx_at (t := j + 1) hK (by omega) (by have := g1.1; omega)
        have stK2 : qf_X14_readHold 20000 Z = qf_X14_readHold_J61 20000 V (qw Z 2208 10 0 (j + 1)) := by
          rw [stK]
          unfold qf_X14_readHold_J45 qbnd
          rw [want_K hK (Or.inr rfl), if_neg (by decide), if_neg (by decide)]
          simp only [Option.bind_some]
          rw [if_neg (by decide), hK.2.1, w32_id (x := j + 1) (by omega) (by omega)]
        have fAY : MFC A Y := fun b x y z1 z2 z3 z4 => by
          rw [fY b x y (by omega)]
          exact f3 b x y (by omega)
        rcases skS_C hw mY (Or.inl rfl) with ⟨s1, U, e5, f5, m5⟩ | ⟨s1, e5⟩
        · rcases takeS_K hw k1 (Or.inl rfl) with ⟨_, _, e6, k6⟩ | ⟨_, y, _⟩ | ⟨y, _⟩
          · rw [e5] at stC
            simp only [Option.bind_some] at stC
            rw [if_pos (Or.inr trivial)] at stC
            have e7 : qf_X14_readHold 20000 Z = some ((), qw (qw (qw Z 2208 10 0 (j + 1)) 2208 10 0 (j + 1 + 1)) 2223 (20 + V) 0 1) := by
              rw [stK2]
              unfold qf_X14_readHold_J61 qbnd
              rw [e6]
              simp only [Option.bind_some]
              rw [if_neg (by rw [k6.2.2.1]; decide), w32_id (x := 20 + V) (by omega) (by omega), if_pos cV]
            obtain ⟨Q, hQ⟩ : ∃ Q, qw (qw (qw Z 2208 10 0 (j + 1)) 2208 10 0 (j + 1 + 1)) 2223 (20 + V) 0 1 = Q := ⟨_, rfl⟩
            have fQ : ∀ b x y, ¬ (b = 2208 ∧ x = 10) → ¬ (b = 2223 ∧ x = 20 + V ∧ y = 0) → Q b x y = Z b x y := fun b x y z1 z2 => by
              rw [← hQ, qw_ap, if_neg z2, qw_ap, if_neg (by omega), qw_ap, if_neg (by omega)]
            rw [hQ] at e7
            have q23 : Q 2223 (20 + V) 0 = 1 := by rw [← hQ]; exact qw_s
            have y4 : U 931 V 4 = 1 := by rw [f5 _ _ _ (by omega), ← hY]; exact qw_s
            have fAU : ∀ b x y, ¬ (b = 908 ∧ 4 ≤ x ∧ x ≤ 8) → ¬ (b = 931 ∧ x = V ∧ y = 4) → U b x y = A b x y := fun b x y z1 z2 => by
              rw [f5 b x y z1, fY b x y z2]
              exact f3 b x y z1
            refine ⟨1, U, Q, stC, e7, fun b x y z1 z2 z3 z4 => fAU b x y (by omega) (by omega), fun b x y z1 z2 z3 z4 => fQ b x y (by omega) (by omega), Or.inl ⟨rfl, j + 1 + 1, by omega, m5, ksx_o k6 (fun b x y z => by rw [← hQ, qw_ap, if_neg (by omega)]), ?_⟩⟩
            have e12 : U 908 12 0 = A 908 12 0 := fAU _ _ _ (by omega) (by omega)
            refine ⟨(fAU _ _ _ (by omega) (by omega)).trans t1, (fQ _ _ _ (by omega) (by omega)).trans t2, t3, t4, fun z z0 z1 => ?_, fun a a0 a1 => ?_, by rw [e12, fQ 2208 22 0 (by omega) (by omega)]; exact t7, by omega, by omega, fun r r0 r1 => ?_⟩
            · have q := t5 z z0 z1
              unfold ZNE at q ⊢
              rw [fAU 910 z 0 (by omega) (by omega), fAU 910 z 1 (by omega) (by omega), fQ 2215 _ _ (by omega) (by omega), fQ 2216 _ _ (by omega) (by omega), fQ 2217 _ _ (by omega) (by omega)]
              rcases q with q | ⟨q1, q2, q3, q4, q5, q6, q7⟩
              · exact Or.inl q
              · exact Or.inr ⟨q1, q2, q3, q4, q5, q6, fun k k0 k1 => by rw [fQ 2218 _ _ (by omega) (by omega), fAU 910 _ _ (by omega) (by omega)]; exact q7 k k0 k1⟩
            · have q := t6 a a0 a1
              unfold ACE at q ⊢
              rw [fAU 931 a 0 (by omega) (by omega), fAU 931 a 1 (by omega) (by omega), fAU 931 a 2 (by omega) (by omega), fAU 931 a 3 (by omega) (by omega), fQ 2219 _ _ (by omega) (by omega), fQ 2220 _ _ (by omega) (by omega), fQ 2221 _ _ (by omega) (by omega), fQ 2222 _ _ (by omega) (by omega)]
              by_cases ea : a = V
              · rw [ea] at q ⊢
                rw [y4, q23]
                rcases q with ⟨q1, _⟩ | ⟨q1, q2, q3, q4, q5, q6, q7, q8, q9, q10, q11⟩
                · exact absurd q1 gt
                · exact Or.inr ⟨q1, q2, q3, q4, q5, q6, q7, q8, q9, rfl, Or.inr rfl⟩
              · rw [fAU 931 a 4 (by omega) (by omega), fQ 2223 _ _ (by omega) (by omega)]
                exact q
            · rw [e12] at r1
              have q := t10 r r0 r1
              unfold RWE at q ⊢
              rw [fAU 952 r 0 (by omega) (by omega), fAU 952 r 1 (by omega) (by omega), fAU 952 r 2 (by omega) (by omega), fQ 2224 _ _ (by omega) (by omega), fQ 2225 _ _ (by omega) (by omega), fQ 2226 _ _ (by omega) (by omega), fQ 2215 _ _ (by omega) (by omega), fQ 2215 _ _ (by omega) (by omega), fQ 2219 _ _ (by omega) (by omega)]
              exact q
          · exact absurd s1 y
          · omega
        · rcases takeS_K hw k1 (Or.inl rfl) with ⟨_, y, _⟩ | ⟨_, _, e6, k6⟩ | ⟨y, _⟩
          · exact absurd y s1
          · rw [e5] at stC
            simp only [Option.bind_some] at stC
            rw [if_pos (Or.inl trivial)] at stC
            refine ⟨0, Y, _, stC, ?_, fAY, ?_, Or.inr ⟨rfl, j + 1, by omega, mY.2.2.2.2.1, k6.2.2.1⟩⟩
            · rw [stK2]
              unfold qf_X14_readHold_J61
              rw [e6]
              simp only [Option.bind_some]
              rw [if_pos (by rw [k6.2.2.1]; omega)]
            · exact mfk_t (fr10 o10) (fr10 o11)
          · omega
      · rw [if_neg g4] at stC
        rw [if_neg (show ¬ Z 2223 (20 + V) 0 = 0 by omega), j44] at stK
        exact bad V stK stC
  · have vm : v = -1 := by
      rcases hv with ⟨y, _⟩ | ⟨y, _⟩
      · exact absurd y g1
      · exact y
    rw [if_pos vm] at stC
    refine bad (-1) ?_ stC
    unfold qf_X14_readHold
    rw [g2]
    simp only [Option.bind_some]
    rw [if_pos (show 0 ≤ qw Z 2208 11 0 j 2208 11 0 by rw [qw_s]; exact j0)]
  · omega
end MTf
