/-! ===== the matrix text: its sentences ===== -/
section MTk
variable {M K A W Z A' Z' X Y B : qm} {T bg en : Int → Int} {L p q e k i j x y z c n w s v C D r lo hi t P a J V i1 i2 i3 i4 : Int} {m N : Nat}
theorem out_w {rc : Option (Int × qm)} {rk : Option (Unit × qm)} {f : Int × qm → Option (Int × qm)} {g : Unit × qm → Option (Unit × qm)} (h : OUTM T L n bg en P j A Z rc rk) (hf : ∀ b X, (b = 0 ∨ b = 1) → f (b, X) = some (b, X)) (hg : ∀ X, g ((), X) = some ((), X)) : OUTM T L n bg en P j A Z (rc.bind f) (rk.bind g) := by
  obtain ⟨b, B, Y, e1, e2, f1, g1, h1⟩ := h
  have hb : b = 0 ∨ b = 1 := by
    rcases h1 with ⟨z, _⟩ | ⟨z, _⟩
    · exact Or.inr z
    · exact Or.inl z
  rw [e1, e2]
  exact ⟨b, B, Y, hf b B hb, hg Y, f1, g1, h1⟩
theorem msent_both (hw : WRD T L n bg en) (hA : MST T L n bg en j A) (jn : j < n) (hK : KSX T L n bg en j (-1) Z) (hT : TBL P A Z) : OUTM T L n bg en P (j + 1) A Z (qf_X5_readSentence 20000 A) (qf_X14_readSentence 20000 Z) := by
  have nL := hw.2.2.2.1
  have L1 := hw.2.1
  have j0 := hA.2.2.1
  have z22 := hT.2.2.2.2.2.2.1
  obtain ⟨l, el, hl⟩ := letters_K hw hK
  have k1 := ksx_at (t := j + 1) hK (by omega) (by omega)
  have bb : ∀ {α β : Type} (a : α) (f : α → Option β), (some a).bind f = f a := fun _ _ => rfl
  have stK : qf_X14_readSentence 20000 Z = (if l = 178682 then (qf_X14_readZone 20000 (qw Z 2208 10 0 (j + 1))).bind (fun r22 => some ((), r22.2)) else if l = 20577 then (qf_X14_readAct 20000 (qw Z 2208 10 0 (j + 1))).bind (fun r18 => some ((), r18.2)) else if l = 464151 then (if 50 ≤ Z 2208 22 0 then qf_X14_readSentence_J73 20000 0 Z else qf_X14_readSentence_J73 20000 1 Z) else (qf_X14_take 20000 143848 Z).bind (fun r4 => if 0 ≤ (r4.2 2208 11 0) then some ((), r4.2) else (qf_X14_readHold 20000 r4.2).bind (fun r7 => some ((), r7.2)))) := by
    unfold qf_X14_readSentence qbnd
    rw [el, bb, hK.2.1, w32_id (x := j + 1) (by omega) (by omega)]
  have wf : ∀ (b : Int) (X : qm), (b = 0 ∨ b = 1) → (fun r : Int × qm => if (r.1 = 0 ∨ r.1 = 1) then some (r.1, r.2) else none) (b, X) = some (b, X) := fun b X hb => if_pos hb
  have wf2 : ∀ (b : Int) (X : qm), (b = 0 ∨ b = 1) → (fun r : Int × qm => if r.1 = 0 then some ((0 : Int), r.2) else some (1, r.2)) (b, X) = some (b, X) := fun b X hb => by
    rcases hb with rfl | rfl
    · exact if_pos rfl
    · exact if_neg (show ¬ (1 : Int) = 0 by decide)
  rcases skW_C (C := 2054123109) hw hA (by decide) with ⟨gz, B, e1, f1, m1⟩ | ⟨gz, e1⟩
  · rw [if_pos ((hl _ _ (by unfold KNW; omega)).mpr gz)] at stK
    have stC : qf_X5_readSentence 20000 A = (qf_X5_readZone 20000 B).bind (fun r => if (r.1 = 0 ∨ r.1 = 1) then some (r.1, r.2) else none) := by
      unfold qf_X5_readSentence
      rw [e1, bb]
      (try dsimp only)
      rw [if_neg (by decide)]
    rw [stC, stK]
    have tB : TBL P B (qw Z 2208 10 0 (j + 1)) := tbl_o hT (fun b x y z => f1 b x y (by omega)) (fun b x y z => o10 b x y (by omega))
    exact out_f (out_w (zone_both hw m1 k1 tB) wf (fun _ => rfl)) (mfc_x f1) (fr10 o10) (by omega)
  · rw [if_neg (fun y => gz ((hl _ _ (by unfold KNW; omega)).mp y))] at stK
    rcases skW_C (C := 6382452) hw hA (by decide) with ⟨ga, B, e2, f1, m1⟩ | ⟨ga, e2⟩
    · rw [if_pos ((hl _ _ (by unfold KNW; omega)).mpr ga)] at stK
      have stC : qf_X5_readSentence 20000 A = (qf_X5_readAct 20000 B).bind (fun r => if (r.1 = 0 ∨ r.1 = 1) then some (r.1, r.2) else none) := by
        unfold qf_X5_readSentence
        rw [e1, bb]
        (try dsimp only)
        rw [if_pos rfl, e2, bb]
        (try dsimp only)
        rw [if_neg (by decide)]
      rw [stC, stK]
      have tB : TBL P B (qw Z 2208 10 0 (j + 1)) := tbl_o hT (fun b x y z => f1 b x y (by omega)) (fun b x y z => o10 b x y (by omega))
      exact out_f (out_w (act_both hw m1 k1 tB) wf (fun _ => rfl)) (mfc_x f1) (fr10 o10) (by omega)
    · rw [if_neg (fun y => ga ((hl _ _ (by unfold KNW; omega)).mp y))] at stK
      have e3 := isW_C (C := 2003330414) hA (by decide)
      by_cases gw : isW T n bg en j 2003330414
      · rw [if_pos ((hl _ _ (by unfold KNW; omega)).mpr gw), z22] at stK
        rw [b01_t gw] at e3
        have stC : qf_X5_readSentence 20000 A = (if 50 ≤ A 908 12 0 then some (0, A) else (qf_X5_readRow 20000 A).bind (fun r => if r.1 = 0 then some ((0 : Int), r.2) else some (1, r.2))) := by
          unfold qf_X5_readSentence
          rw [e1, bb]
          (try dsimp only)
          rw [if_pos rfl, e2, bb]
          (try dsimp only)
          rw [if_pos rfl, e3, bb]
          (try dsimp only)
          rw [if_neg (by decide)]
        by_cases g5 : 50 ≤ A 908 12 0
        · rw [if_pos g5] at stC stK
          refine ⟨0, A, qw Z 2208 11 0 j, stC, ?_, fun _ _ _ _ _ _ _ => rfl, fr10 o11, Or.inr ⟨rfl, j, j0, hA.2.2.2.2.1, qw_s⟩⟩
          rw [stK]
          unfold qf_X14_readSentence_J73
          rw [want_K hK (Or.inl rfl), if_neg (by decide), if_pos rfl, bb]
          (try dsimp only)
          rw [if_pos rfl]
        · rw [if_neg g5] at stC stK
          have stK2 : qf_X14_readSentence 20000 Z = (qf_X14_readRow 20000 (qw Z 2208 10 0 (j + 1))).bind (fun r14 => some ((), r14.2)) := by
            rw [stK]
            unfold qf_X14_readSentence_J73 qbnd
            rw [want_K hK (Or.inr rfl), if_neg (by decide), if_neg (by decide), bb]
            (try dsimp only)
            rw [if_neg (by decide), hK.2.1, w32_id (x := j + 1) (by omega) (by omega)]
          rw [stC, stK2]
          have tB : TBL P A (qw Z 2208 10 0 (j + 1)) := tbl_o hT (fun _ _ _ _ => rfl) (fun b x y z => o10 b x y (by omega))
          exact out_f (out_w (row_both hw hA jn k1 tB (by omega)) wf2 (fun _ => rfl)) (fun _ _ _ _ _ _ _ => rfl) (fr10 o10) (by omega)
      · rw [if_neg (fun y => gw ((hl _ _ (by unfold KNW; omega)).mp y))] at stK
        rw [b01_f gw] at e3
        have stC : qf_X5_readSentence 20000 A = (qf_X5_skipWord 20000 1752132708 A).bind (fun r8 => if r8.1 = 0 then some (0, r8.2) else (qf_X5_readHold 20000 r8.2).bind (fun r => if r.1 = 0 then some ((0 : Int), r.2) else some (1, r.2))) := by
          unfold qf_X5_readSentence
          rw [e1, bb]
          (try dsimp only)
          rw [if_pos rfl, e2, bb]
          (try dsimp only)
          rw [if_pos rfl, e3, bb]
          (try dsimp only)
          rw [if_pos rfl]
        rcases skW_C (C := 1752132708) hw hA (by decide) with ⟨gh, B, e4, f1, m1⟩ | ⟨gh, e4⟩
        · rcases takeW_K (C := 1752132708) (D := 143848) hw hK (by unfold KNW; omega) (Or.inl rfl) with ⟨_, _, e5, k5⟩ | ⟨_, y, _⟩ | ⟨y, _⟩
          · rw [e4, bb] at stC
            (try dsimp only at stC)
            rw [if_neg (by decide)] at stC
            rw [e5, bb] at stK
            (try dsimp only at stK)
            rw [if_neg (show ¬ 0 ≤ qw Z 2208 10 0 (j + 1) 2208 11 0 by rw [k5.2.2.1]; decide)] at stK
            rw [stC, stK]
            have tB : TBL P B (qw Z 2208 10 0 (j + 1)) := tbl_o hT (fun b x y z => f1 b x y (by omega)) (fun b x y z => o10 b x y (by omega))
            exact out_f (out_w (hold_both hw m1 k1 tB) wf2 (fun _ => rfl)) (mfc_x f1) (fr10 o10) (by omega)
          · exact absurd gh y
          · omega
        · rcases takeW_K (C := 1752132708) (D := 143848) hw hK (by unfold KNW; omega) (Or.inl rfl) with ⟨_, y, _⟩ | ⟨_, _, e5, k5⟩ | ⟨y, _⟩
          · exact absurd y gh
          · rw [e4, bb] at stC
            (try dsimp only at stC)
            rw [if_pos rfl] at stC
            rw [e5, bb] at stK
            (try dsimp only at stK)
            rw [if_pos (show 0 ≤ qw Z 2208 11 0 j 2208 11 0 by rw [qw_s]; exact j0)] at stK
            exact ⟨0, A, qw Z 2208 11 0 j, stC, stK, fun _ _ _ _ _ _ _ => rfl, fr10 o11, Or.inr ⟨rfl, j, j0, hA.2.2.2.2.1, qw_s⟩⟩
          · omega
theorem l48_end (h : X 2208 7 0 ≤ X 2208 10 0 ∨ 0 ≤ X 2208 11 0) : qf_X14_read_L48 20000 (m + 1) X = some (.inr ((), X)) := by
  have b : qf_X14_read_L48_b 20000 X = some (.inl (.inr ((), X))) := by
    unfold qf_X14_read_L48_b
    by_cases g : X 2208 7 0 ≤ X 2208 10 0
    · rw [if_pos g]
    · rw [if_neg g, if_pos (by omega)]
  show qloop _ (m + 1) X = _
  rw [qloop.eq_2]
  (try dsimp only)
  rw [b]
theorem l48_go (e : qf_X14_read_L48_b 20000 Z = some (.inr Y)) : qf_X14_read_L48 20000 (m + 1) Z = qf_X14_read_L48 20000 m Y := by
  show qloop _ (m + 1) Z = _
  rw [qloop.eq_2]
  (try dsimp only)
  rw [e]
  rfl
theorem l25_end {o : (Int × qm) ⊕ (Unit × qm)} (e : qf_X5_readSentences_L25_b 20000 i2 A = some (.inl o)) : qf_X5_readSentences_L25 20000 (m + 1) i2 A = some o := by
  show qloop _ (m + 1) (i2, A) = _
  rw [qloop.eq_2]
  (try dsimp only)
  rw [e]
theorem l25_go (e : qf_X5_readSentences_L25_b 20000 i2 A = some (.inr (p, B))) : qf_X5_readSentences_L25 20000 (m + 1) i2 A = qf_X5_readSentences_L25 20000 m p B := by
  show qloop _ (m + 1) (i2, A) = _
  rw [qloop.eq_2]
  (try dsimp only)
  rw [e]
  rfl
theorem kdM_n : kdM c ≠ 101 := by
  rcases kdM_c (c := c) with ⟨_, z⟩ | ⟨_, z⟩ | ⟨_, z⟩ | ⟨_, z⟩ | ⟨_, _, _, _, z⟩ <;> omega
theorem sents_both (hw : WRD T L n bg en) : ∀ (d : Nat) (j i2 : Int) (A Z : qm) (f g : Nat), n - j ≤ d → d < f → d + 1 < g → 0 ≤ i2 → i2 ≤ j → MST T L n bg en j A → KSX T L n bg en j (-1) Z → TBL P A Z → ∃ A' Z', qf_X14_read_L48 20000 g Z = some (.inr ((), Z')) ∧ MFC A A' ∧ MFK Z Z' ∧ ((qf_X5_readSentences_L25 20000 f i2 A = some (.inl (0, A')) ∧ ∃ w, 0 ≤ w ∧ A' 908 4 0 = w ∧ Z' 2208 11 0 = w) ∨ (qf_X5_readSentences_L25 20000 f i2 A = some (.inr ((), A')) ∧ Z' 2208 11 0 = -1 ∧ TBL P A' Z')) := by
  have nL := hw.2.2.2.1
  have L1 := hw.2.1
  -- at the end
  have fin : ∀ (j i2 : Int) (A Z : qm) (f g : Nat), n ≤ j → MST T L n bg en j A → KSX T L n bg en j (-1) Z → TBL P A Z → ∃ A' Z', qf_X14_read_L48 20000 (g + 1) Z = some (.inr ((), Z')) ∧ MFC A A' ∧ MFK Z Z' ∧ ((qf_X5_readSentences_L25 20000 (f + 1) i2 A = some (.inl (0, A')) ∧ ∃ w, 0 ≤ w ∧ A' 908 4 0 = w ∧ Z' 2208 11 0 = w) ∨ (qf_X5_readSentences_L25 20000 (f + 1) i2 A = some (.inr ((), A')) ∧ Z' 2208 11 0 = -1 ∧ TBL P A' Z')) := fun j i2 A Z f g gj hA hK hT => by
    have k5 := hA.2.2.2.2.2.2.2.1
    rw [if_neg (by omega)] at k5
    refine ⟨A, Z, l48_end (Or.inl (by rw [hK.1, hK.2.1]; exact gj)), fun _ _ _ _ _ _ _ => rfl, fun _ _ _ _ _ _ _ => rfl, Or.inr ⟨l25_end ?_, hK.2.2.1, hT⟩⟩
    unfold qf_X5_readSentences_L25_b
    by_cases g2 : 2000 ≤ i2
    · rw [if_pos g2]
    · rw [if_neg g2, if_pos k5]
  intro d
  induction d with
  | zero =>
    intro j i2 A Z f g d1 d2 d3 i0 ij hA hK hT
    obtain ⟨f', rfl⟩ : ∃ f', f = f' + 1 := ⟨f - 1, by omega⟩
    obtain ⟨g', rfl⟩ : ∃ g', g = g' + 1 := ⟨g - 1, by omega⟩
    exact fin j i2 A Z f' g' (by omega) hA hK hT
  | succ d ih =>
    intro j i2 A Z f g d1 d2 d3 i0 ij hA hK hT
    obtain ⟨f', rfl⟩ : ∃ f', f = f' + 1 := ⟨f - 1, by omega⟩
    obtain ⟨g', rfl⟩ : ∃ g', g = g' + 1 + 1 := ⟨g - 2, by omega⟩
    by_cases gj : n ≤ j
    · exact fin j i2 A Z f' (g' + 1) gj hA hK hT
    · have jn : j < n := by omega
      have k5 := hA.2.2.2.2.2.2.2.1
      rw [if_pos jn] at k5
      have kn : ¬ A 908 5 0 = 101 := by
        rw [k5]
        exact kdM_n
      have stC : qf_X5_readSentences_L25_b 20000 i2 A = (qf_X5_readSentence 20000 A).bind (fun r10 => if r10.1 = 0 then some (.inl (.inl (0, r10.2))) else some (.inr (i2 + 1, r10.2))) := by
        unfold qf_X5_readSentences_L25_b
        rw [if_neg (by omega), if_neg kn, w32_id (x := i2 + 1) (by omega) (by omega)]
      have stK : qf_X14_read_L48_b 20000 Z = (qf_X14_readSentence 20000 Z).bind (fun r15 => some (.inr r15.2)) := by
        unfold qf_X14_read_L48_b
        rw [hK.1, hK.2.1, if_neg gj, if_neg (show ¬ 0 ≤ Z 2208 11 0 by rw [hK.2.2.1]; decide)]
      obtain ⟨b, B, Y, e1, e2, f1, g1, h1⟩ := msent_both hw hA jn hK hT
      rw [e1] at stC
      rw [e2] at stK
      simp only [Option.bind_some] at stC stK
      rcases h1 with ⟨hb, j', q1, q2, q3, q4⟩ | ⟨hb, w, q1, q2, q3⟩
      · rw [hb, if_neg (by decide)] at stC
        have jn' := q2.2.2.2.1
        obtain ⟨A', Z', r1, r2, r3, r4⟩ := ih j' (i2 + 1) B Y f' (g' + 1) (by omega) (by omega) (by omega) (by omega) (by omega) q2 q3 q4
        refine ⟨A', Z', (l48_go stK).trans r1, mfc_t f1 r2, mfk_t g1 r3, ?_⟩
        rw [l25_go stC]
        exact r4
      · rw [hb, if_pos rfl] at stC
        exact ⟨B, Y, (l48_go stK).trans (l48_end (Or.inr (by omega))), f1, g1, Or.inl ⟨l25_end stC, w, q1, q2, q3⟩⟩
end MTk
