/-! ===== the call sentence, whole ===== -/
section SF
variable {M K : qm} {i1 i2 i3 i4 i5 : Int}
theorem sent_both (h_built : R_built M K) (h_mtextn : R_mtextn M K) (h_mtext : R_mtext M K) (hs : sok i1 i2 i3 i4 i5) : ∃ (cs : List Int) (A B : qm), qf_X5_writeSentence 20000 i1 i2 i3 i4 i5 M = some (A 908 2 0, A) ∧ qf_X14_make 20000 i1 i2 i3 i4 i5 (qw K 2156 0 0 0) = some ((), B) ∧ (A 908 2 0 = M 908 1 0 + cs.length ∧ A 6 11 0 = M 6 11 0 ∧ B 2156 1 0 = K 2156 1 0 ∧ B 2208 6 0 = K 2208 6 0 ∧ B 2208 35 0 = cs.length ∧ (cs.length : Int) ≤ 150) ∧ (∀ z, R_mtextn A (qw B 2156 0 0 z) ∧ R_mtext A (qw B 2156 0 0 z)) ∧ (M 908 1 0 + cs.length ≤ 2000 → M 6 11 0 ≠ 0 → ∃ D, qf_X14_say 20000 (qw B 2156 0 0 0) = some (M 908 1 0 + cs.length, D) ∧ D 2156 0 0 = 0 ∧ R_mtextn (qw A 908 1 0 (M 908 1 0 + cs.length)) D ∧ R_mtext (qw A 908 1 0 (M 908 1 0 + cs.length)) D) := by
  have s_mtextn := h_mtextn
  unfold R_mtextn at s_mtextn
  obtain ⟨_, eC, A, rfl, hA⟩ := cTxt (M := M) hs ⟨s_mtextn.1, s_mtextn.2.1⟩
  obtain ⟨r, eM, hR⟩ := rTxt (K := qw K 2156 0 0 0) hs
  obtain ⟨u, B⟩ := r
  have hR : RA (qw (qw K 2156 0 0 0) 2208 35 0 0) (txt i1 i2 i3 i4 i5) 150 B := hR
  have ok := okL_t hs
  have hl := hA.2.1
  have f1 : A 908 2 0 = M 908 1 0 + (txt i1 i2 i3 i4 i5).length := by
    rw [hA.1, wT_n (by decide)]
    rfl
  have f2 : A 6 11 0 = M 6 11 0 := by
    rw [hA.1, wT_o (by decide) (by decide)]
    rfl
  have g1 : B 2156 1 0 = K 2156 1 0 := by
    show (B : qm) 2156 1 0 = _
    rw [hR.1, wT_o (by decide) (by decide)]
    rfl
  have g2 : B 2208 6 0 = K 2208 6 0 := by
    rw [hR.1, wT_S (by decide) (by decide)]
    rfl
  have g3 : B 2208 35 0 = (txt i1 i2 i3 i4 i5).length := by
    rw [hR.1, wT_n (by decide), show (qw (qw K 2156 0 0 0) 2208 35 0 0) 2208 35 0 = 0 from rfl]
    omega
  have g4 : ∀ i j, B 2212 i j = K 2212 i j := by
    intro i j
    rw [hR.1, wT_o (by decide) (by decide)]
    rfl
  have g5 : ∀ i : Int, 0 ≤ i → i < (txt i1 i2 i3 i4 i5).length → B 2234 i 0 = (txt i1 i2 i3 i4 i5).getD i.toNat 0 := by
    intro i a b
    rw [hR.1, wT_T (by decide), show (qw (qw K 2156 0 0 0) 2208 35 0 0) 2208 35 0 = 0 from rfl, if_pos (by omega), show (i - 0).toNat = i.toNat by omega]
  refine ⟨txt i1 i2 i3 i4 i5, A, B, eC, eM, ⟨f1, f2, g1, g2, g3, by omega⟩, fun z => sent_N h_mtextn h_mtext hA (fun i j => (qw_a (by decide)).trans (g4 i j)) ((qw_a (by decide)).trans g2), fun fit hb => ?_⟩
  have e := rSay (B := qw B 2156 0 0 0) (cs := txt i1 i2 i3 i4 i5) ((qw_a (by decide)).trans g3) hl (fun i a b => (qw_a (by decide)).trans (g5 i a b)) (by rw [qw_a (by decide), g2]; omega) (by rw [qw_a (by decide), g2]; omega)
  rw [show (qw B 2156 0 0 0) 2208 6 0 = M 908 1 0 by rw [qw_a (by decide), g2]; omega] at e
  refine ⟨_, e, ?_, ?_⟩
  · rw [wT_o (by decide) (by decide), qw_ap, if_pos ⟨rfl, rfl, rfl⟩]
  · exact sent_T (B := qw B 2156 0 0 0) h_mtextn h_mtext ok hl hA rfl (fun i j => (qw_a (by decide)).trans (g4 i j)) ((qw_a (by decide)).trans g2) rfl fit hb
theorem op_sent0 (h_built : R_built M K) (h_mtextn : R_mtextn M K) (h_mtext : R_mtext M K) : oK2 cI (qf_L_sentence 20000 0 i2 i3 i4 i5 M) (qf_X18_sentence 20000 0 i2 i3 i4 i5 K) (fun M' K' => R_mtextn M' K' ∧ R_mtext M' K') := by
  have s_built := h_built
  unfold R_built at s_built
  have s_mtextn := h_mtextn
  unfold R_mtextn at s_mtextn
  have eN := asn_r (M := M) (i1 := 0) (i2 := i2) (i3 := i3) (i4 := i4) (i5 := i5) (by decide)
  unfold oK2
  by_cases hs : sok 0 i2 i3 i4 i5
  · rw [b01_t hs] at eN
    obtain ⟨cs, A, B, eC, eM, ⟨f1, f2, f3, f4, f5, f6⟩, fN, fT⟩ := sent_both h_built h_mtextn h_mtext hs
    have b2 := hs.2.1
    have b3 : 0 ≤ i3 ∧ i3 ≤ 9999 := hs.2.2.1 (by decide)
    have b4 : 0 ≤ i4 ∧ i4 ≤ 9999 := hs.2.2.2.1 (by decide)
    have b5 : 1 ≤ i5 ∧ i5 ≤ 12 := hs.2.2.2.2.1 (by decide)
    clear hs
    have hw : w32 (B 2208 6 0 + B 2208 35 0) = B 2208 6 0 + B 2208 35 0 := w32_id (by omega) (by omega)
    by_cases fit : M 908 1 0 + cs.length ≤ 2000 ∧ M 6 11 0 ≠ 0
    · obtain ⟨fit1, hb⟩ := fit
      obtain ⟨D, eS, d0, dT⟩ := fT fit1 hb
      have fz : A 908 2 0 = M 908 1 0 + cs.length := f1
      unfold qf_L_sentence qf_X11_sentence qf_X11_sentence_J26 qf_X11_sentence_J27 qf_X11_sentence_J65 qf_X11_sentence_J66 qf_X18_sentence qf_X18_sentence_J24 qf_X18_sentence_J25 qf_X18_sentence_J44 qf_X18_sentence_J62 qf_X18_sentence_J66 qf_X18_sentence_J67 qf_X14_isSaid qf_X18_sentence_J108 qf_X18_sentence_J112 qf_X18_sentence_J113 qf_X18_sentence_J134 qf_X18_sentence_J169 qf_X18_sentence_J170
      repeat' first
        | ((with_reducible refine qW_eq eN ?_); (try dsimp only))
        | ((with_reducible refine qW_eq eC ?_); (try dsimp only))
        | ((with_reducible refine qW_eq eM ?_); (try dsimp only))
        | ((with_reducible refine qW_eq eS ?_); (try dsimp only))
        | with_reducible refine qW_pos (Or.inl trivial) ?_
        | with_reducible refine qW_pos (Or.inr trivial) ?_
        | with_reducible refine qW_within (fun _ => ?_) (fun _ _ => ?_)
        | with_reducible refine qW_isIn (fun _ => ?_) (fun _ _ => ?_)
        | with_reducible refine qW_na (fun _ => ?_) (fun _ => ?_)
        | with_reducible refine qW_ns (fun _ => ?_) (fun _ => ?_)
        | (with_reducible refine qW_goes (fun _ => ?_) (fun _ _ => ?_) (fun _ _ => ?_) <;> (try dsimp only) <;> (try simp only [qw_ap, qfl1_ap, qfl2_ap, qcp1_ap, qcp2_ap, false_and, true_and, and_true, and_false, and_self, if_false, if_true, reduceIte, Nat.reduceEqDiff, Int.reduceEq, Int.reduceNeg]))
        | (with_reducible refine qW_stays (by omega) (fun _ => ?_) (fun _ => ?_) <;> (try dsimp only) <;> (try simp only [qw_ap, qfl1_ap, qfl2_ap, qcp1_ap, qcp2_ap, false_and, true_and, and_true, and_false, and_self, if_false, if_true, reduceIte, Nat.reduceEqDiff, Int.reduceEq, Int.reduceNeg]))
        | (exfalso; omega)
        | with_reducible refine qW_bind ?_
        | (with_reducible refine qW_bnd ?_; try simp only [qw_ap, qfl1_ap, qfl2_ap, qcp1_ap, qcp2_ap, false_and, true_and, and_true, and_false, and_self, if_false, if_true, reduceIte, Nat.reduceEqDiff, Int.reduceEq, Int.reduceNeg])
        | (with_reducible refine qW_some ?_; (try dsimp only); try simp only [qw_ap, qfl1_ap, qfl2_ap, qcp1_ap, qcp2_ap, false_and, true_and, and_true, and_false, and_self, if_false, if_true, reduceIte, Nat.reduceEqDiff, Int.reduceEq, Int.reduceNeg])
        | ((with_reducible refine qW_no ?_); omega)
        | with_reducible refine qW_pos rfl ?_
        | ((with_reducible refine qW_pos ?_ ?_); omega)
        | ((with_reducible refine qW_neg ?_ ?_); (first | omega | decide))
        | with_reducible refine qW_ite (fun _ => ?_) (fun _ => ?_)
        | dsimp only
      all_goals first
        | exact ⟨d0, fun _ => fz, by rw [fz]; exact dT⟩
        | done
    · unfold qf_L_sentence qf_X11_sentence qf_X11_sentence_J26 qf_X11_sentence_J27 qf_X11_sentence_J65 qf_X11_sentence_J66 qf_X18_sentence qf_X18_sentence_J24 qf_X18_sentence_J25 qf_X18_sentence_J44 qf_X18_sentence_J62 qf_X18_sentence_J66 qf_X18_sentence_J67 qf_X14_isSaid qf_X18_sentence_J108 qf_X18_sentence_J112 qf_X18_sentence_J113 qf_X18_sentence_J134 qf_X18_sentence_J169 qf_X18_sentence_J170
      repeat' first
        | ((with_reducible refine qW_eq eN ?_); (try dsimp only))
        | ((with_reducible refine qW_eq eC ?_); (try dsimp only))
        | ((with_reducible refine qW_eq eM ?_); (try dsimp only))
        | with_reducible refine qW_pos (Or.inl trivial) ?_
        | with_reducible refine qW_pos (Or.inr trivial) ?_
        | with_reducible refine qW_within (fun _ => ?_) (fun _ _ => ?_)
        | with_reducible refine qW_isIn (fun _ => ?_) (fun _ _ => ?_)
        | with_reducible refine qW_na (fun _ => ?_) (fun _ => ?_)
        | with_reducible refine qW_ns (fun _ => ?_) (fun _ => ?_)
        | (with_reducible refine qW_goes (fun _ => ?_) (fun _ _ => ?_) (fun _ _ => ?_) <;> (try dsimp only) <;> (try simp only [qw_ap, qfl1_ap, qfl2_ap, qcp1_ap, qcp2_ap, false_and, true_and, and_true, and_false, and_self, if_false, if_true, reduceIte, Nat.reduceEqDiff, Int.reduceEq, Int.reduceNeg]))
        | (with_reducible refine qW_stays (by omega) (fun _ => ?_) (fun _ => ?_) <;> (try dsimp only) <;> (try simp only [qw_ap, qfl1_ap, qfl2_ap, qcp1_ap, qcp2_ap, false_and, true_and, and_true, and_false, and_self, if_false, if_true, reduceIte, Nat.reduceEqDiff, Int.reduceEq, Int.reduceNeg]))
        | (exfalso; omega)
        | with_reducible refine qW_bind ?_
        | (with_reducible refine qW_bnd ?_; try simp only [qw_ap, qfl1_ap, qfl2_ap, qcp1_ap, qcp2_ap, false_and, true_and, and_true, and_false, and_self, if_false, if_true, reduceIte, Nat.reduceEqDiff, Int.reduceEq, Int.reduceNeg])
        | (with_reducible refine qW_some ?_; (try dsimp only); try simp only [qw_ap, qfl1_ap, qfl2_ap, qcp1_ap, qcp2_ap, false_and, true_and, and_true, and_false, and_self, if_false, if_true, reduceIte, Nat.reduceEqDiff, Int.reduceEq, Int.reduceNeg])
        | ((with_reducible refine qW_no ?_); omega)
        | with_reducible refine qW_pos rfl ?_
        | ((with_reducible refine qW_pos ?_ ?_); omega)
        | ((with_reducible refine qW_neg ?_ ?_); (first | omega | decide))
        | with_reducible refine qW_ite (fun _ => ?_) (fun _ => ?_)
        | dsimp only
      all_goals first
        | exact ⟨fun x => absurd x (by decide), fN _⟩
        | done
  · rw [b01_f hs] at eN
    have hs2 : ¬ ((0 ≤ i2 ∧ i2 ≤ 9999) ∧ (0 ≤ i3 ∧ i3 ≤ 9999) ∧ (0 ≤ i4 ∧ i4 ≤ 9999) ∧ (1 ≤ i5 ∧ i5 ≤ 12)) := fun z => hs ⟨by decide, z.1, fun _ => z.2.1, fun _ => z.2.2.1, fun _ => z.2.2.2, fun h => absurd h (by decide)⟩
    clear hs
    unfold qf_L_sentence qf_X11_sentence qf_X11_sentence_J26 qf_X11_sentence_J27 qf_X11_sentence_J65 qf_X11_sentence_J66 qf_X18_sentence qf_X18_sentence_J24 qf_X18_sentence_J25 qf_X18_sentence_J44 qf_X18_sentence_J62 qf_X18_sentence_J66 qf_X18_sentence_J67 qf_X14_isSaid qf_X18_sentence_J108 qf_X18_sentence_J112 qf_X18_sentence_J113 qf_X18_sentence_J134 qf_X18_sentence_J169 qf_X18_sentence_J170
    repeat' first
      | ((with_reducible refine qW_eq eN ?_); (try dsimp only))
      | with_reducible refine qW_pos (Or.inl trivial) ?_
      | with_reducible refine qW_pos (Or.inr trivial) ?_
      | with_reducible refine qW_within (fun _ => ?_) (fun _ _ => ?_)
      | with_reducible refine qW_isIn (fun _ => ?_) (fun _ _ => ?_)
      | with_reducible refine qW_na (fun _ => ?_) (fun _ => ?_)
      | with_reducible refine qW_ns (fun _ => ?_) (fun _ => ?_)
      | (with_reducible refine qW_goes (fun _ => ?_) (fun _ _ => ?_) (fun _ _ => ?_) <;> (try dsimp only) <;> (try simp only [qw_ap, qfl1_ap, qfl2_ap, qcp1_ap, qcp2_ap, false_and, true_and, and_true, and_false, and_self, if_false, if_true, reduceIte, Nat.reduceEqDiff, Int.reduceEq, Int.reduceNeg]))
      | (with_reducible refine qW_stays (by omega) (fun _ => ?_) (fun _ => ?_) <;> (try dsimp only) <;> (try simp only [qw_ap, qfl1_ap, qfl2_ap, qcp1_ap, qcp2_ap, false_and, true_and, and_true, and_false, and_self, if_false, if_true, reduceIte, Nat.reduceEqDiff, Int.reduceEq, Int.reduceNeg]))
      | (exfalso; omega)
      | with_reducible refine qW_bind ?_
      | (with_reducible refine qW_bnd ?_; try simp only [qw_ap, qfl1_ap, qfl2_ap, qcp1_ap, qcp2_ap, false_and, true_and, and_true, and_false, and_self, if_false, if_true, reduceIte, Nat.reduceEqDiff, Int.reduceEq, Int.reduceNeg])
      | (with_reducible refine qW_some ?_; (try dsimp only); try simp only [qw_ap, qfl1_ap, qfl2_ap, qcp1_ap, qcp2_ap, false_and, true_and, and_true, and_false, and_self, if_false, if_true, reduceIte, Nat.reduceEqDiff, Int.reduceEq, Int.reduceNeg])
      | ((with_reducible refine qW_no ?_); omega)
      | with_reducible refine qW_pos rfl ?_
      | ((with_reducible refine qW_pos ?_ ?_); omega)
      | ((with_reducible refine qW_neg ?_ ?_); (first | omega | decide))
      | with_reducible refine qW_ite (fun _ => ?_) (fun _ => ?_)
      | dsimp only
    all_goals first
      | exact ⟨fun x => absurd x (by decide), R_mtextn_x (M := M) (K := K) rfl rfl rfl h_mtextn, R_mtext_x (M := M) (K := K) rfl (fun _ _ => rfl) (fun _ _ => rfl) h_mtext⟩
      | done
theorem op_sent1 (h_built : R_built M K) (h_mtextn : R_mtextn M K) (h_mtext : R_mtext M K) : oK2 cI (qf_L_sentence 20000 1 i2 i3 i4 i5 M) (qf_X18_sentence 20000 1 i2 i3 i4 i5 K) (fun M' K' => R_mtextn M' K' ∧ R_mtext M' K') := by
  have s_built := h_built
  unfold R_built at s_built
  have s_mtextn := h_mtextn
  unfold R_mtextn at s_mtextn
  have eN := asn_r (M := M) (i1 := 1) (i2 := i2) (i3 := i3) (i4 := i4) (i5 := i5) (by decide)
  unfold oK2
  by_cases hs : sok 1 i2 i3 i4 i5
  · rw [b01_t hs] at eN
    obtain ⟨cs, A, B, eC, eM, ⟨f1, f2, f3, f4, f5, f6⟩, fN, fT⟩ := sent_both h_built h_mtextn h_mtext hs
    have b2 := hs.2.1
    have b3 : 0 ≤ i3 ∧ i3 ≤ 9999 := hs.2.2.1 (by decide)
    have b4 : 0 ≤ i4 ∧ i4 ≤ 9999 := hs.2.2.2.1 (by decide)
    have b6 : 0 ≤ i5 ∧ i5 ≤ 9999 := hs.2.2.2.2.2 (by decide)
    clear hs
    have hw : w32 (B 2208 6 0 + B 2208 35 0) = B 2208 6 0 + B 2208 35 0 := w32_id (by omega) (by omega)
    by_cases fit : M 908 1 0 + cs.length ≤ 2000 ∧ M 6 11 0 ≠ 0
    · obtain ⟨fit1, hb⟩ := fit
      obtain ⟨D, eS, d0, dT⟩ := fT fit1 hb
      have fz : A 908 2 0 = M 908 1 0 + cs.length := f1
      unfold qf_L_sentence qf_X11_sentence qf_X11_sentence_J26 qf_X11_sentence_J27 qf_X11_sentence_J65 qf_X11_sentence_J66 qf_X18_sentence qf_X18_sentence_J24 qf_X18_sentence_J25 qf_X18_sentence_J44 qf_X18_sentence_J62 qf_X18_sentence_J66 qf_X18_sentence_J67 qf_X14_isSaid qf_X18_sentence_J108 qf_X18_sentence_J112 qf_X18_sentence_J113 qf_X18_sentence_J134 qf_X18_sentence_J169 qf_X18_sentence_J170
      repeat' first
        | ((with_reducible refine qW_eq eN ?_); (try dsimp only))
        | ((with_reducible refine qW_eq eC ?_); (try dsimp only))
        | ((with_reducible refine qW_eq eM ?_); (try dsimp only))
        | ((with_reducible refine qW_eq eS ?_); (try dsimp only))
        | with_reducible refine qW_pos (Or.inl trivial) ?_
        | with_reducible refine qW_pos (Or.inr trivial) ?_
        | with_reducible refine qW_within (fun _ => ?_) (fun _ _ => ?_)
        | with_reducible refine qW_isIn (fun _ => ?_) (fun _ _ => ?_)
        | with_reducible refine qW_na (fun _ => ?_) (fun _ => ?_)
        | with_reducible refine qW_ns (fun _ => ?_) (fun _ => ?_)
        | (with_reducible refine qW_goes (fun _ => ?_) (fun _ _ => ?_) (fun _ _ => ?_) <;> (try dsimp only) <;> (try simp only [qw_ap, qfl1_ap, qfl2_ap, qcp1_ap, qcp2_ap, false_and, true_and, and_true, and_false, and_self, if_false, if_true, reduceIte, Nat.reduceEqDiff, Int.reduceEq, Int.reduceNeg]))
        | (with_reducible refine qW_stays (by omega) (fun _ => ?_) (fun _ => ?_) <;> (try dsimp only) <;> (try simp only [qw_ap, qfl1_ap, qfl2_ap, qcp1_ap, qcp2_ap, false_and, true_and, and_true, and_false, and_self, if_false, if_true, reduceIte, Nat.reduceEqDiff, Int.reduceEq, Int.reduceNeg]))
        | (exfalso; omega)
        | with_reducible refine qW_bind ?_
        | (with_reducible refine qW_bnd ?_; try simp only [qw_ap, qfl1_ap, qfl2_ap, qcp1_ap, qcp2_ap, false_and, true_and, and_true, and_false, and_self, if_false, if_true, reduceIte, Nat.reduceEqDiff, Int.reduceEq, Int.reduceNeg])
        | (with_reducible refine qW_some ?_; (try dsimp only); try simp only [qw_ap, qfl1_ap, qfl2_ap, qcp1_ap, qcp2_ap, false_and, true_and, and_true, and_false, and_self, if_false, if_true, reduceIte, Nat.reduceEqDiff, Int.reduceEq, Int.reduceNeg])
        | ((with_reducible refine qW_no ?_); omega)
        | with_reducible refine qW_pos rfl ?_
        | ((with_reducible refine qW_pos ?_ ?_); omega)
        | ((with_reducible refine qW_neg ?_ ?_); (first | omega | decide))
        | with_reducible refine qW_ite (fun _ => ?_) (fun _ => ?_)
        | dsimp only
      all_goals first
        | exact ⟨d0, fun _ => fz, by rw [fz]; exact dT⟩
        | done
    · unfold qf_L_sentence qf_X11_sentence qf_X11_sentence_J26 qf_X11_sentence_J27 qf_X11_sentence_J65 qf_X11_sentence_J66 qf_X18_sentence qf_X18_sentence_J24 qf_X18_sentence_J25 qf_X18_sentence_J44 qf_X18_sentence_J62 qf_X18_sentence_J66 qf_X18_sentence_J67 qf_X14_isSaid qf_X18_sentence_J108 qf_X18_sentence_J112 qf_X18_sentence_J113 qf_X18_sentence_J134 qf_X18_sentence_J169 qf_X18_sentence_J170
      repeat' first
        | ((with_reducible refine qW_eq eN ?_); (try dsimp only))
        | ((with_reducible refine qW_eq eC ?_); (try dsimp only))
        | ((with_reducible refine qW_eq eM ?_); (try dsimp only))
        | with_reducible refine qW_pos (Or.inl trivial) ?_
        | with_reducible refine qW_pos (Or.inr trivial) ?_
        | with_reducible refine qW_within (fun _ => ?_) (fun _ _ => ?_)
        | with_reducible refine qW_isIn (fun _ => ?_) (fun _ _ => ?_)
        | with_reducible refine qW_na (fun _ => ?_) (fun _ => ?_)
        | with_reducible refine qW_ns (fun _ => ?_) (fun _ => ?_)
        | (with_reducible refine qW_goes (fun _ => ?_) (fun _ _ => ?_) (fun _ _ => ?_) <;> (try dsimp only) <;> (try simp only [qw_ap, qfl1_ap, qfl2_ap, qcp1_ap, qcp2_ap, false_and, true_and, and_true, and_false, and_self, if_false, if_true, reduceIte, Nat.reduceEqDiff, Int.reduceEq, Int.reduceNeg]))
        | (with_reducible refine qW_stays (by omega) (fun _ => ?_) (fun _ => ?_) <;> (try dsimp only) <;> (try simp only [qw_ap, qfl1_ap, qfl2_ap, qcp1_ap, qcp2_ap, false_and, true_and, and_true, and_false, and_self, if_false, if_true, reduceIte, Nat.reduceEqDiff, Int.reduceEq, Int.reduceNeg]))
        | (exfalso; omega)
        | with_reducible refine qW_bind ?_
        | (with_reducible refine qW_bnd ?_; try simp only [qw_ap, qfl1_ap, qfl2_ap, qcp1_ap, qcp2_ap, false_and, true_and, and_true, and_false, and_self, if_false, if_true, reduceIte, Nat.reduceEqDiff, Int.reduceEq, Int.reduceNeg])
        | (with_reducible refine qW_some ?_; (try dsimp only); try simp only [qw_ap, qfl1_ap, qfl2_ap, qcp1_ap, qcp2_ap, false_and, true_and, and_true, and_false, and_self, if_false, if_true, reduceIte, Nat.reduceEqDiff, Int.reduceEq, Int.reduceNeg])
        | ((with_reducible refine qW_no ?_); omega)
        | with_reducible refine qW_pos rfl ?_
        | ((with_reducible refine qW_pos ?_ ?_); omega)
        | ((with_reducible refine qW_neg ?_ ?_); (first | omega | decide))
        | with_reducible refine qW_ite (fun _ => ?_) (fun _ => ?_)
        | dsimp only
      all_goals first
        | exact ⟨fun x => absurd x (by decide), fN _⟩
        | done
  · rw [b01_f hs] at eN
    have hs2 : ¬ ((0 ≤ i2 ∧ i2 ≤ 9999) ∧ (0 ≤ i3 ∧ i3 ≤ 9999) ∧ (0 ≤ i4 ∧ i4 ≤ 9999) ∧ (0 ≤ i5 ∧ i5 ≤ 9999)) := fun z => hs ⟨by decide, z.1, fun _ => z.2.1, fun _ => z.2.2.1, fun h => absurd h (by decide), fun _ => z.2.2.2⟩
    clear hs
    unfold qf_L_sentence qf_X11_sentence qf_X11_sentence_J26 qf_X11_sentence_J27 qf_X11_sentence_J65 qf_X11_sentence_J66 qf_X18_sentence qf_X18_sentence_J24 qf_X18_sentence_J25 qf_X18_sentence_J44 qf_X18_sentence_J62 qf_X18_sentence_J66 qf_X18_sentence_J67 qf_X14_isSaid qf_X18_sentence_J108 qf_X18_sentence_J112 qf_X18_sentence_J113 qf_X18_sentence_J134 qf_X18_sentence_J169 qf_X18_sentence_J170
    repeat' first
      | ((with_reducible refine qW_eq eN ?_); (try dsimp only))
      | with_reducible refine qW_pos (Or.inl trivial) ?_
      | with_reducible refine qW_pos (Or.inr trivial) ?_
      | with_reducible refine qW_within (fun _ => ?_) (fun _ _ => ?_)
      | with_reducible refine qW_isIn (fun _ => ?_) (fun _ _ => ?_)
      | with_reducible refine qW_na (fun _ => ?_) (fun _ => ?_)
      | with_reducible refine qW_ns (fun _ => ?_) (fun _ => ?_)
      | (with_reducible refine qW_goes (fun _ => ?_) (fun _ _ => ?_) (fun _ _ => ?_) <;> (try dsimp only) <;> (try simp only [qw_ap, qfl1_ap, qfl2_ap, qcp1_ap, qcp2_ap, false_and, true_and, and_true, and_false, and_self, if_false, if_true, reduceIte, Nat.reduceEqDiff, Int.reduceEq, Int.reduceNeg]))
      | (with_reducible refine qW_stays (by omega) (fun _ => ?_) (fun _ => ?_) <;> (try dsimp only) <;> (try simp only [qw_ap, qfl1_ap, qfl2_ap, qcp1_ap, qcp2_ap, false_and, true_and, and_true, and_false, and_self, if_false, if_true, reduceIte, Nat.reduceEqDiff, Int.reduceEq, Int.reduceNeg]))
      | (exfalso; omega)
      | with_reducible refine qW_bind ?_
      | (with_reducible refine qW_bnd ?_; try simp only [qw_ap, qfl1_ap, qfl2_ap, qcp1_ap, qcp2_ap, false_and, true_and, and_true, and_false, and_self, if_false, if_true, reduceIte, Nat.reduceEqDiff, Int.reduceEq, Int.reduceNeg])
      | (with_reducible refine qW_some ?_; (try dsimp only); try simp only [qw_ap, qfl1_ap, qfl2_ap, qcp1_ap, qcp2_ap, false_and, true_and, and_true, and_false, and_self, if_false, if_true, reduceIte, Nat.reduceEqDiff, Int.reduceEq, Int.reduceNeg])
      | ((with_reducible refine qW_no ?_); omega)
      | with_reducible refine qW_pos rfl ?_
      | ((with_reducible refine qW_pos ?_ ?_); omega)
      | ((with_reducible refine qW_neg ?_ ?_); (first | omega | decide))
      | with_reducible refine qW_ite (fun _ => ?_) (fun _ => ?_)
      | dsimp only
    all_goals first
      | exact ⟨fun x => absurd x (by decide), R_mtextn_x (M := M) (K := K) rfl rfl rfl h_mtextn, R_mtext_x (M := M) (K := K) rfl (fun _ _ => rfl) (fun _ _ => rfl) h_mtext⟩
      | done
theorem op_sent2 (h_built : R_built M K) (h_mtextn : R_mtextn M K) (h_mtext : R_mtext M K) : oK2 cI (qf_L_sentence 20000 2 i2 i3 i4 i5 M) (qf_X18_sentence 20000 2 i2 i3 i4 i5 K) (fun M' K' => R_mtextn M' K' ∧ R_mtext M' K') := by
  have s_built := h_built
  unfold R_built at s_built
  have s_mtextn := h_mtextn
  unfold R_mtextn at s_mtextn
  have eN := asn_r (M := M) (i1 := 2) (i2 := i2) (i3 := i3) (i4 := i4) (i5 := i5) (by decide)
  unfold oK2
  by_cases hs : sok 2 i2 i3 i4 i5
  · rw [b01_t hs] at eN
    obtain ⟨cs, A, B, eC, eM, ⟨f1, f2, f3, f4, f5, f6⟩, fN, fT⟩ := sent_both h_built h_mtextn h_mtext hs
    have b2 := hs.2.1
    have b3 : 0 ≤ i3 ∧ i3 ≤ 9999 := hs.2.2.1 (by decide)
    clear hs
    have hw : w32 (B 2208 6 0 + B 2208 35 0) = B 2208 6 0 + B 2208 35 0 := w32_id (by omega) (by omega)
    by_cases fit : M 908 1 0 + cs.length ≤ 2000 ∧ M 6 11 0 ≠ 0
    · obtain ⟨fit1, hb⟩ := fit
      obtain ⟨D, eS, d0, dT⟩ := fT fit1 hb
      have fz : A 908 2 0 = M 908 1 0 + cs.length := f1
      unfold qf_L_sentence qf_X11_sentence qf_X11_sentence_J26 qf_X11_sentence_J27 qf_X11_sentence_J65 qf_X11_sentence_J66 qf_X18_sentence qf_X18_sentence_J24 qf_X18_sentence_J25 qf_X18_sentence_J44 qf_X18_sentence_J62 qf_X18_sentence_J66 qf_X18_sentence_J67 qf_X14_isSaid qf_X18_sentence_J108 qf_X18_sentence_J112 qf_X18_sentence_J113 qf_X18_sentence_J134 qf_X18_sentence_J169 qf_X18_sentence_J170
      repeat' first
        | ((with_reducible refine qW_eq eN ?_); (try dsimp only))
        | ((with_reducible refine qW_eq eC ?_); (try dsimp only))
        | ((with_reducible refine qW_eq eM ?_); (try dsimp only))
        | ((with_reducible refine qW_eq eS ?_); (try dsimp only))
        | with_reducible refine qW_pos (Or.inl trivial) ?_
        | with_reducible refine qW_pos (Or.inr trivial) ?_
        | with_reducible refine qW_within (fun _ => ?_) (fun _ _ => ?_)
        | with_reducible refine qW_isIn (fun _ => ?_) (fun _ _ => ?_)
        | with_reducible refine qW_na (fun _ => ?_) (fun _ => ?_)
        | with_reducible refine qW_ns (fun _ => ?_) (fun _ => ?_)
        | (with_reducible refine qW_goes (fun _ => ?_) (fun _ _ => ?_) (fun _ _ => ?_) <;> (try dsimp only) <;> (try simp only [qw_ap, qfl1_ap, qfl2_ap, qcp1_ap, qcp2_ap, false_and, true_and, and_true, and_false, and_self, if_false, if_true, reduceIte, Nat.reduceEqDiff, Int.reduceEq, Int.reduceNeg]))
        | (with_reducible refine qW_stays (by omega) (fun _ => ?_) (fun _ => ?_) <;> (try dsimp only) <;> (try simp only [qw_ap, qfl1_ap, qfl2_ap, qcp1_ap, qcp2_ap, false_and, true_and, and_true, and_false, and_self, if_false, if_true, reduceIte, Nat.reduceEqDiff, Int.reduceEq, Int.reduceNeg]))
        | (exfalso; omega)
        | with_reducible refine qW_bind ?_
        | (with_reducible refine qW_bnd ?_; try simp only [qw_ap, qfl1_ap, qfl2_ap, qcp1_ap, qcp2_ap, false_and, true_and, and_true, and_false, and_self, if_false, if_true, reduceIte, Nat.reduceEqDiff, Int.reduceEq, Int.reduceNeg])
        | (with_reducible refine qW_some ?_; (try dsimp only); try simp only [qw_ap, qfl1_ap, qfl2_ap, qcp1_ap, qcp2_ap, false_and, true_and, and_true, and_false, and_self, if_false, if_true, reduceIte, Nat.reduceEqDiff, Int.reduceEq, Int.reduceNeg])
        | ((with_reducible refine qW_no ?_); omega)
        | with_reducible refine qW_pos rfl ?_
        | ((with_reducible refine qW_pos ?_ ?_); omega)
        | ((with_reducible refine qW_neg ?_ ?_); (first | omega | decide))
        | with_reducible refine qW_ite (fun _ => ?_) (fun _ => ?_)
        | dsimp only
      all_goals first
        | exact ⟨d0, fun _ => fz, by rw [fz]; exact dT⟩
        | done
    · unfold qf_L_sentence qf_X11_sentence qf_X11_sentence_J26 qf_X11_sentence_J27 qf_X11_sentence_J65 qf_X11_sentence_J66 qf_X18_sentence qf_X18_sentence_J24 qf_X18_sentence_J25 qf_X18_sentence_J44 qf_X18_sentence_J62 qf_X18_sentence_J66 qf_X18_sentence_J67 qf_X14_isSaid qf_X18_sentence_J108 qf_X18_sentence_J112 qf_X18_sentence_J113 qf_X18_sentence_J134 qf_X18_sentence_J169 qf_X18_sentence_J170
      repeat' first
        | ((with_reducible refine qW_eq eN ?_); (try dsimp only))
        | ((with_reducible refine qW_eq eC ?_); (try dsimp only))
        | ((with_reducible refine qW_eq eM ?_); (try dsimp only))
        | with_reducible refine qW_pos (Or.inl trivial) ?_
        | with_reducible refine qW_pos (Or.inr trivial) ?_
        | with_reducible refine qW_within (fun _ => ?_) (fun _ _ => ?_)
        | with_reducible refine qW_isIn (fun _ => ?_) (fun _ _ => ?_)
        | with_reducible refine qW_na (fun _ => ?_) (fun _ => ?_)
        | with_reducible refine qW_ns (fun _ => ?_) (fun _ => ?_)
        | (with_reducible refine qW_goes (fun _ => ?_) (fun _ _ => ?_) (fun _ _ => ?_) <;> (try dsimp only) <;> (try simp only [qw_ap, qfl1_ap, qfl2_ap, qcp1_ap, qcp2_ap, false_and, true_and, and_true, and_false, and_self, if_false, if_true, reduceIte, Nat.reduceEqDiff, Int.reduceEq, Int.reduceNeg]))
        | (with_reducible refine qW_stays (by omega) (fun _ => ?_) (fun _ => ?_) <;> (try dsimp only) <;> (try simp only [qw_ap, qfl1_ap, qfl2_ap, qcp1_ap, qcp2_ap, false_and, true_and, and_true, and_false, and_self, if_false, if_true, reduceIte, Nat.reduceEqDiff, Int.reduceEq, Int.reduceNeg]))
        | (exfalso; omega)
        | with_reducible refine qW_bind ?_
        | (with_reducible refine qW_bnd ?_; try simp only [qw_ap, qfl1_ap, qfl2_ap, qcp1_ap, qcp2_ap, false_and, true_and, and_true, and_false, and_self, if_false, if_true, reduceIte, Nat.reduceEqDiff, Int.reduceEq, Int.reduceNeg])
        | (with_reducible refine qW_some ?_; (try dsimp only); try simp only [qw_ap, qfl1_ap, qfl2_ap, qcp1_ap, qcp2_ap, false_and, true_and, and_true, and_false, and_self, if_false, if_true, reduceIte, Nat.reduceEqDiff, Int.reduceEq, Int.reduceNeg])
        | ((with_reducible refine qW_no ?_); omega)
        | with_reducible refine qW_pos rfl ?_
        | ((with_reducible refine qW_pos ?_ ?_); omega)
        | ((with_reducible refine qW_neg ?_ ?_); (first | omega | decide))
        | with_reducible refine qW_ite (fun _ => ?_) (fun _ => ?_)
        | dsimp only
      all_goals first
        | exact ⟨fun x => absurd x (by decide), fN _⟩
        | done
  · rw [b01_f hs] at eN
    have hs2 : ¬ ((0 ≤ i2 ∧ i2 ≤ 9999) ∧ (0 ≤ i3 ∧ i3 ≤ 9999)) := fun z => hs ⟨by decide, z.1, fun _ => z.2, fun h => absurd h (by decide), fun h => absurd h (by decide), fun h => absurd h (by decide)⟩
    clear hs
    unfold qf_L_sentence qf_X11_sentence qf_X11_sentence_J26 qf_X11_sentence_J27 qf_X11_sentence_J65 qf_X11_sentence_J66 qf_X18_sentence qf_X18_sentence_J24 qf_X18_sentence_J25 qf_X18_sentence_J44 qf_X18_sentence_J62 qf_X18_sentence_J66 qf_X18_sentence_J67 qf_X14_isSaid qf_X18_sentence_J108 qf_X18_sentence_J112 qf_X18_sentence_J113 qf_X18_sentence_J134 qf_X18_sentence_J169 qf_X18_sentence_J170
    repeat' first
      | ((with_reducible refine qW_eq eN ?_); (try dsimp only))
      | with_reducible refine qW_pos (Or.inl trivial) ?_
      | with_reducible refine qW_pos (Or.inr trivial) ?_
      | with_reducible refine qW_within (fun _ => ?_) (fun _ _ => ?_)
      | with_reducible refine qW_isIn (fun _ => ?_) (fun _ _ => ?_)
      | with_reducible refine qW_na (fun _ => ?_) (fun _ => ?_)
      | with_reducible refine qW_ns (fun _ => ?_) (fun _ => ?_)
      | (with_reducible refine qW_goes (fun _ => ?_) (fun _ _ => ?_) (fun _ _ => ?_) <;> (try dsimp only) <;> (try simp only [qw_ap, qfl1_ap, qfl2_ap, qcp1_ap, qcp2_ap, false_and, true_and, and_true, and_false, and_self, if_false, if_true, reduceIte, Nat.reduceEqDiff, Int.reduceEq, Int.reduceNeg]))
      | (with_reducible refine qW_stays (by omega) (fun _ => ?_) (fun _ => ?_) <;> (try dsimp only) <;> (try simp only [qw_ap, qfl1_ap, qfl2_ap, qcp1_ap, qcp2_ap, false_and, true_and, and_true, and_false, and_self, if_false, if_true, reduceIte, Nat.reduceEqDiff, Int.reduceEq, Int.reduceNeg]))
      | (exfalso; omega)
      | with_reducible refine qW_bind ?_
      | (with_reducible refine qW_bnd ?_; try simp only [qw_ap, qfl1_ap, qfl2_ap, qcp1_ap, qcp2_ap, false_and, true_and, and_true, and_false, and_self, if_false, if_true, reduceIte, Nat.reduceEqDiff, Int.reduceEq, Int.reduceNeg])
      | (with_reducible refine qW_some ?_; (try dsimp only); try simp only [qw_ap, qfl1_ap, qfl2_ap, qcp1_ap, qcp2_ap, false_and, true_and, and_true, and_false, and_self, if_false, if_true, reduceIte, Nat.reduceEqDiff, Int.reduceEq, Int.reduceNeg])
      | ((with_reducible refine qW_no ?_); omega)
      | with_reducible refine qW_pos rfl ?_
      | ((with_reducible refine qW_pos ?_ ?_); omega)
      | ((with_reducible refine qW_neg ?_ ?_); (first | omega | decide))
      | with_reducible refine qW_ite (fun _ => ?_) (fun _ => ?_)
      | dsimp only
    all_goals first
      | exact ⟨fun x => absurd x (by decide), R_mtextn_x (M := M) (K := K) rfl rfl rfl h_mtextn, R_mtext_x (M := M) (K := K) rfl (fun _ _ => rfl) (fun _ _ => rfl) h_mtext⟩
      | done
theorem op_sent3 (h_built : R_built M K) (h_mtextn : R_mtextn M K) (h_mtext : R_mtext M K) : oK2 cI (qf_L_sentence 20000 3 i2 i3 i4 i5 M) (qf_X18_sentence 20000 3 i2 i3 i4 i5 K) (fun M' K' => R_mtextn M' K' ∧ R_mtext M' K') := by
  have s_built := h_built
  unfold R_built at s_built
  have s_mtextn := h_mtextn
  unfold R_mtextn at s_mtextn
  have eN := asn_r (M := M) (i1 := 3) (i2 := i2) (i3 := i3) (i4 := i4) (i5 := i5) (by decide)
  unfold oK2
  by_cases hs : sok 3 i2 i3 i4 i5
  · rw [b01_t hs] at eN
    obtain ⟨cs, A, B, eC, eM, ⟨f1, f2, f3, f4, f5, f6⟩, fN, fT⟩ := sent_both h_built h_mtextn h_mtext hs
    have b2 := hs.2.1
    have b3 : 0 ≤ i3 ∧ i3 ≤ 9999 := hs.2.2.1 (by decide)
    have b4 : 0 ≤ i4 ∧ i4 ≤ 9999 := hs.2.2.2.1 (by decide)
    clear hs
    have hw : w32 (B 2208 6 0 + B 2208 35 0) = B 2208 6 0 + B 2208 35 0 := w32_id (by omega) (by omega)
    by_cases fit : M 908 1 0 + cs.length ≤ 2000 ∧ M 6 11 0 ≠ 0
    · obtain ⟨fit1, hb⟩ := fit
      obtain ⟨D, eS, d0, dT⟩ := fT fit1 hb
      have fz : A 908 2 0 = M 908 1 0 + cs.length := f1
      unfold qf_L_sentence qf_X11_sentence qf_X11_sentence_J26 qf_X11_sentence_J27 qf_X11_sentence_J65 qf_X11_sentence_J66 qf_X18_sentence qf_X18_sentence_J24 qf_X18_sentence_J25 qf_X18_sentence_J44 qf_X18_sentence_J62 qf_X18_sentence_J66 qf_X18_sentence_J67 qf_X14_isSaid qf_X18_sentence_J108 qf_X18_sentence_J112 qf_X18_sentence_J113 qf_X18_sentence_J134 qf_X18_sentence_J169 qf_X18_sentence_J170
      repeat' first
        | ((with_reducible refine qW_eq eN ?_); (try dsimp only))
        | ((with_reducible refine qW_eq eC ?_); (try dsimp only))
        | ((with_reducible refine qW_eq eM ?_); (try dsimp only))
        | ((with_reducible refine qW_eq eS ?_); (try dsimp only))
        | with_reducible refine qW_pos (Or.inl trivial) ?_
        | with_reducible refine qW_pos (Or.inr trivial) ?_
        | with_reducible refine qW_within (fun _ => ?_) (fun _ _ => ?_)
        | with_reducible refine qW_isIn (fun _ => ?_) (fun _ _ => ?_)
        | with_reducible refine qW_na (fun _ => ?_) (fun _ => ?_)
        | with_reducible refine qW_ns (fun _ => ?_) (fun _ => ?_)
        | (with_reducible refine qW_goes (fun _ => ?_) (fun _ _ => ?_) (fun _ _ => ?_) <;> (try dsimp only) <;> (try simp only [qw_ap, qfl1_ap, qfl2_ap, qcp1_ap, qcp2_ap, false_and, true_and, and_true, and_false, and_self, if_false, if_true, reduceIte, Nat.reduceEqDiff, Int.reduceEq, Int.reduceNeg]))
        | (with_reducible refine qW_stays (by omega) (fun _ => ?_) (fun _ => ?_) <;> (try dsimp only) <;> (try simp only [qw_ap, qfl1_ap, qfl2_ap, qcp1_ap, qcp2_ap, false_and, true_and, and_true, and_false, and_self, if_false, if_true, reduceIte, Nat.reduceEqDiff, Int.reduceEq, Int.reduceNeg]))
        | (exfalso; omega)
        | with_reducible refine qW_bind ?_
        | (with_reducible refine qW_bnd ?_; try simp only [qw_ap, qfl1_ap, qfl2_ap, qcp1_ap, qcp2_ap, false_and, true_and, and_true, and_false, and_self, if_false, if_true, reduceIte, Nat.reduceEqDiff, Int.reduceEq, Int.reduceNeg])
        | (with_reducible refine qW_some ?_; (try dsimp only); try simp only [qw_ap, qfl1_ap, qfl2_ap, qcp1_ap, qcp2_ap, false_and, true_and, and_true, and_false, and_self, if_false, if_true, reduceIte, Nat.reduceEqDiff, Int.reduceEq, Int.reduceNeg])
        | ((with_reducible refine qW_no ?_); omega)
        | with_reducible refine qW_pos rfl ?_
        | ((with_reducible refine qW_pos ?_ ?_); omega)
        | ((with_reducible refine qW_neg ?_ ?_); (first | omega | decide))
        | with_reducible refine qW_ite (fun _ => ?_) (fun _ => ?_)
        | dsimp only
      all_goals first
        | exact ⟨d0, fun _ => fz, by rw [fz]; exact dT⟩
        | done
    · unfold qf_L_sentence qf_X11_sentence qf_X11_sentence_J26 qf_X11_sentence_J27 qf_X11_sentence_J65 qf_X11_sentence_J66 qf_X18_sentence qf_X18_sentence_J24 qf_X18_sentence_J25 qf_X18_sentence_J44 qf_X18_sentence_J62 qf_X18_sentence_J66 qf_X18_sentence_J67 qf_X14_isSaid qf_X18_sentence_J108 qf_X18_sentence_J112 qf_X18_sentence_J113 qf_X18_sentence_J134 qf_X18_sentence_J169 qf_X18_sentence_J170
      repeat' first
        | ((with_reducible refine qW_eq eN ?_); (try dsimp only))
        | ((with_reducible refine qW_eq eC ?_); (try dsimp only))
        | ((with_reducible refine qW_eq eM ?_); (try dsimp only))
        | with_reducible refine qW_pos (Or.inl trivial) ?_
        | with_reducible refine qW_pos (Or.inr trivial) ?_
        | with_reducible refine qW_within (fun _ => ?_) (fun _ _ => ?_)
        | with_reducible refine qW_isIn (fun _ => ?_) (fun _ _ => ?_)
        | with_reducible refine qW_na (fun _ => ?_) (fun _ => ?_)
        | with_reducible refine qW_ns (fun _ => ?_) (fun _ => ?_)
        | (with_reducible refine qW_goes (fun _ => ?_) (fun _ _ => ?_) (fun _ _ => ?_) <;> (try dsimp only) <;> (try simp only [qw_ap, qfl1_ap, qfl2_ap, qcp1_ap, qcp2_ap, false_and, true_and, and_true, and_false, and_self, if_false, if_true, reduceIte, Nat.reduceEqDiff, Int.reduceEq, Int.reduceNeg]))
        | (with_reducible refine qW_stays (by omega) (fun _ => ?_) (fun _ => ?_) <;> (try dsimp only) <;> (try simp only [qw_ap, qfl1_ap, qfl2_ap, qcp1_ap, qcp2_ap, false_and, true_and, and_true, and_false, and_self, if_false, if_true, reduceIte, Nat.reduceEqDiff, Int.reduceEq, Int.reduceNeg]))
        | (exfalso; omega)
        | with_reducible refine qW_bind ?_
        | (with_reducible refine qW_bnd ?_; try simp only [qw_ap, qfl1_ap, qfl2_ap, qcp1_ap, qcp2_ap, false_and, true_and, and_true, and_false, and_self, if_false, if_true, reduceIte, Nat.reduceEqDiff, Int.reduceEq, Int.reduceNeg])
        | (with_reducible refine qW_some ?_; (try dsimp only); try simp only [qw_ap, qfl1_ap, qfl2_ap, qcp1_ap, qcp2_ap, false_and, true_and, and_true, and_false, and_self, if_false, if_true, reduceIte, Nat.reduceEqDiff, Int.reduceEq, Int.reduceNeg])
        | ((with_reducible refine qW_no ?_); omega)
        | with_reducible refine qW_pos rfl ?_
        | ((with_reducible refine qW_pos ?_ ?_); omega)
        | ((with_reducible refine qW_neg ?_ ?_); (first | omega | decide))
        | with_reducible refine qW_ite (fun _ => ?_) (fun _ => ?_)
        | dsimp only
      all_goals first
        | exact ⟨fun x => absurd x (by decide), fN _⟩
        | done
  · rw [b01_f hs] at eN
    have hs2 : ¬ ((0 ≤ i2 ∧ i2 ≤ 9999) ∧ (0 ≤ i3 ∧ i3 ≤ 9999) ∧ (0 ≤ i4 ∧ i4 ≤ 9999)) := fun z => hs ⟨by decide, z.1, fun _ => z.2.1, fun _ => z.2.2, fun h => absurd h (by decide), fun h => absurd h (by decide)⟩
    clear hs
    unfold qf_L_sentence qf_X11_sentence qf_X11_sentence_J26 qf_X11_sentence_J27 qf_X11_sentence_J65 qf_X11_sentence_J66 qf_X18_sentence qf_X18_sentence_J24 qf_X18_sentence_J25 qf_X18_sentence_J44 qf_X18_sentence_J62 qf_X18_sentence_J66 qf_X18_sentence_J67 qf_X14_isSaid qf_X18_sentence_J108 qf_X18_sentence_J112 qf_X18_sentence_J113 qf_X18_sentence_J134 qf_X18_sentence_J169 qf_X18_sentence_J170
    repeat' first
      | ((with_reducible refine qW_eq eN ?_); (try dsimp only))
      | with_reducible refine qW_pos (Or.inl trivial) ?_
      | with_reducible refine qW_pos (Or.inr trivial) ?_
      | with_reducible refine qW_within (fun _ => ?_) (fun _ _ => ?_)
      | with_reducible refine qW_isIn (fun _ => ?_) (fun _ _ => ?_)
      | with_reducible refine qW_na (fun _ => ?_) (fun _ => ?_)
      | with_reducible refine qW_ns (fun _ => ?_) (fun _ => ?_)
      | (with_reducible refine qW_goes (fun _ => ?_) (fun _ _ => ?_) (fun _ _ => ?_) <;> (try dsimp only) <;> (try simp only [qw_ap, qfl1_ap, qfl2_ap, qcp1_ap, qcp2_ap, false_and, true_and, and_true, and_false, and_self, if_false, if_true, reduceIte, Nat.reduceEqDiff, Int.reduceEq, Int.reduceNeg]))
      | (with_reducible refine qW_stays (by omega) (fun _ => ?_) (fun _ => ?_) <;> (try dsimp only) <;> (try simp only [qw_ap, qfl1_ap, qfl2_ap, qcp1_ap, qcp2_ap, false_and, true_and, and_true, and_false, and_self, if_false, if_true, reduceIte, Nat.reduceEqDiff, Int.reduceEq, Int.reduceNeg]))
      | (exfalso; omega)
      | with_reducible refine qW_bind ?_
      | (with_reducible refine qW_bnd ?_; try simp only [qw_ap, qfl1_ap, qfl2_ap, qcp1_ap, qcp2_ap, false_and, true_and, and_true, and_false, and_self, if_false, if_true, reduceIte, Nat.reduceEqDiff, Int.reduceEq, Int.reduceNeg])
      | (with_reducible refine qW_some ?_; (try dsimp only); try simp only [qw_ap, qfl1_ap, qfl2_ap, qcp1_ap, qcp2_ap, false_and, true_and, and_true, and_false, and_self, if_false, if_true, reduceIte, Nat.reduceEqDiff, Int.reduceEq, Int.reduceNeg])
      | ((with_reducible refine qW_no ?_); omega)
      | with_reducible refine qW_pos rfl ?_
      | ((with_reducible refine qW_pos ?_ ?_); omega)
      | ((with_reducible refine qW_neg ?_ ?_); (first | omega | decide))
      | with_reducible refine qW_ite (fun _ => ?_) (fun _ => ?_)
      | dsimp only
    all_goals first
      | exact ⟨fun x => absurd x (by decide), R_mtextn_x (M := M) (K := K) rfl rfl rfl h_mtextn, R_mtext_x (M := M) (K := K) rfl (fun _ _ => rfl) (fun _ _ => rfl) h_mtext⟩
      | done
theorem op_sent4 (h_built : R_built M K) (h_mtextn : R_mtextn M K) (h_mtext : R_mtext M K) : oK2 cI (qf_L_sentence 20000 4 i2 i3 i4 i5 M) (qf_X18_sentence 20000 4 i2 i3 i4 i5 K) (fun M' K' => R_mtextn M' K' ∧ R_mtext M' K') := by
  have s_built := h_built
  unfold R_built at s_built
  have s_mtextn := h_mtextn
  unfold R_mtextn at s_mtextn
  have eN := asn_r (M := M) (i1 := 4) (i2 := i2) (i3 := i3) (i4 := i4) (i5 := i5) (by decide)
  unfold oK2
  by_cases hs : sok 4 i2 i3 i4 i5
  · rw [b01_t hs] at eN
    obtain ⟨cs, A, B, eC, eM, ⟨f1, f2, f3, f4, f5, f6⟩, fN, fT⟩ := sent_both h_built h_mtextn h_mtext hs
    have b2 := hs.2.1
    clear hs
    have hw : w32 (B 2208 6 0 + B 2208 35 0) = B 2208 6 0 + B 2208 35 0 := w32_id (by omega) (by omega)
    by_cases fit : M 908 1 0 + cs.length ≤ 2000 ∧ M 6 11 0 ≠ 0
    · obtain ⟨fit1, hb⟩ := fit
      obtain ⟨D, eS, d0, dT⟩ := fT fit1 hb
      have fz : A 908 2 0 = M 908 1 0 + cs.length := f1
      unfold qf_L_sentence qf_X11_sentence qf_X11_sentence_J26 qf_X11_sentence_J27 qf_X11_sentence_J65 qf_X11_sentence_J66 qf_X18_sentence qf_X18_sentence_J24 qf_X18_sentence_J25 qf_X18_sentence_J44 qf_X18_sentence_J62 qf_X18_sentence_J66 qf_X18_sentence_J67 qf_X14_isSaid qf_X18_sentence_J108 qf_X18_sentence_J112 qf_X18_sentence_J113 qf_X18_sentence_J134 qf_X18_sentence_J169 qf_X18_sentence_J170
      repeat' first
        | ((with_reducible refine qW_eq eN ?_); (try dsimp only))
        | ((with_reducible refine qW_eq eC ?_); (try dsimp only))
        | ((with_reducible refine qW_eq eM ?_); (try dsimp only))
        | ((with_reducible refine qW_eq eS ?_); (try dsimp only))
        | with_reducible refine qW_pos (Or.inl trivial) ?_
        | with_reducible refine qW_pos (Or.inr trivial) ?_
        | with_reducible refine qW_within (fun _ => ?_) (fun _ _ => ?_)
        | with_reducible refine qW_isIn (fun _ => ?_) (fun _ _ => ?_)
        | with_reducible refine qW_na (fun _ => ?_) (fun _ => ?_)
        | with_reducible refine qW_ns (fun _ => ?_) (fun _ => ?_)
        | (with_reducible refine qW_goes (fun _ => ?_) (fun _ _ => ?_) (fun _ _ => ?_) <;> (try dsimp only) <;> (try simp only [qw_ap, qfl1_ap, qfl2_ap, qcp1_ap, qcp2_ap, false_and, true_and, and_true, and_false, and_self, if_false, if_true, reduceIte, Nat.reduceEqDiff, Int.reduceEq, Int.reduceNeg]))
        | (with_reducible refine qW_stays (by omega) (fun _ => ?_) (fun _ => ?_) <;> (try dsimp only) <;> (try simp only [qw_ap, qfl1_ap, qfl2_ap, qcp1_ap, qcp2_ap, false_and, true_and, and_true, and_false, and_self, if_false, if_true, reduceIte, Nat.reduceEqDiff, Int.reduceEq, Int.reduceNeg]))
        | (exfalso; omega)
        | with_reducible refine qW_bind ?_
        | (with_reducible refine qW_bnd ?_; try simp only [qw_ap, qfl1_ap, qfl2_ap, qcp1_ap, qcp2_ap, false_and, true_and, and_true, and_false, and_self, if_false, if_true, reduceIte, Nat.reduceEqDiff, Int.reduceEq, Int.reduceNeg])
        | (with_reducible refine qW_some ?_; (try dsimp only); try simp only [qw_ap, qfl1_ap, qfl2_ap, qcp1_ap, qcp2_ap, false_and, true_and, and_true, and_false, and_self, if_false, if_true, reduceIte, Nat.reduceEqDiff, Int.reduceEq, Int.reduceNeg])
        | ((with_reducible refine qW_no ?_); omega)
        | with_reducible refine qW_pos rfl ?_
        | ((with_reducible refine qW_pos ?_ ?_); omega)
        | ((with_reducible refine qW_neg ?_ ?_); (first | omega | decide))
        | with_reducible refine qW_ite (fun _ => ?_) (fun _ => ?_)
        | dsimp only
      all_goals first
        | exact ⟨d0, fun _ => fz, by rw [fz]; exact dT⟩
        | done
    · unfold qf_L_sentence qf_X11_sentence qf_X11_sentence_J26 qf_X11_sentence_J27 qf_X11_sentence_J65 qf_X11_sentence_J66 qf_X18_sentence qf_X18_sentence_J24 qf_X18_sentence_J25 qf_X18_sentence_J44 qf_X18_sentence_J62 qf_X18_sentence_J66 qf_X18_sentence_J67 qf_X14_isSaid qf_X18_sentence_J108 qf_X18_sentence_J112 qf_X18_sentence_J113 qf_X18_sentence_J134 qf_X18_sentence_J169 qf_X18_sentence_J170
      repeat' first
        | ((with_reducible refine qW_eq eN ?_); (try dsimp only))
        | ((with_reducible refine qW_eq eC ?_); (try dsimp only))
        | ((with_reducible refine qW_eq eM ?_); (try dsimp only))
        | with_reducible refine qW_pos (Or.inl trivial) ?_
        | with_reducible refine qW_pos (Or.inr trivial) ?_
        | with_reducible refine qW_within (fun _ => ?_) (fun _ _ => ?_)
        | with_reducible refine qW_isIn (fun _ => ?_) (fun _ _ => ?_)
        | with_reducible refine qW_na (fun _ => ?_) (fun _ => ?_)
        | with_reducible refine qW_ns (fun _ => ?_) (fun _ => ?_)
        | (with_reducible refine qW_goes (fun _ => ?_) (fun _ _ => ?_) (fun _ _ => ?_) <;> (try dsimp only) <;> (try simp only [qw_ap, qfl1_ap, qfl2_ap, qcp1_ap, qcp2_ap, false_and, true_and, and_true, and_false, and_self, if_false, if_true, reduceIte, Nat.reduceEqDiff, Int.reduceEq, Int.reduceNeg]))
        | (with_reducible refine qW_stays (by omega) (fun _ => ?_) (fun _ => ?_) <;> (try dsimp only) <;> (try simp only [qw_ap, qfl1_ap, qfl2_ap, qcp1_ap, qcp2_ap, false_and, true_and, and_true, and_false, and_self, if_false, if_true, reduceIte, Nat.reduceEqDiff, Int.reduceEq, Int.reduceNeg]))
        | (exfalso; omega)
        | with_reducible refine qW_bind ?_
        | (with_reducible refine qW_bnd ?_; try simp only [qw_ap, qfl1_ap, qfl2_ap, qcp1_ap, qcp2_ap, false_and, true_and, and_true, and_false, and_self, if_false, if_true, reduceIte, Nat.reduceEqDiff, Int.reduceEq, Int.reduceNeg])
        | (with_reducible refine qW_some ?_; (try dsimp only); try simp only [qw_ap, qfl1_ap, qfl2_ap, qcp1_ap, qcp2_ap, false_and, true_and, and_true, and_false, and_self, if_false, if_true, reduceIte, Nat.reduceEqDiff, Int.reduceEq, Int.reduceNeg])
        | ((with_reducible refine qW_no ?_); omega)
        | with_reducible refine qW_pos rfl ?_
        | ((with_reducible refine qW_pos ?_ ?_); omega)
        | ((with_reducible refine qW_neg ?_ ?_); (first | omega | decide))
        | with_reducible refine qW_ite (fun _ => ?_) (fun _ => ?_)
        | dsimp only
      all_goals first
        | exact ⟨fun x => absurd x (by decide), fN _⟩
        | done
  · rw [b01_f hs] at eN
    have hs2 : ¬ ((0 ≤ i2 ∧ i2 ≤ 9999)) := fun z => hs ⟨by decide, z, fun h => absurd h (by decide), fun h => absurd h (by decide), fun h => absurd h (by decide), fun h => absurd h (by decide)⟩
    clear hs
    unfold qf_L_sentence qf_X11_sentence qf_X11_sentence_J26 qf_X11_sentence_J27 qf_X11_sentence_J65 qf_X11_sentence_J66 qf_X18_sentence qf_X18_sentence_J24 qf_X18_sentence_J25 qf_X18_sentence_J44 qf_X18_sentence_J62 qf_X18_sentence_J66 qf_X18_sentence_J67 qf_X14_isSaid qf_X18_sentence_J108 qf_X18_sentence_J112 qf_X18_sentence_J113 qf_X18_sentence_J134 qf_X18_sentence_J169 qf_X18_sentence_J170
    repeat' first
      | ((with_reducible refine qW_eq eN ?_); (try dsimp only))
      | with_reducible refine qW_pos (Or.inl trivial) ?_
      | with_reducible refine qW_pos (Or.inr trivial) ?_
      | with_reducible refine qW_within (fun _ => ?_) (fun _ _ => ?_)
      | with_reducible refine qW_isIn (fun _ => ?_) (fun _ _ => ?_)
      | with_reducible refine qW_na (fun _ => ?_) (fun _ => ?_)
      | with_reducible refine qW_ns (fun _ => ?_) (fun _ => ?_)
      | (with_reducible refine qW_goes (fun _ => ?_) (fun _ _ => ?_) (fun _ _ => ?_) <;> (try dsimp only) <;> (try simp only [qw_ap, qfl1_ap, qfl2_ap, qcp1_ap, qcp2_ap, false_and, true_and, and_true, and_false, and_self, if_false, if_true, reduceIte, Nat.reduceEqDiff, Int.reduceEq, Int.reduceNeg]))
      | (with_reducible refine qW_stays (by omega) (fun _ => ?_) (fun _ => ?_) <;> (try dsimp only) <;> (try simp only [qw_ap, qfl1_ap, qfl2_ap, qcp1_ap, qcp2_ap, false_and, true_and, and_true, and_false, and_self, if_false, if_true, reduceIte, Nat.reduceEqDiff, Int.reduceEq, Int.reduceNeg]))
      | (exfalso; omega)
      | with_reducible refine qW_bind ?_
      | (with_reducible refine qW_bnd ?_; try simp only [qw_ap, qfl1_ap, qfl2_ap, qcp1_ap, qcp2_ap, false_and, true_and, and_true, and_false, and_self, if_false, if_true, reduceIte, Nat.reduceEqDiff, Int.reduceEq, Int.reduceNeg])
      | (with_reducible refine qW_some ?_; (try dsimp only); try simp only [qw_ap, qfl1_ap, qfl2_ap, qcp1_ap, qcp2_ap, false_and, true_and, and_true, and_false, and_self, if_false, if_true, reduceIte, Nat.reduceEqDiff, Int.reduceEq, Int.reduceNeg])
      | ((with_reducible refine qW_no ?_); omega)
      | with_reducible refine qW_pos rfl ?_
      | ((with_reducible refine qW_pos ?_ ?_); omega)
      | ((with_reducible refine qW_neg ?_ ?_); (first | omega | decide))
      | with_reducible refine qW_ite (fun _ => ?_) (fun _ => ?_)
      | dsimp only
    all_goals first
      | exact ⟨fun x => absurd x (by decide), R_mtextn_x (M := M) (K := K) rfl rfl rfl h_mtextn, R_mtext_x (M := M) (K := K) rfl (fun _ _ => rfl) (fun _ _ => rfl) h_mtext⟩
      | done
theorem op_sentence (h_built : R_built M K) (h_mtextn : R_mtextn M K) (h_mtext : R_mtext M K) : oK2 cI (qf_L_sentence 20000 i1 i2 i3 i4 i5 M) (qf_X18_sentence 20000 i1 i2 i3 i4 i5 K) (fun M' K' => R_mtextn M' K' ∧ R_mtext M' K') := by
  by_cases g : 0 ≤ i1 ∧ i1 ≤ 4
  · have hc : i1 = 0 ∨ i1 = 1 ∨ i1 = 2 ∨ i1 = 3 ∨ i1 = 4 := by omega
    rcases hc with rfl | rfl | rfl | rfl | rfl
    · exact op_sent0 h_built h_mtextn h_mtext
    · exact op_sent1 h_built h_mtextn h_mtext
    · exact op_sent2 h_built h_mtextn h_mtext
    · exact op_sent3 h_built h_mtextn h_mtext
    · exact op_sent4 h_built h_mtextn h_mtext
  · unfold oK2
    unfold qf_L_sentence qf_X11_sentence qf_X11_sentence_J26 qf_X11_sentence_J27 qf_X11_sentence_J65 qf_X11_sentence_J66 qf_X18_sentence qf_X18_sentence_J24 qf_X18_sentence_J25 qf_X18_sentence_J44 qf_X18_sentence_J62 qf_X18_sentence_J66 qf_X18_sentence_J67 qf_X14_isSaid qf_X18_sentence_J108 qf_X18_sentence_J112 qf_X18_sentence_J113 qf_X18_sentence_J134 qf_X18_sentence_J169 qf_X18_sentence_J170
    repeat' first
      | with_reducible refine qW_pos (Or.inl trivial) ?_
      | with_reducible refine qW_pos (Or.inr trivial) ?_
      | with_reducible refine qW_within (fun _ => ?_) (fun _ _ => ?_)
      | with_reducible refine qW_isIn (fun _ => ?_) (fun _ _ => ?_)
      | with_reducible refine qW_na (fun _ => ?_) (fun _ => ?_)
      | with_reducible refine qW_ns (fun _ => ?_) (fun _ => ?_)
      | (with_reducible refine qW_goes (fun _ => ?_) (fun _ _ => ?_) (fun _ _ => ?_) <;> (try dsimp only) <;> (try simp only [qw_ap, qfl1_ap, qfl2_ap, qcp1_ap, qcp2_ap, false_and, true_and, and_true, and_false, and_self, if_false, if_true, reduceIte, Nat.reduceEqDiff, Int.reduceEq, Int.reduceNeg]))
      | (with_reducible refine qW_stays (by omega) (fun _ => ?_) (fun _ => ?_) <;> (try dsimp only) <;> (try simp only [qw_ap, qfl1_ap, qfl2_ap, qcp1_ap, qcp2_ap, false_and, true_and, and_true, and_false, and_self, if_false, if_true, reduceIte, Nat.reduceEqDiff, Int.reduceEq, Int.reduceNeg]))
      | (exfalso; omega)
      | with_reducible refine qW_bind ?_
      | (with_reducible refine qW_bnd ?_; try simp only [qw_ap, qfl1_ap, qfl2_ap, qcp1_ap, qcp2_ap, false_and, true_and, and_true, and_false, and_self, if_false, if_true, reduceIte, Nat.reduceEqDiff, Int.reduceEq, Int.reduceNeg])
      | (with_reducible refine qW_some ?_; (try dsimp only); try simp only [qw_ap, qfl1_ap, qfl2_ap, qcp1_ap, qcp2_ap, false_and, true_and, and_true, and_false, and_self, if_false, if_true, reduceIte, Nat.reduceEqDiff, Int.reduceEq, Int.reduceNeg])
      | ((with_reducible refine qW_no ?_); omega)
      | with_reducible refine qW_pos rfl ?_
      | ((with_reducible refine qW_pos ?_ ?_); omega)
      | ((with_reducible refine qW_neg ?_ ?_); (first | omega | decide))
      | with_reducible refine qW_ite (fun _ => ?_) (fun _ => ?_)
      | dsimp only
    all_goals first
      | exact ⟨fun x => absurd x (by decide), R_mtextn_x (M := M) (K := K) rfl rfl rfl h_mtextn, R_mtext_x (M := M) (K := K) rfl (fun _ _ => rfl) (fun _ _ => rfl) h_mtext⟩
      | done
end SF
