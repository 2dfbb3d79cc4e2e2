/-! ===== the reference makes the same sentence, and says it ===== -/
section TM
variable {β : Type} {M K A : qm} {cs : List Int} {n : Nat} {x v t i1 i2 i3 i4 i5 : Int}
theorem wpa_w (e : byl x 8 = wl 6 t) : wpa x v = (wl 6 t ++ [32]) ++ nd5 v := by
  unfold wpa
  rw [e, List.append_assoc]
  rfl
theorem rEnd {m : Nat} (h : RA M cs m A) (hm : m ≤ 170) : qW (qf_X14_stop 20000 A) (fun r => RA M (cs ++ [59, 32]) (m + 2) r.2) := by
  unfold qf_X14_stop
  refine rL_q h (by omega) (fun B hB => ?_)
  refine rL_q hB (by omega) (fun D hD => ?_)
  refine qW_some ?_
  rw [List.append_assoc] at hD
  exact hD
theorem rTxt (hs : sok i1 i2 i3 i4 i5) : qW (qf_X14_make 20000 i1 i2 i3 i4 i5 K) (fun r => RA (qw K 2208 35 0 0) (txt i1 i2 i3 i4 i5) 150 r.2) := by
  obtain ⟨a1, a2, a3, a4, a5, a6⟩ := hs
  have st : RA (qw K 2208 35 0 0) [] 0 (qw K 2208 35 0 0) := ⟨rfl, Nat.le_refl _, rfl⟩
  have w1 : byl 2054123109 8 = wl 6 178682 := by decide +kernel
  have w2 : byl 474147546227 8 = wl 6 20059310 := by decide +kernel
  have w3 : byl 28518 8 = wl 6 207 := by decide +kernel
  have w4 : byl 6382452 8 = wl 6 20577 := by decide +kernel
  have w5 : byl 1802071652 8 = wl 6 145707 := by decide +kernel
  have w6 : byl 1918987883 8 = wl 6 374834 := by decide +kernel
  have w7 : byl 431198331257 8 = wl 6 26259620 := by decide +kernel
  have w8 : byl 2003330414 8 = wl 6 464151 := by decide +kernel
  have w9 : byl 1685022067 8 = wl 6 628196 := by decide +kernel
  have wa : byl 38 8 = [38] := by decide +kernel
  have wb : byl 1752132708 8 = wl 6 143848 := by decide +kernel
  have pk : ∀ {c d : List Int} {m : Nat} {B : qm}, RA (qw K 2208 35 0 0) c m B → m ≤ 140 → d = c ++ [59, 32] → qW ((qf_X14_stop 20000 B).bind (fun r => some ((), r.2))) (fun a => qW (some ((), a.2)) (fun r => RA (qw K 2208 35 0 0) d 150 r.2)) := by
    intro c d m B h hm e
    refine qW_bind (qW_mono (rEnd h (by omega)) ?_)
    intro r hr
    rw [e]
    exact qW_some (qW_some ⟨hr.1, by have := hr.2.1; omega, hr.2.2⟩)
  unfold qf_X14_make qf_X14_sentence qf_X14_sentence_J33 txt
  refine qW_bnd ?_
  (try dsimp only)
  refine qW_bind ?_
  by_cases g0 : i1 = 0
  · rw [if_pos g0, if_pos g0]
    have b3 := a3 (by omega)
    have b4 := a4 (by omega)
    have b5 := a5 g0
    refine rW_q st (by decide) (by decide) (by decide) (fun B hB => ?_)
    refine rN_q hB (by decide) (by omega) (by omega) (fun B hB => ?_)
    (try dsimp only)
    rw [if_pos g0]
    refine rW_q hB (by decide) (by decide) (by decide) (fun B hB => ?_)
    refine rN_q hB (by decide) (by omega) (by omega) (fun B hB => ?_)
    refine rW_q hB (by decide) (by decide) (by decide) (fun B hB => ?_)
    refine qW_call (Q := fun o => ∃ D, o = .inr ((), D) ∧ RA (qw K 2208 35 0 0) ((wpa 2054123109 i2 ++ wpa 474147546227 i3) ++ (byl 28518 8 ++ 32 :: nums i4 i5.toNat)) 120 D) ?_ ?_
    · unfold qf_X14_sentence_L66
      refine qW_for i5 (fun i s => ∃ D, s = (i4, i5, i, D) ∧ RA (qw K 2208 35 0 0) ((wpa 2054123109 i2 ++ wpa 474147546227 i3) ++ (byl 28518 8 ++ 32 :: nums i4 i.toNat)) (40 + 6 * i.toNat) D) ?_ ?_ ?_ (by omega) (by omega)
      · rintro i _ i0 i1 ⟨D, rfl, hD⟩
        unfold qf_X14_sentence_L66_b
        (try dsimp only)
        rw [if_neg (by omega), w32_id (x := i4 + i) (by omega) (by omega), w32_id (x := i + 1) (by omega) (by omega)]
        refine rN_q hD (by omega) (by omega) (by omega) (fun E hE => ?_)
        refine qW_some ⟨E, rfl, ?_⟩
        have e : (i + 1).toNat = i.toNat + 1 := by omega
        have e2 : nums i4 (i + 1).toNat = nums i4 i.toNat ++ nd5 (i4 + i) := by
          rw [e]
          show nums i4 i.toNat ++ nd5 (i4 + (i.toNat : Int)) = _
          rw [show ((i.toNat : Nat) : Int) = i by omega]
        rw [e2, e, show (40 + 6 * (i.toNat + 1)) = 40 + 6 * i.toNat + 6 by omega]
        simp only [List.append_assoc, List.cons_append] at hE ⊢
        exact hE
      · rintro _ ⟨D, rfl, hD⟩
        unfold qf_X14_sentence_L66_b
        (try dsimp only)
        rw [if_pos (by omega)]
        exact qW_some ⟨D, rfl, hD.1, by have := hD.2.1; omega, hD.2.2⟩
      · refine ⟨B, rfl, ?_⟩
        rw [wpa_w w1, wpa_w w2, w3]
        refine ⟨?_, ?_, hB.2.2⟩
        · rw [hB.1]
          refine congrArg (fun z => wT 2234 2208 35 z (qw K 2208 35 0 0)) ?_
          simp only [List.append_assoc, List.nil_append, List.cons_append]
          rfl
        · have q := hB.2.1
          simp only [List.length_append, List.length_cons, List.length_nil] at q ⊢
          have z : (nums i4 (Int.toNat 0)).length = 0 := rfl
          omega
    · rintro _ ⟨D, rfl, hD⟩
      (try dsimp only)
      exact pk hD (by decide) (by simp only [List.append_assoc, List.cons_append])
  · by_cases g1 : i1 = 1
    · rw [if_neg g0, if_pos g1, if_neg g0, if_pos g1]
      have b3 := a3 (by omega)
      have b4 := a4 (by omega)
      have b6 := a6 g1
      refine rW_q st (by decide) (by decide) (by decide) (fun B hB => ?_)
      refine rN_q hB (by decide) (by omega) (by omega) (fun B hB => ?_)
      (try dsimp only)
      rw [if_neg g0, if_pos g1]
      refine rW_q hB (by decide) (by decide) (by decide) (fun B hB => ?_)
      refine rN_q hB (by decide) (by omega) (by omega) (fun B hB => ?_)
      refine rW_q hB (by decide) (by decide) (by decide) (fun B hB => ?_)
      refine rN_q hB (by decide) (by omega) (by omega) (fun B hB => ?_)
      refine rW_q hB (by decide) (by decide) (by decide) (fun B hB => ?_)
      refine rN_q hB (by decide) (by omega) (by omega) (fun B hB => ?_)
      rw [wpa_w w4, wpa_w w5, wpa_w w6, wpa_w w7]
      exact pk hB (by decide) (by simp only [List.append_assoc, List.nil_append])
    · by_cases g4 : i1 = 4
      · rw [if_neg g0, if_neg g1, if_pos g4, if_neg g0, if_neg g1, if_neg (show ¬ i1 = 2 by omega), if_neg (show ¬ i1 = 3 by omega)]
        refine rW_q st (by decide) (by decide) (by decide) (fun B hB => ?_)
        refine rN_q hB (by decide) (by omega) (by omega) (fun B hB => ?_)
        (try dsimp only)
        rw [if_neg g0, if_neg g1, if_neg (show ¬ i1 = 2 by omega), if_neg (show ¬ i1 = 3 by omega)]
        rw [wpa_w wb]
        exact pk hB (by decide) (by simp only [List.append_assoc, List.nil_append])
      · have b3 := a3 (by omega)
        rw [if_neg g0, if_neg g1, if_neg g4, if_neg g0, if_neg g1]
        refine rW_q st (by decide) (by decide) (by decide) (fun B hB => ?_)
        refine rN_q hB (by decide) (by omega) (by omega) (fun B hB => ?_)
        (try dsimp only)
        unfold qf_X14_sentence_J144 qf_X14_sentence_J166 qf_X14_sentence_J184
        rw [if_neg g0, if_neg g1]
        by_cases g2 : i1 = 2
        · rw [if_pos g2, if_pos g2, if_neg (show ¬ i1 = 3 by omega)]
          refine rW_q hB (by decide) (by decide) (by decide) (fun B hB => ?_)
          rw [if_pos g2]
          refine rN_q hB (by decide) (by omega) (by omega) (fun B hB => ?_)
          rw [wpa_w w8, wpa_w w9]
          exact pk hB (by decide) (by simp only [List.append_assoc, List.nil_append])
        · have g3 : i1 = 3 := by omega
          have b4 := a4 (by omega)
          rw [if_neg g2, if_neg g2, if_pos g3, if_pos g3, if_pos g3]
          refine rL_q hB (by decide) (fun B hB => ?_)
          refine rL_q hB (by decide) (fun B hB => ?_)
          refine rN_q hB (by decide) (by omega) (by omega) (fun B hB => ?_)
          refine rW_q hB (by decide) (by decide) (by decide) (fun B hB => ?_)
          rw [if_neg g2]
          refine rN_q hB (by decide) (by omega) (by omega) (fun B hB => ?_)
          have e38 : wpa 38 i3 = [38] ++ ([32] ++ nd5 i3) := by
            unfold wpa
            rw [wa]
            rfl
          rw [wpa_w w8, wpa_w w9, e38]
          exact pk hB (by decide) (by simp only [List.append_assoc, List.nil_append])
end TM
