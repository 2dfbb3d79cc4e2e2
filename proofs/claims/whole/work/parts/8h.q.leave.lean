/-! ===== passing: the row of turns (class), the loop ===== -/
section PSq
variable {M K N V V0 : qm} {a c d e i j k l n m p r s t u v x y z τ : Int}
theorem psc_o (h : psC M) (hV : SUR M V) : psC V := by
  have e : V 756 7 0 = M 756 7 0 := hV _ _ _ (by decide)
  have h61 : ∀ x y, V 761 x y = M 761 x y := fun x y => hV _ _ _ (by decide)
  unfold psC at h ⊢
  simp only [h61, e]
  exact h
theorem line_C (h : psC M) : ∃ n V, qf_X10_lineUp 20000 τ M = some (n, V) ∧ LIN M V τ (M 756 7 0) n := by
  obtain ⟨o, e1, n, V, rfl, h1⟩ : qW (qf_X10_lineUp_L4 20000 20000 τ 0 0 M) (fun o => ∃ n V, o = .inr (n, V) ∧ LIN M V τ (M 756 7 0) n) := by
    have hp0 := h.1
    have hp1 := h.2.1
    unfold qf_X10_lineUp_L4
    refine qW_for (M 756 7 0) (fun i s => ∃ n V, s = (τ, n, i, V) ∧ LIN M V τ i n) ?_ ?_ ⟨0, M, rfl, Int.le_refl _, Int.le_refl _, fun _ _ _ _ => rfl, fun k k0 k1 => by omega, fun p p0 p1 => by omega, fun j k j0 j1 j2 => by omega⟩ (by omega) (by omega)
    · rintro i _ i0 i1 ⟨n, V, rfl, hL⟩
      have hV : SUR M V := hL.2.2.1
      have w1 : w32 (i + 1) = i + 1 := w32_id (by omega) (by omega)
      have ep : V 756 7 0 = M 756 7 0 := hV _ _ _ (by decide)
      have e1 : V 761 i 1 = M 761 i 1 := hV _ _ _ (by decide)
      have e3 : V 761 i 3 = M 761 i 3 := hV _ _ _ (by decide)
      have e5 : V 761 i 5 = M 761 i 5 := hV _ _ _ (by decide)
      have e7 : V 761 i 7 = M 761 i 7 := hV _ _ _ (by decide)
      have fi := isFreeInside_r (psc_o h hV) i0 (show i < V 756 7 0 by omega)
      rw [e1, e3] at fi
      have no : ¬ GOE M τ i → LIN M V τ (i + 1) n := fun ng => ⟨hL.1, by have := hL.2.1; omega, hV, fun k k0 k1 => by
        have z := hL.2.2.2.1 k k0 k1
        exact ⟨z.1, by omega, z.2.2⟩, fun p p0 p1 hp => by
        by_cases e : p = i
        · rw [e] at hp
          exact absurd hp ng
        · exact hL.2.2.2.2.1 p p0 (by omega) hp, hL.2.2.2.2.2⟩
      show qW (qf_X10_lineUp_L4_b 20000 τ n i V) _
      unfold qf_X10_lineUp_L4_b
      rw [ep, if_neg (show ¬ M 756 7 0 ≤ i by omega), if_pos (show 0 ≤ i ∧ i < 40 by omega), e5, e7, w1]
      refine qW_eq fi ?_
      by_cases g : M 761 i 1 ≠ -1 ∧ M 761 i 3 = -1
      · rw [if_pos g, if_neg (show ¬ (1 : Int) = 0 by decide)]
        by_cases g2 : w32 (τ - M 761 i 5) < M 761 i 7
        · rw [if_pos g2]
          exact qW_some ⟨n, V, rfl, no (fun w => by have := w.2; omega)⟩
        · rw [if_neg g2]
          have hg : GOE M τ i := ⟨g, by omega⟩
          have ur : ∀ q, 0 ≤ q → q < M 756 7 0 → M 761 q 1 ≠ -1 → ∀ W, SUR M W → qf_X10_urgencyOf 20000 q W = some (URG M q) := fun q q0 q1 qn W hW => by
            have pb := (h.2.2 q q0 q1).resolve_left qn
            exact urg_C hW q0 (by omega) pb.1 pb.2.1 pb.2.2.1 pb.2.2.2
          have ins := ins_C (M := M) (V0 := V) (p := i) (n := n) (τ := τ) (fun W hW k k0 k1 => by
            have z := hL.2.2.2.1 k k0 k1
            exact ur _ z.1 (by omega) z.2.2.1.1 W hW) (fun W hW => ur i i0 i1 g.1 W hW) hV hL.1 (by have := hL.2.1; omega)
          refine qW_call ins ?_
          rintro r hr
          obtain ⟨j, V1, rfl, _⟩ := id hr
          obtain ⟨l1, l2, l3⟩ := lin_put hL hg i0 hr
          have b2 := hL.2.1
          (try dsimp only)
          unfold qf_X10_lineUp_J93
          rw [if_pos (show 0 ≤ j ∧ j < 40 by omega), w1, w32_id (x := n + 1) (by omega) (by omega)]
          refine qW_bnd ?_
          exact qW_some ⟨n + 1, _, rfl, l1⟩
      · rw [if_neg g, if_pos rfl]
        exact qW_some ⟨n, V, rfl, no (fun w => g w.1)⟩
    · rintro _ ⟨n, V, rfl, hL⟩
      have ep : V 756 7 0 = M 756 7 0 := hL.2.2.1 _ _ _ (by decide)
      show qW (qf_X10_lineUp_L4_b 20000 τ n (M 756 7 0) V) _
      unfold qf_X10_lineUp_L4_b
      rw [ep, if_pos (Int.le_refl _)]
      exact qW_some ⟨n, V, rfl, hL⟩
  refine ⟨n, V, ?_, h1⟩
  unfold qf_X10_lineUp
  rw [e1]
  rfl
end PSq
