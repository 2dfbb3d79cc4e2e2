/-! ===== the block program: a second, from its sorting to its end ===== -/
set_option maxHeartbeats 2000000 in
theorem tick_r {M K : qm} {m : Int} (h : PgI M K) (hr : R_rests M K) (hs : R_sorted M K) (hm : m = Int.tmod (K 2235 14 0) 1440) : qW (qf_X9_reckonBlocks 20000 m M) (fun r => qW (qf_X17_tick 20000 K) (fun s => PgI r.2 s.2 ∧ R_rests r.2 s.2 ∧ R_sorted r.2 s.2)) := by
  obtain ⟨h_blocks, h_kinds, h_pq, h_safe, h_outs, h_hand, h_wire, h_row, h_points, h_failed⟩ := h
  unfold qf_X9_reckonBlocks qf_X17_tick
  refine qW2_bind (qW_mono (qW_and (sortC (okC_of h_blocks h_kinds h_wire)) (fr_X9_sortBlocks (M0 := M) Fg_refl)) (fun a ha => qW_mono (qW_and (sortR (okR_of h_blocks h_kinds h_wire)) (fr_X17_sort (M0 := K) Fg_refl)) (fun b hb => ?_)))
  obtain ⟨⟨s1, s2⟩, fa⟩ := ha
  obtain ⟨⟨hF, hS⟩, fb⟩ := hb
  have fa : Fg 121696314531968950614095856402432 M a.2 := fa
  have fb : Fg 782221814912442657127083144349201213843763863167719520244277932552082419109121295174424592384 K b.2 := fb
  have hP : PgI a.2 b.2 := ⟨(R_blocks_x (fa 1003 0 0 rfl) (fb 2235 0 0 rfl) h_blocks), (R_kinds_x (fun i j => Fg_v (a := 1004) (j := i) fa rfl rfl) (fun i j => Fg_v (a := 2236) (j := i) fb rfl rfl) h_kinds), (R_pq_x (fun i j => Fg_v (a := 1005) (j := i) fa rfl rfl) (fun i j => Fg_v (a := 1006) (j := i) fa rfl rfl) (fun i j => Fg_v (a := 2237) (j := i) fb rfl rfl) (fun i j => Fg_v (a := 2238) (j := i) fb rfl rfl) h_pq), (R_safe_x (fun i j => Fg_v (a := 1007) (j := i) fa rfl rfl) (fun i j => Fg_v (a := 2239) (j := i) fb rfl rfl) h_safe), (R_outs_x (fun i j => Fg_v (a := 1049) (j := i) fa rfl rfl) (fun i j => Fg_v (a := 1050) (j := i) fa rfl rfl) (fun i j => Fg_v (a := 2242) (j := i) fb rfl rfl) (fun i j => Fg_v (a := 2243) (j := i) fb rfl rfl) (fun i j => Fg_v (a := 2244) (j := i) fb rfl rfl) h_outs), (R_hand_x (fun i j => Fg_v (a := 1132) (j := i) fa rfl rfl) (fun i j => Fg_v (a := 1133) (j := i) fa rfl rfl) (fun i j => Fg_v (a := 2245) (j := i) fb rfl rfl) (fun i j => Fg_v (a := 2246) (j := i) fb rfl rfl) h_hand), (R_wire_x (fa 1003 0 0 rfl) (fun i j => Fg_v (a := 1008) (j := i) fa rfl rfl) (fun i j => Fg_v (a := 2240) (j := i) fb rfl rfl) h_wire), (R_row_x (fun i j => Fg_v (a := 1091) (j := i) fa rfl rfl) (fun i j => Fg_v (a := 2241) (j := i) fb rfl rfl) h_row), (R_points_x (fun i j => Fg_v (a := 1135) (j := i) fa rfl rfl) (fun i j => Fg_v (a := 2247) (j := i) fb rfl rfl) h_points), (R_failed_x (fun i j => Fg_v (a := 1138) (j := i) fa rfl rfl) (fun i j => Fg_v (a := 2251) (j := i) fb rfl rfl) h_failed)⟩
  have hr2 : R_rests a.2 b.2 := (R_rests_x (fa 1003 18 0 rfl) (fb 2235 18 0 rfl) hr)
  have hsC : a.2 1003 13 0 = 1 ∧ sortedC a.2 := by
    by_cases e : M 1003 13 0 = 0
    · exact s2 e
    · rw [s1 e]
      rcases hs with hs | hs
      · exact absurd hs e
      · exact hs
  have hs2 : R_sorted a.2 b.2 := Or.inr hsC
  have ord := one_order (K := K) (R_blocks_x (fa 1003 0 0 rfl) rfl h_blocks) (R_kinds_x (fun i j => Fg_v (a := 1004) (j := i) fa rfl rfl) (fun _ _ => rfl) h_kinds) (R_wire_x (fa 1003 0 0 rfl) (fun i j => Fg_v (a := 1008) (j := i) fa rfl rfl) (fun _ _ => rfl) h_wire) hsC.2 hS
  have n1 := hP.1.2.1
  have eN := hP.1.2.2
  have er := hr2.1
  rw [eN, er]
  by_cases c1 : a.2 1003 18 0 = 0
  · by_cases c2 : a.2 1003 0 0 ≤ a.2 1003 14 0
    · rw [if_pos c1, if_pos c2, if_neg (by rw [ord.1]; omega), if_pos c1]
      have hq := Srt_all hsC.2.1
      refine qW2_bind (qW2_mono (show qW (qf_X9_reckonBlocks_L25 20000 20000 m 0 a.2) (fun r => qW (qf_X17_tick_L21 20000 20000 0 b.2) (fun w => match r, w with
        | .inr r, .inr w => TkI a.2 b.2 m (m, a.2 1003 0 0, r.2) (a.2 1003 0 0, w.2)
        | _, _ => False)) from qsim (TkI a.2 b.2 m) (fun x => (a.2 1003 0 0 - x.2.1).toNat) (fun x y hI => tick_1 n1 eN (by rw [hm]; exact congrArg (fun x => Int.tmod x 1440) (fb 2235 14 0 rfl).symm) (fun k k0 k1 => ⟨(hq.1 k k0 k1).1, (hq.1 k k0 k1).2, ord.2 k k0 k1⟩) hI) 20000 (m, 0, a.2) (0, b.2) ⟨rfl, rfl, Int.le_refl _, hP.1.1, hP, Fg_refl, Fg_refl, fun k k0 k1 => absurd k1 (by (try dsimp only); omega)⟩ (by (try dsimp only); omega)) (fun r w hrw => ?_))
      rcases r with r | ⟨u, S⟩ <;> rcases w with w | ⟨v, T⟩
      · exact hrw.elim
      · exact hrw.elim
      · exact hrw.elim
      · obtain ⟨-, -, -, -, hP3, hF3, hG3, hh3⟩ := hrw
        (try dsimp only at hP3 hF3 hG3 hh3 ⊢)
        have eS : S 1003 0 0 = a.2 1003 0 0 := hF3 1003 0 0 rfl
        have eT : T 2235 0 0 = S 1003 0 0 := hP3.1.2.2
        refine qW2_bind (qW2_mono (show qW (qf_X9_reckonBlocks_L52 20000 20000 0 S) (fun r => qW (qf_X17_tick_L47 20000 20000 0 T) (fun w => match r, w with
          | .inr r, .inr w => DlI S T (S 1003 0 0, r.2) (S 1003 0 0, w.2)
          | _, _ => False)) from qsim (DlI S T) (fun x => (S 1003 0 0 - x.1).toNat) (fun x y hI => tick_2 (by omega) hI) 20000 (0, S) (0, T) ⟨rfl, Int.le_refl _, hP3.1.1, hP3, Fg_refl, Fg_refl, rfl, eT, fun c c0 c1 x => ?_, fun _ _ => rfl, fun _ _ => rfl, rfl, rfl⟩ (by (try dsimp only); omega)) (fun r w hrw => ?_))
        · obtain ⟨k, k0, k1, k2⟩ := hq.2 c c0 (by omega)
          (try dsimp only at k2)
          rw [← k2] at x ⊢
          exact hh3 k k0 k1 x
        · rcases r with r | ⟨u2, S2⟩ <;> rcases w with w | ⟨v2, T2⟩
          · exact hrw.elim
          · exact hrw.elim
          · exact hrw.elim
          · obtain ⟨-, -, -, hP4, hF4, hG4, eN4, eK4, -, z1, z2, z3, z4⟩ := hrw
            (try dsimp only at hP4 hF4 hG4 eN4 eK4 z1 z2 z3 z4 ⊢)
            have ef := hP4.2.2.2.2.2.2.2.2.2 0 (by decide) (by decide)
            rw [ef]
            obtain ⟨g_blocks, g_kinds, g_pq, g_safe, g_outs, g_hand, g_wire, g_row, g_points, g_failed⟩ := hP4
            have hs4 : ∀ v, R_sorted (qw S2 1003 18 0 v) (qw T2 2235 18 0 v) := by
              intro v
              refine Or.inr ⟨?_, ?_⟩
              · rw [qw_ap, if_neg (by simp), z3]
                exact (hF3 1003 13 0 rfl).trans hsC.1
              · have b0 : qw S2 1003 18 0 v 1003 0 0 = a.2 1003 0 0 := by
                  rw [qw_ap, if_neg (by simp), eN4, eS]
                have b1 : qw S2 1003 18 0 v 1003 14 0 = a.2 1003 14 0 := by
                  rw [qw_ap, if_neg (by simp), z4]
                  exact hF3 1003 14 0 rfl
                have b2 : ∀ i j, qw S2 1003 18 0 v 1004 i j = a.2 1004 i j := fun i j => by
                  rw [qw_ap, if_neg (by simp)]
                  exact (Fg_v (a := 1004) (j := i) hF4 rfl rfl).trans (Fg_v (a := 1004) (j := i) hF3 rfl rfl)
                have b3 : ∀ i j, qw S2 1003 18 0 v 1008 i j = a.2 1008 i j := fun i j => by
                  rw [qw_ap, if_neg (by simp)]
                  exact (Fg_v (a := 1008) (j := i) hF4 rfl rfl).trans (Fg_v (a := 1008) (j := i) hF3 rfl rfl)
                have b4 : ∀ i j, qw S2 1003 18 0 v 1136 i j = a.2 1136 i j := fun i j => by
                  rw [qw_ap, if_neg (by simp), z1]
                  exact Fg_v (a := 1136) (j := i) hF3 rfl rfl
                have b5 : ∀ i j, qw S2 1003 18 0 v 1137 i j = a.2 1137 i j := fun i j => by
                  rw [qw_ap, if_neg (by simp), z2]
                  exact Fg_v (a := 1137) (j := i) hF3 rfl rfl
                simp only [b0, b1, b2, b3, b4, b5]
                exact hsC.2
            have hP5 : ∀ v, PgI (qw S2 1003 18 0 v) (qw T2 2235 18 0 v) := fun v => ⟨(R_blocks_x rfl rfl g_blocks), (R_kinds_x (fun _ _ => rfl) (fun _ _ => rfl) g_kinds), (R_pq_x (fun _ _ => rfl) (fun _ _ => rfl) (fun _ _ => rfl) (fun _ _ => rfl) g_pq), (R_safe_x (fun _ _ => rfl) (fun _ _ => rfl) g_safe), (R_outs_x (fun _ _ => rfl) (fun _ _ => rfl) (fun _ _ => rfl) (fun _ _ => rfl) (fun _ _ => rfl) g_outs), (R_hand_x (fun _ _ => rfl) (fun _ _ => rfl) (fun _ _ => rfl) (fun _ _ => rfl) g_hand), (R_wire_x rfl (fun _ _ => rfl) (fun _ _ => rfl) g_wire), (R_row_x (fun _ _ => rfl) (fun _ _ => rfl) g_row), (R_points_x (fun _ _ => rfl) (fun _ _ => rfl) g_points), (R_failed_x (fun _ _ => rfl) (fun _ _ => rfl) g_failed)⟩
            by_cases c3 : S2 1138 0 0 < 20000
            · rw [if_pos c3, if_pos c3]
              exact qW_bnd (qW_some (qW_bnd (qW_some ⟨hP5 0, ⟨rfl, Or.inl rfl⟩, hs4 0⟩)))
            · rw [if_neg c3, if_neg c3]
              exact qW_bnd (qW_some (qW_bnd (qW_some ⟨hP5 1, ⟨rfl, Or.inr rfl⟩, hs4 1⟩)))
    · rw [if_pos c1, if_neg c2, if_pos (by rw [ord.1]; omega)]
      exact qW_some (qW_some ⟨hP, hr2, hs2⟩)
  · rw [if_neg c1]
    by_cases c2 : b.1 < a.2 1003 0 0
    · rw [if_pos c2]
      exact qW_some (qW_some ⟨hP, hr2, hs2⟩)
    · rw [if_neg c2, if_neg c1]
      exact qW_some (qW_some ⟨hP, hr2, hs2⟩)
