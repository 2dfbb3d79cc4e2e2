section VE
variable {M K N A B C D D0 E F G H T V W K0 M0 : qm} {a b c d k n m p r q' s t u v x y h i j R S w l z hd e : Int} {q stt cnt o f : Int → Int} {P : Int → Prop}
def NUM (M N : qm) : Prop := ∀ v, 0 ≤ v → v < 576 → ((N 759 v 0) = -1 ∧ ∀ k, ¬ DK (CEG M) (-1) v k) ∨ (1 ≤ (N 759 v 0) ∧ DK (CEG M) (-1) v (N 759 v 0))
/-- no cell is farther than there are cells -/
def WLB (N : qm) : Prop := ∀ v, 0 ≤ v → v < 576 → (N 759 v 0) ≤ 577
theorem number_C (h_lines : R_lines M K) (h_ends : R_ends M K) (h_doorn : R_doorn M K) (h_doors : R_doors M K) (h : FNW M K M0 K0 A D0 D E F G H C q m p R stt cnt) (hc : CUR M M0) : qW (qf_X10_numberCells 20000 M) (fun o => SAM M o.2 ∧ NUM M o.2 ∧ WLB o.2) := by
  unfold qf_X10_numberCells
  refine qW_call (first_C h_lines h_ends h_doorn h_doors h hc) ?_
  rintro _ ⟨n0, N0, rfl, hN0, hB0⟩
  (try dsimp only)
  refine qW_call (Q := fun o => ∃ n N, o = .inr ((), N) ∧ SAM M N ∧ BQI M (fun v => (N 759 v 0)) (fun j => (N 760 j 0)) n n 0) ?_ ?_
  · unfold qf_X10_numberCells_L59
    refine qW_loop (fun u => ∃ n hd N, u = (n, hd, N) ∧ SAM M N ∧ 0 ≤ hd ∧ hd ≤ n ∧ n ≤ 576 ∧ BQI M (fun v => (N 759 v 0)) (fun j => (N 760 j 0)) n hd 0) (fun u => (577 - u.2.1).toNat) ?_ 20000 _ ⟨n0, 0, N0, rfl, hN0, by decide, hB0.2.1.1, hB0.2.1.2.1, hB0⟩ (by (try dsimp only); omega)
    rintro _ ⟨n, hd, N, rfl, hN, h0, hn, n5, hB⟩
    unfold qf_X10_numberCells_L59_b
    (try dsimp only)
    by_cases g : n ≤ hd
    · rw [if_pos g]
      have e : hd = n := by omega
      rw [e] at hB
      exact qW_some ⟨n, N, rfl, hN, hB⟩
    · rw [if_neg g]
      refine qW_call (Q := fun o => ∃ n' N', o = .inr (n', N') ∧ SAM M N' ∧ n ≤ n' ∧ BQI M (fun v => (N' 759 v 0)) (fun j => (N' 760 j 0)) n' hd 4) ?_ ?_
      · unfold qf_X10_numberCells_L66
        refine qW_for 4 (fun e u => ∃ n' N', u = (n', hd, e, N') ∧ SAM M N' ∧ n ≤ n' ∧ BQI M (fun v => (N' 759 v 0)) (fun j => (N' 760 j 0)) n' hd e) ?_ ?_ ⟨n, N, rfl, hN, Int.le_refl n, hB⟩ (by decide) (by decide)
        · rintro e _ e0 e1 ⟨n', N', rfl, hN', nn, hB'⟩
          have qh := hB'.2.1.2.2 hd h0 (by omega)
          have n5' := hB'.2.1.2.1
          have kk := fun hk => bqi_k hB' hk
          have ss := fun iv go wv => bqi_s hB' h0 (by omega) e0 (by omega) iv go wv
          (try dsimp only at qh kk ss)
          obtain ⟨U, hU⟩ : ∃ U, (N' 760 hd 0) = U := ⟨_, rfl⟩
          rw [hU] at qh kk ss
          obtain ⟨V, hV⟩ : ∃ V, cb U e = V := ⟨_, rfl⟩
          rw [hV] at kk ss
          have cg := canGo_e h_lines h_ends h_doorn h_doors h hc hN' qh.1 qh.2.1 e0 (show e ≤ 3 by omega)
          unfold qf_X10_numberCells_L66_b
          (try dsimp only)
          rw [if_neg (by omega), if_pos (by omega), hU]
          refine qW_eq (cb_e qh.1 qh.2.1 e0 (by omega)) ?_
          rw [hV]
          refine qW_eq (ins_e hN') ?_
          have stay : (INS M V → GOC M U e → (N' 759 V 0) ≠ -1) → ∃ n'' N'', (n', hd, e + 1, N') = (n'', hd, e + 1, N'') ∧ SAM M N'' ∧ n ≤ n'' ∧ BQI M (fun v => (N'' 759 v 0)) (fun j => (N'' 760 j 0)) n'' hd (e + 1) := fun hk => ⟨n', N', rfl, hN', nn, kk hk⟩
          unfold qf_X10_numberCells_J118 qf_X10_numberCells_J119
          rw [w32_id (x := e + 1) (by omega) (by omega)]
          by_cases g1 : INS M V
          · have v0 := g1.1
            have v1 := g1.2.1
            rw [b01_t g1, if_neg (by decide), if_pos (by omega)]
            by_cases g2 : (N' 759 V 0) = -1
            · rw [if_pos g2]
              by_cases g5 : 576 ≤ n'
              · rw [if_pos g5, if_pos rfl]
                refine qW_some (stay (fun iv go => absurd (ss iv go g2).1 (by omega)))
              · rw [if_neg g5, if_neg (by decide), if_pos (by omega), hU]
                refine qW_eq cg ?_
                by_cases g3 : GOC M U e
                · have s2 := (ss g1 g3 g2).2
                  have w1 : w32 ((N' 759 U 0) + 1) = (N' 759 U 0) + 1 := w32_id (by
                    rcases hB'.1 U qh.1 qh.2.1 with z | z
                    · exact absurd z qh.2.2.1
                    · (try dsimp only at z)
                      omega) (by omega)
                  rw [b01_t g3, if_neg (by decide), if_pos (by omega), if_pos (by omega), if_pos (by omega), w1]
                  refine qW_bnd ?_
                  rw [if_pos (by omega), w32_id (x := n' + 1) (by omega) (by omega)]
                  refine qW_bnd (qW_some ⟨n' + 1, _, rfl, fun b i j b1 b2 => ?_, by omega, bqi_c s2 (fun x => ?_) (fun x => ?_)⟩)
                  · rw [qw_a b2, qw_a b1]
                    exact hN' b i j b1 b2
                  · (try dsimp only)
                    rw [qw_a (by decide), qw_ap]
                    by_cases gx : x = V
                    · rw [if_pos ⟨rfl, gx, rfl⟩, if_pos gx]
                    · rw [if_neg (by omega), if_neg gx]
                  · (try dsimp only)
                    rw [qw_ap]
                    by_cases gx : x = n'
                    · rw [if_pos ⟨rfl, gx, rfl⟩, if_pos gx]
                    · rw [if_neg (by omega), if_neg gx, qw_a (by decide)]
                · rw [b01_f g3, if_pos rfl]
                  exact qW_some (stay (fun _ go => absurd go g3))
            · rw [if_neg g2, if_pos rfl]
              exact qW_some (stay (fun _ _ => g2))
          · rw [b01_f g1, if_pos rfl, if_pos rfl]
            exact qW_some (stay (fun iv => absurd iv g1))
        · rintro _ ⟨n', N', rfl, hN', nn, hB'⟩
          unfold qf_X10_numberCells_L66_b
          (try dsimp only)
          rw [if_pos (by decide)]
          exact qW_some ⟨n', N', rfl, hN', nn, hB'⟩
      · rintro _ ⟨n', N', rfl, hN', nn, hB'⟩
        (try dsimp only)
        rw [w32_id (x := hd + 1) (by omega) (by omega)]
        exact qW_some ⟨⟨n', hd + 1, N', rfl, hN', by omega, by omega, hB'.2.1.2.1, bqi_h hB' h0⟩, by (try dsimp only); omega⟩
  · rintro _ ⟨n, N, rfl, hN, hB⟩
    refine qW_some ⟨hN, fun v v0 v1 => bqi_e hB v0 v1, fun v v0 v1 => ?_⟩
    show (N 759 v 0) ≤ 577
    by_cases g : (N 759 v 0) = -1
    · rw [g]
      decide
    · obtain ⟨j, j0, j1, ej⟩ := hB.2.2.2.1 v v0 v1 g
      have z := (hB.2.1.2.2 j j0 j1).2.2.2
      have y := hB.2.1.2.1
      rw [ej] at z
      (try dsimp only at z)
      omega
end VE
