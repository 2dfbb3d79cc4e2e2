/-! ===== the calls order and out ===== -/
section PTh
variable {M K : qm} {x1 x2 p b n : Int}
theorem sorted_t (hs : R_sorted M K) {a : qm} (s : (M 1003 13 0 ≠ 0 → a = M) ∧ (M 1003 13 0 = 0 → a 1003 13 0 = 1 ∧ sortedC a)) : a 1003 13 0 = 1 ∧ sortedC a := by
  by_cases e : M 1003 13 0 = 0
  · exact s.2 e
  · rw [s.1 e]
    rcases hs with hs | hs
    · exact absurd hs e
    · exact hs
theorem sort_both (h_blocks : R_blocks M K) (h_kinds : R_kinds M K) (h_wire : R_wire M K) (h_sorted : R_sorted M K) : ∃ A B m, qf_X9_sortBlocks 20000 M = some ((), A) ∧ qf_X17_sort 20000 K = some (m, B) ∧ A 1003 13 0 = 1 ∧ sortedC A ∧ m = A 1003 14 0 ∧ (∀ k, 0 ≤ k → k < A 1003 0 0 → B 2249 k 0 = A 1136 k 0) ∧ Fg 121696314531968950614095856402432 M A ∧ Fg 782221814912442657127083144349201213843763863167719520244277932552082419109121295174424592384 K B := by
  obtain ⟨⟨_, A⟩, e1, s⟩ := sortC (okC_of h_blocks h_kinds h_wire)
  obtain ⟨⟨m, B⟩, e2, hF, hS⟩ := sortR (okR_of h_blocks h_kinds h_wire)
  (try dsimp only at s hF hS)
  have f1 : Fg 121696314531968950614095856402432 M A := fr_X9_sortBlocks (M0 := M) Fg_refl _ e1
  have f2 : Fg 782221814912442657127083144349201213843763863167719520244277932552082419109121295174424592384 K B := fr_X17_sort (M0 := K) Fg_refl _ e2
  have hsC := sorted_t h_sorted s
  have ord := one_order (M := A) (K := K) (R_blocks_x (f1 1003 0 0 rfl) rfl h_blocks) (R_kinds_x (fun i j => Fg_v (a := 1004) (j := i) f1 rfl rfl) (fun _ _ => rfl) h_kinds) (R_wire_x (f1 1003 0 0 rfl) (fun i j => Fg_v (a := 1008) (j := i) f1 rfl rfl) (fun _ _ => rfl) h_wire) hsC.2 hS
  exact ⟨A, B, m, e1, e2, hsC.1, hsC.2, ord.1, ord.2, f1, f2⟩
theorem sorted_w {A B Z : qm} {v : Int} (h : R_sorted A Z) : R_sorted (qw A 2332 0 0 v) B := by
  have o : ∀ e x y, e ≠ 2332 → (qw A 2332 0 0 v) e x y = A e x y := fun e x y g => qw_a g
  exact R_sorted_x (M := A) (K := Z) (o 1003 0 0 (by decide)) (o 1003 13 0 (by decide)) (o 1003 14 0 (by decide)) (fun i j => o 1004 i j (by decide)) (fun i j => o 1008 i j (by decide)) (fun i j => o 1136 i j (by decide)) (fun i j => o 1137 i j (by decide)) h
theorem op_order (h_built : R_built M K) (h_blocks : R_blocks M K) (h_kinds : R_kinds M K) (h_wire : R_wire M K) (h_sorted : R_sorted M K) : oK2 cI (qf_L_order 20000 M) (qf_X18_order 20000 K) (fun M' K' => R_sorted M' K') := by
  have s_built := h_built
  unfold R_built at s_built
  have bb : ∀ {α β : Type} (a : α) (f : α → Option β), (some a).bind f = f a := fun _ _ => rfl
  by_cases g : M 6 11 0 = 0
  · have z : qf_L_order 20000 M = some (1, M) := by
      unfold qf_L_order qf_X11_order qf_X11_needState
      rw [if_pos g]
      rfl
    have t : qf_X18_order 20000 K = some (0, qw K 2156 0 0 1) := by
      have k1 : K 2156 1 0 = 0 := by omega
      unfold qf_X18_order qf_X18_stays qbnd
      rw [k1, if_pos rfl]
      (try dsimp only)
      rw [if_pos (Or.inl rfl), bb]
      (try dsimp only)
      rw [if_pos rfl]
    refine qW_at z (qW_at t ⟨(show qw K 2156 0 0 1 2156 0 0 = 1 from qw_s), fun y => absurd (show (1 : Int) = 0 from y) (by decide), ?_⟩)
    exact R_sorted_x (M := M) (K := K) rfl rfl rfl (fun _ _ => rfl) (fun _ _ => rfl) (fun _ _ => rfl) (fun _ _ => rfl) h_sorted
  · obtain ⟨A, B, m, e1, e2, a1, a2, a3, a4, f1, f2⟩ := sort_both (M := M) (K := qw K 2156 0 0 0) (R_blocks_x (M := M) (K := K) rfl rfl h_blocks) (R_kinds_x (M := M) (K := K) (fun _ _ => rfl) (fun _ _ => rfl) h_kinds) (R_wire_x (M := M) (K := K) rfl (fun _ _ => rfl) (fun _ _ => rfl) h_wire) (R_sorted_x (M := M) (K := K) rfl rfl rfl (fun _ _ => rfl) (fun _ _ => rfl) (fun _ _ => rfl) (fun _ _ => rfl) h_sorted)
    have z : qf_L_order 20000 M = some (0, qw A 2332 0 0 (A 1003 14 0)) := by
      unfold qf_L_order qf_X11_order qf_X11_needState
      rw [if_neg g, bb]
      (try dsimp only)
      rw [e1, bb, bb]
      rfl
    have t : qf_X18_order 20000 K = some (m, B) := by
      unfold qf_X18_order
      rw [show qf_X18_stays 20000 (K 2156 1 0) K = some (1, qw K 2156 0 0 0) by
        have k1 : K 2156 1 0 = 1 := by omega
        unfold qf_X18_stays qbnd
        rw [k1, if_neg (by decide)]
        (try dsimp only)
        rw [if_pos (Or.inr rfl)], bb]
      (try dsimp only)
      rw [if_neg (by decide), e2, bb]
    refine qW_at z (qW_at t ⟨(f2 2156 0 0 rfl).trans qw_s, fun _ => (show qw A 2332 0 0 (A 1003 14 0) 2332 0 0 = m from qw_s.trans a3.symm), ?_⟩)
    exact sorted_w (Z := K) (Or.inr ⟨a1, a2⟩)
/-- the place of a block in the reference's order -/
theorem place_r (n1 : n ≤ 40) (p0 : 0 ≤ p) (p1 : p < n) (hp : K 2249 p 0 = b) (hd : ∀ j, 0 ≤ j → j < p → K 2249 j 0 ≠ b) : qW (qf_X17_place_L7 20000 20000 b 0 K) (fun o => o = .inr p) := by
  unfold qf_X17_place_L7
  refine qW_for p (fun i s => s = (b, i)) ?_ ?_ rfl p0 (by omega)
  · rintro i _ i0 i1 rfl
    show qW (qf_X17_place_L7_b 20000 b i K) _
    unfold qf_X17_place_L7_b
    rw [if_pos (show 0 ≤ i ∧ i < 40 by omega), if_neg (hd i i0 i1), w32_id (x := i + 1) (by omega) (by omega)]
    exact qW_some rfl
  · rintro _ rfl
    show qW (qf_X17_place_L7_b 20000 b p K) _
    unfold qf_X17_place_L7_b
    rw [if_pos (show 0 ≤ p ∧ p < 40 by omega), if_pos hp]
    exact qW_some rfl
theorem op_out (h_built : R_built M K) (h_blocks : R_blocks M K) (h_kinds : R_kinds M K) (h_wire : R_wire M K) (h_sorted : R_sorted M K) (h_outs : R_outs M K) : oK2 cI (qf_L_out 20000 x1 x2 M) (qf_X18_out 20000 x1 x2 K) (fun M' K' => R_sorted M' K') := by
  have s_built := h_built
  unfold R_built at s_built
  have s_blocks := h_blocks
  unfold R_blocks at s_blocks
  have bb : ∀ {α β : Type} (a : α) (f : α → Option β), (some a).bind f = f a := fun _ _ => rfl
  have exc : ∀ (X : String) (e : Int), qf_X11_out 20000 x1 x2 M = some (.inr X, M) → qf_X18_out 20000 x1 x2 K = some (0, qw K 2156 0 0 e) → ((X = "java/lang/IllegalArgumentException" ∧ e = 1) ∨ (X = "java/lang/IllegalStateException" ∧ e = 2)) → oK2 cI (qf_L_out 20000 x1 x2 M) (qf_X18_out 20000 x1 x2 K) (fun M' K' => R_sorted M' K') := fun X e e1 e2 hX => by
    have z : qf_L_out 20000 x1 x2 M = some (e, M) := by
      unfold qf_L_out
      rw [e1, bb]
      rcases hX with ⟨rfl, rfl⟩ | ⟨rfl, rfl⟩
      · (try dsimp only)
        rw [if_pos rfl]
      · (try dsimp only)
        rw [if_neg (by decide), if_pos rfl]
    refine qW_at z (qW_at e2 ⟨(show qw K 2156 0 0 e 2156 0 0 = e from qw_s), fun y => ?_, R_sorted_x (M := M) (K := K) rfl rfl rfl (fun _ _ => rfl) (fun _ _ => rfl) (fun _ _ => rfl) (fun _ _ => rfl) h_sorted⟩)
    (try dsimp only at y)
    omega
  have g0 : qf_X18_out_J27 20000 x1 x2 K = some (0, qw K 2156 0 0 1) := rfl
  have c0 : qf_X11_out_J21 20000 x1 x2 M = some (.inr "java/lang/IllegalArgumentException", M) := rfl
  have eB : qf_X11_isBlock 20000 x1 M = some (b01 (0 ≤ x1 ∧ x1 < M 1003 0 0)) := by
    unfold qf_X11_isBlock qf_X11_isWithin
    rw [w32_id (x := M 1003 0 0 - 1) (by omega) (by omega)]
    by_cases g1 : x1 < 0
    · rw [if_pos g1, bb, b01_f (by omega), if_pos (Or.inl rfl)]
    · rw [if_neg g1]
      by_cases g2 : M 1003 0 0 - 1 < x1
      · rw [if_pos g2, bb, b01_f (by omega), if_pos (Or.inl rfl)]
      · rw [if_neg g2, bb, b01_t (by omega), if_pos (Or.inr rfl)]
  have eI : ∀ n, qf_X18_isIn 20000 x1 n K = some (b01 (0 ≤ x1 ∧ x1 < n)) ∧ qf_X18_isIn 20000 x2 n K = some (b01 (0 ≤ x2 ∧ x2 < n)) := fun n => by
    have q : ∀ y, qf_X18_isIn 20000 y n K = some (b01 (0 ≤ y ∧ y < n)) := fun y => by
      unfold qf_X18_isIn
      by_cases g1 : y < 0
      · rw [if_pos g1, b01_f (by omega)]
      · rw [if_neg g1]
        by_cases g2 : n ≤ y
        · rw [if_pos g2, b01_f (by omega)]
        · rw [if_neg g2, b01_t (by omega)]
    exact ⟨q x1, q x2⟩
  have eW : qf_X11_isWithin 20000 x2 0 3 M = some (b01 (0 ≤ x2 ∧ x2 < 4)) := by
    unfold qf_X11_isWithin
    by_cases g1 : x2 < 0
    · rw [if_pos g1, b01_f (by omega)]
    · rw [if_neg g1]
      by_cases g2 : 3 < x2
      · rw [if_pos g2, b01_f (by omega)]
      · rw [if_neg g2, b01_t (by omega)]
  by_cases g1 : 0 ≤ x1 ∧ x1 < M 1003 0 0
  · by_cases g2 : 0 ≤ x2 ∧ x2 < 4
    · have eC : qf_X11_out 20000 x1 x2 M = qf_X11_out_J22 20000 x1 x2 1 M := by
        unfold qf_X11_out
        rw [eB, bb, b01_t g1, if_neg (by decide), eW, bb, b01_t g2, if_neg (by decide)]
      have eK : qf_X18_out 20000 x1 x2 K = qf_X18_out_J28 20000 x1 x2 1 K := by
        unfold qf_X18_out
        rw [s_blocks.2.2, (eI _).1, bb, b01_t g1, if_neg (by decide), (eI 4).2, bb, b01_t g2, if_neg (by decide)]
      by_cases g3 : M 6 11 0 = 0
      · refine exc "java/lang/IllegalStateException" 2 ?_ ?_ (Or.inr ⟨rfl, rfl⟩)
        · rw [eC]
          unfold qf_X11_out_J22 qf_X11_needArgument qf_X11_needState
          rw [if_neg (by decide), bb]
          (try dsimp only)
          rw [if_pos g3, bb]
        · rw [eK]
          unfold qf_X18_out_J28
          rw [show K 2156 1 0 = 0 by omega]
          rfl
      · have eZ : qf_X18_goes 20000 1 (K 2156 1 0) K = some (1, qw K 2156 0 0 0) := by
          rw [show K 2156 1 0 = 1 by omega]
          rfl
        have o : ∀ b, 0 ≤ b → b < 40 → K 2242 b 0 = M 1049 b 0 ∧ K 2243 b 0 = M 1050 b 0 ∧ K 2244 b 0 = M 1050 b 1 := fun b b0 b1 => ⟨(h_outs b b0 b1).1, (h_outs b b0 b1).2.1, (h_outs b b0 b1).2.2.1⟩
        have o1 := o x1 g1.1 (by omega)
        have b40 : 0 ≤ x1 ∧ x1 < 40 := by omega
        have key : ∀ v A B, qf_X9_blockFact 20000 x1 x2 M = some (v, A) → qf_X18_out_J28 20000 x1 x2 1 K = some (v, B) → B 2156 0 0 = 0 → (∃ Z, R_sorted A Z) → oK2 cI (qf_L_out 20000 x1 x2 M) (qf_X18_out 20000 x1 x2 K) (fun M' K' => R_sorted M' K') := fun v A B q1 q2 q3 q4 => by
          obtain ⟨Z, q4⟩ := q4
          have z : qf_L_out 20000 x1 x2 M = some (0, qw A 2332 0 0 v) := by
            unfold qf_L_out
            rw [eC]
            unfold qf_X11_out_J22 qf_X11_needArgument qf_X11_needState
            rw [if_neg (by decide), bb]
            (try dsimp only)
            rw [if_neg g3, bb]
            (try dsimp only)
            rw [q1, bb, bb]
            rfl
          exact qW_at z (qW_at (eK.trans q2) ⟨q3, fun _ => (show qw A 2332 0 0 v 2332 0 0 = v from qw_s), sorted_w q4⟩)
        by_cases y0 : x2 = 0
        · refine key (M 1049 x1 0) M (qw K 2156 0 0 0) ?_ ?_ qw_s ⟨K, h_sorted⟩
          · unfold qf_X9_blockFact
            rw [if_pos y0, if_pos b40]
          · unfold qf_X18_out_J28
            rw [eZ, bb]
            (try dsimp only)
            rw [if_neg (by decide), if_pos y0, if_pos b40, qw_a (by decide), o1.1]
        · by_cases y1 : x2 = 1
          · refine key (M 1050 x1 0) M (qw K 2156 0 0 0) ?_ ?_ qw_s ⟨K, h_sorted⟩
            · unfold qf_X9_blockFact
              rw [if_neg y0, if_pos y1, if_pos b40]
            · unfold qf_X18_out_J28
              rw [eZ, bb]
              (try dsimp only)
              rw [if_neg (by decide), if_neg y0, if_pos y1, if_pos b40, qw_a (by decide), o1.2.1]
          · by_cases y2 : x2 = 2
            · refine key (M 1050 x1 1) M (qw K 2156 0 0 0) ?_ ?_ qw_s ⟨K, h_sorted⟩
              · unfold qf_X9_blockFact
                rw [if_neg y0, if_neg y1, if_pos y2, if_pos b40]
              · unfold qf_X18_out_J28
                rw [eZ, bb]
                (try dsimp only)
                rw [if_neg (by decide), if_neg y0, if_neg y1, if_pos y2, if_pos b40, qw_a (by decide), o1.2.2]
            · obtain ⟨A, B, m, e1, e2, a1, a2, a3, a4, f1, f2⟩ := sort_both (M := M) (K := qw K 2156 0 0 0) (R_blocks_x (M := M) (K := K) rfl rfl h_blocks) (R_kinds_x (M := M) (K := K) (fun _ _ => rfl) (fun _ _ => rfl) h_kinds) (R_wire_x (M := M) (K := K) rfl (fun _ _ => rfl) (fun _ _ => rfl) h_wire) (R_sorted_x (M := M) (K := K) rfl rfl rfl (fun _ _ => rfl) (fun _ _ => rfl) (fun _ _ => rfl) (fun _ _ => rfl) h_sorted)
              have n0 : A 1003 0 0 = M 1003 0 0 := f1 1003 0 0 rfl
              obtain ⟨j, j0, j1, ej⟩ := (Srt_all a2.1).2 x1 g1.1 (by omega)
              (try dsimp only at ej)
              have pj := a2.2 j j0 j1
              rw [ej] at pj
              have pl := place_r (K := B) (b := x1) (p := j) (n := A 1003 0 0) (by omega) j0 j1 ((a4 j j0 j1).trans ej) (fun i i0 i1 w => by
                have w2 := (a4 i i0 (by omega)).symm.trans w
                have pi := a2.2 i i0 (by omega)
                rw [w2] at pi
                omega)
              obtain ⟨oo, e3, rfl⟩ := pl
              refine key j A B ?_ ?_ ((f2 2156 0 0 rfl).trans qw_s) ⟨K, Or.inr ⟨a1, a2⟩⟩
              · unfold qf_X9_blockFact
                rw [if_neg y0, if_neg y1, if_neg y2, e1, bb, if_pos b40]
                (try dsimp only)
                rw [pj]
              · unfold qf_X18_out_J28 qf_X17_place
                rw [eZ, bb]
                (try dsimp only)
                rw [if_neg (by decide), if_neg y0, if_neg y1, if_neg y2, e2, bb, e3, bb]
                rfl
    · refine exc "java/lang/IllegalArgumentException" 1 ?_ ?_ (Or.inl ⟨rfl, rfl⟩)
      · unfold qf_X11_out
        rw [eB, bb, b01_t g1, if_neg (by decide), eW, bb, b01_f g2, if_pos rfl]
        exact c0
      · unfold qf_X18_out
        rw [s_blocks.2.2, (eI _).1, bb, b01_t g1, if_neg (by decide), (eI 4).2, bb, b01_f g2, if_pos rfl]
        exact g0
  · refine exc "java/lang/IllegalArgumentException" 1 ?_ ?_ (Or.inl ⟨rfl, rfl⟩)
    · unfold qf_X11_out
      rw [eB, bb, b01_f g1, if_pos rfl]
      exact c0
    · unfold qf_X18_out
      rw [s_blocks.2.2, (eI _).1, bb, b01_f g1, if_pos rfl]
      exact g0
end PTh
