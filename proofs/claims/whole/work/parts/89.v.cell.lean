section VH
variable {M K N : qm} {a b c d k n m p r s t u v x y h i j g e g2 : Int}
theorem npass_r (hS : SPO M K) (hO : ∀ v, 0 ≤ v → v < 576 → -1 ≤ oF M v) (hP : PAS M K) (r1 : 1 ≤ r) (r2 : r ≤ 576) (hN : NST M K N) (hB : NBF M N r) : qW (qf_X18_findWays_L120 20000 20000 0 0 N) (fun o => ∃ g N', o = .inr (g, N') ∧ NST M K N' ∧ ((g = 0 ∧ NCL M N' ∧ NBF M N' 1) ∨ (g = 1 ∧ NBF M N' (r + 1) ∧ r + 1 ≤ 576))) := by
  unfold qf_X18_findWays_L120
  refine qW_for 576 (fun i u => ∃ g N', u = (g, i, N') ∧ NPS M K N' r g i 0) ?_ ?_ ⟨0, N, rfl, hN, hB, fun c e v hp => ?_, Or.inl ⟨rfl, fun c e v hp => ?_⟩⟩ (by decide) (by decide)
  · rintro i _ i0 i1 ⟨g, N', rfl, hI⟩
    have sb := swp_b i0 i1
    obtain ⟨c, hc⟩ : ∃ c, swp i = c := ⟨_, rfl⟩
    rw [hc] at sb
    have tX : Int.tmod i 24 = c / 24 := by rw [Int.tmod_eq_emod_of_nonneg i0]; omega
    have tY : Int.tdiv i 24 = c % 24 := by rw [Int.tdiv_eq_ediv_of_nonneg i0]; omega
    have i5 : 0 ≤ i ∧ i < 576 := ⟨i0, i1⟩
    unfold qf_X18_findWays_L120_b
    (try dsimp only)
    rw [if_neg (by omega), w32_id (x := i + 1) (by omega) (by omega)]
    refine qW_call (Q := fun o => ∃ g' N', o = .inr (g', N') ∧ NPS M K N' r g' i 4) ?_ ?_
    · unfold qf_X18_findWays_L129
      refine qW_for 4 (fun d u => ∃ g' N', u = (g', i, d, N') ∧ NPS M K N' r g' i d) ?_ ?_ ⟨g, N', rfl, hI⟩ (by decide) (by decide)
      · rintro d _ d0 d1 ⟨g', N', rfl, hQ⟩
        have hF := hQ.1.1
        obtain ⟨o1, X, Y, nx, ny, o2, ixy⟩ := outs_c hS hO hF sb.1 sb.2.1 d0 (show d ≤ 3 by omega)
        have ps := hP N' c d hF sb.1 sb.2.1 d0 (by omega)
        have skip : (INS M c → INS M (cb c d) → GOC M c d → (N' 2328 (swp (cb c d)) 0) ≠ 0 → (N' 2328 (swp c) 0) ≠ 0 ∧ (N' 2328 (swp c) 0) ≤ (N' 2328 (swp (cb c d)) 0) + 1) → NPS M K N' r g' i (d + 1) := fun z => nps_k hQ sb.2.2.1 z sb.1 sb.2.1 r1
        unfold qf_X18_findWays_L129_b
        (try dsimp only)
        rw [if_neg (by omega), tX, tY]
        refine qW_eq o1 ?_
        by_cases g1 : INS M c
        · rw [b01_f (fun z => z g1), if_pos rfl]
          refine qW_eq nx (qW_eq ny (qW_eq o2 ?_))
          unfold qf_X18_findWays_J196 qf_X18_findWays_J213 qf_X18_findWays_J242
          rw [w32_id (x := d + 1) (by omega) (by omega)]
          by_cases g2 : INS M (cb c d)
          · have xy := ixy g2
            have s2 := swp_b g2.1 g2.2.1
            have bv := nst_b hQ.1 g2.1 g2.2.1
            have bc := nst_b hQ.1 sb.1 sb.2.1
            rw [sb.2.2.1] at bc
            rw [b01_f (fun z => z g2), if_pos rfl]
            refine qW_eq ps ?_
            by_cases g3 : GOC M c d
            · have ww := fun a b => nps_w hQ sb.2.2.1 sb.1 sb.2.1 r1 r2 d0 (show d ≤ 3 by omega) g1 g2 g3 a b
              rw [sb.2.2.1] at ww skip
              obtain ⟨t, ht⟩ : ∃ t, (N' 2328 (swp (cb c d)) 0) = t := ⟨_, rfl⟩
              rw [ht] at ww bv skip
              rw [b01_t g3, if_neg (by decide), w32_id (x := 24 * Y) (by omega) (by omega), w32_id (x := 24 * Y + X) (by omega) (by omega), xy.2.2.2.2, if_pos (by omega), ht, w32_id (x := t + 1) (by omega) (by omega)]
              by_cases g4 : t ≤ 0
              · rw [if_pos g4]
                exact qW_some ⟨g', N', rfl, skip (fun _ _ _ z => by omega)⟩
              · rw [if_neg g4, if_pos i5]
                by_cases g5 : (N' 2328 i 0) = 0
                · rw [if_pos g5, if_pos i5]
                  exact qW_bnd (qW_some ⟨1, _, rfl, ww (by omega) (Or.inl g5)⟩)
                · rw [if_neg g5, if_pos i5]
                  by_cases g6 : (N' 2328 i 0) ≤ t + 1
                  · rw [if_pos g6]
                    exact qW_some ⟨g', N', rfl, skip (fun _ _ _ _ => ⟨g5, g6⟩)⟩
                  · rw [if_neg g6, if_pos i5]
                    exact qW_bnd (qW_some ⟨1, _, rfl, ww (by omega) (Or.inr (by omega))⟩)
            · rw [b01_f g3, if_pos rfl, if_pos (by decide)]
              exact qW_some ⟨g', N', rfl, skip (fun _ _ z => absurd z g3)⟩
          · rw [b01_t g2, if_neg (by decide), if_pos (by decide)]
            exact qW_some ⟨g', N', rfl, skip (fun _ z => absurd z g2)⟩
        · rw [b01_t g1, if_neg (by decide)]
          refine qW_some ⟨g', N', rfl, ?_⟩
          obtain ⟨h1, h2, h3, h4⟩ := hQ
          have cs : ∀ x e v, PRC M i 4 x e v → PRC M i d x e v := by
            rintro x e v ⟨a1, a2, a3, a4, a5, a6, a7, a8, a9⟩
            refine ⟨a1, a2, a3, a4, ?_, a6, a7, a8, a9⟩
            by_cases z : swp x = i
            · have xc := swp_i sb.1 sb.2.1 a1 a2 (z.trans sb.2.2.1.symm)
              rw [xc] at a6
              exact absurd a6 g1
            · omega
          refine ⟨h1, h2, fun x e v hp => h3 x e v (cs x e v hp), ?_⟩
          rcases h4 with ⟨e, z⟩ | z
          · exact Or.inl ⟨e, fun x e v hp => z x e v (cs x e v hp)⟩
          · exact Or.inr z
      · rintro _ ⟨g', N', rfl, hQ⟩
        unfold qf_X18_findWays_L129_b
        (try dsimp only)
        rw [if_pos (by decide)]
        exact qW_some ⟨g', N', rfl, hQ⟩
    · rintro _ ⟨g', N', rfl, hQ⟩
      refine qW_some ⟨g', N', rfl, ?_⟩
      obtain ⟨h1, h2, h3, h4⟩ := hQ
      have cs : ∀ x e v, PRC M (i + 1) 0 x e v → PRC M i 4 x e v := by
        rintro x e v ⟨a1, a2, a3, a4, a5, a6, a7, a8, a9⟩
        exact ⟨a1, a2, a3, a4, by omega, a6, a7, a8, a9⟩
      refine ⟨h1, h2, fun x e v hp => h3 x e v (cs x e v hp), ?_⟩
      rcases h4 with ⟨e, z⟩ | z
      · exact Or.inl ⟨e, fun x e v hp => z x e v (cs x e v hp)⟩
      · exact Or.inr z
  · rintro _ ⟨g, N', rfl, hQ⟩
    unfold qf_X18_findWays_L120_b
    (try dsimp only)
    rw [if_pos (by decide)]
    obtain ⟨h1, h2, h3, h4⟩ := hQ
    have all : ∀ c e v, 0 ≤ e → e ≤ 3 → INS M c → INS M v → cb c e = v → GOC M c e → PRC M 576 0 c e v := fun c e v e0 e1 ic iv ev go => ⟨ic.1, ic.2.1, e0, e1, Or.inl (swp_b ic.1 ic.2.1).2.1, ic, iv, ev, go⟩
    refine qW_some ⟨g, N', rfl, h1, ?_⟩
    rcases h4 with ⟨e, z⟩ | ⟨e, z⟩
    · exact Or.inl ⟨e, fun c d v e0 e1 ic iv ev go => z c d v (all c d v e0 e1 ic iv ev go), fun c k c0 c1 k1 hk => h2 c k c0 c1 (by omega) hk⟩
    · refine Or.inr ⟨e, fun c k c0 c1 kr kd => ?_, by omega⟩
      by_cases ek : k = r + 1
      · rw [ek] at kd ⊢
        obtain ⟨u, du, ed⟩ := DK_pre (by omega) kd
        rcases ed.2 with ⟨rfl, _⟩ | ⟨iu, f, f0, f1, ef, gf⟩
        · have z0 : DK (CEG M) (-1) (-1) 0 := ⟨RC_0.mpr rfl, fun j hj z => by have := z.1; omega⟩
          have := DK_one du z0
          omega
        · have bk := cbk_b iu.1 iu.2.1 f0 f1 (by rw [ef]; omega)
          have gb := goc_back (M := M) iu.1 iu.2.1 f0 f1 (by rw [ef]; omega)
          rw [ef] at bk gb
          have le := h3 c (bck f) u (all c (bck f) u bk.2.2.1 bk.2.2.2.1 ed.1 iu bk.2.2.2.2.1 (gb.mpr gf)) du
          have b2 := nst_b h1 c0 c1
          rcases b2 with y | y
          · exact absurd y le.1
          · have := DK_le kd y.2.2
            omega
      · exact h2 c k c0 c1 (by omega) kd
  · have a := hp.2.2.2.2.1
    have b := (swp_b hp.1 hp.2.1).1
    have c' := hp.2.2.1
    omega
  · have a := hp.2.2.2.2.1
    have b := (swp_b hp.1 hp.2.1).1
    have c' := hp.2.2.1
    omega
def NUK (M N : qm) : Prop := ∀ c, 0 ≤ c → c < 576 → ((N 2328 (swp c) 0) = 0 ∧ ∀ k, ¬ DK (CEG M) (-1) c k) ∨ (1 ≤ (N 2328 (swp c) 0) ∧ DK (CEG M) (-1) c (N 2328 (swp c) 0))
theorem findWays_r (hS : SPO M K) (hO : ∀ v, 0 ≤ v → v < 576 → -1 ≤ oF M v) (hP : PAS M K) (hz : ∀ i, 0 ≤ i → i < 576 → (K 2328 i 0) = 0) : qW (qf_X18_findWays 20000 K) (fun o => NUF K o.2 ∧ NUK M o.2) := by
  unfold qf_X18_findWays
  refine qW_call (first_K hS hO hP hz) ?_
  rintro _ ⟨N1, rfl, hF, hv⟩
  (try dsimp only)
  have st0 : NST M K N1 := by
    refine ⟨hF, fun c c0 c1 => ?_⟩
    rcases hv c c0 c1 with ⟨a, e⟩ | ⟨_, e⟩
    · rw [e]
      refine Or.inr ⟨by decide, ?_, (ceg_1 a).1⟩
      have sc := swp_b c0 c1
      have one := sI_one (f := fun _ => (1 : Int)) (c := swp c) (n := 576) sc.1 sc.2.1
      (try dsimp only at one)
      refine Int.le_trans (Int.le_of_eq one.symm) (sI_le (fun i i0 i1 => ?_))
      (try dsimp only)
      by_cases g : i = swp c
      · rw [if_pos g, g, b01_t (by omega)]
        exact Int.le_refl _
      · rw [if_neg g]
        exact b01_b.1
    · exact Or.inl e
  have bf0 : NBF M N1 1 := fun c k c0 c1 k1 kd => by
    have := ceg_0 kd c0
    have ek : k = 1 := by omega
    rw [ek] at kd ⊢
    rcases hv c c0 c1 with ⟨_, e⟩ | ⟨no, _⟩
    · exact e
    · obtain ⟨u, du, ed⟩ := DK_pre (k := 0) (by decide) kd
      rw [RC_0.mp du.1] at ed
      exact absurd ed no
  refine qW_call (Q := fun o => ∃ N, o = .inr ((), N) ∧ NST M K N ∧ NCL M N ∧ NBF M N 1) ?_ ?_
  · unfold qf_X18_findWays_L112
    refine qW_for 576 (fun r u => ∃ g N, u = (g, N) ∧ NST M K N ∧ ((g = 0 ∧ NCL M N ∧ NBF M N 1) ∨ (g = 1 ∧ NBF M N (r + 1) ∧ r + 1 ≤ 576))) ?_ ?_ ⟨1, N1, rfl, st0, Or.inr ⟨rfl, by rw [show (0 : Int) + 1 = 1 from rfl]; exact bf0, by decide⟩⟩ (by decide) (by decide)
    · rintro r _ r0 r1 ⟨g, N, rfl, hN, hg⟩
      unfold qf_X18_findWays_L112_b
      (try dsimp only)
      rcases hg with ⟨rfl, hg⟩ | ⟨rfl, hB, rS⟩
      · rw [if_pos rfl]
        exact qW_some ⟨N, rfl, hN, hg⟩
      · rw [if_neg (by decide)]
        refine qW_call (npass_r hS hO hP (show 1 ≤ r + 1 by omega) rS hN hB) ?_
        rintro _ ⟨g, N', rfl, hN', hg⟩
        exact qW_some ⟨g, N', rfl, hN', hg⟩
    · rintro _ ⟨g, N, rfl, hN, hg⟩
      unfold qf_X18_findWays_L112_b
      (try dsimp only)
      rcases hg with ⟨rfl, hg⟩ | ⟨rfl, hB, rS⟩
      · rw [if_pos rfl]
        exact qW_some ⟨N, rfl, hN, hg⟩
      · omega
  · rintro _ ⟨N, rfl, hN, hC, hB⟩
    (try dsimp only)
    have near : ∀ k : Nat, ∀ c, 0 ≤ c → c < 576 → RCN (CEG M) (-1) k c → (N 2328 (swp c) 0) ≠ 0 ∧ (N 2328 (swp c) 0) ≤ k := by
      intro k
      induction k with
      | zero =>
        intro c c0 c1 z
        have e : c = -1 := z
        omega
      | succ k ih =>
        rintro c c0 c1 ⟨u, hu, he⟩
        rcases he.2 with ⟨rfl, _⟩ | ⟨iu, f, f0, f1, ef, gf⟩
        · have e := hB c 1 c0 c1 (Int.le_refl 1) (ceg_1 he)
          omega
        · have bk := cbk_b iu.1 iu.2.1 f0 f1 (by rw [ef]; omega)
          have gb := goc_back (M := M) iu.1 iu.2.1 f0 f1 (by rw [ef]; omega)
          rw [ef] at bk gb
          have q := ih u iu.1 iu.2.1 hu
          have w := hC c (bck f) u bk.2.2.1 bk.2.2.2.1 he.1 iu bk.2.2.2.2.1 (gb.mpr gf) q.1
          omega
    refine qW_some ⟨hN.1, fun c c0 c1 => ?_⟩
    rcases nst_b hN c0 c1 with e | ⟨e1, e2, e3⟩
    · exact Or.inl ⟨e, fun k kd => (near k.toNat c c0 c1 kd.1.2).1 e⟩
    · refine Or.inr ⟨e1, e3, fun j hj z => ?_⟩
      have w := near j.toNat c c0 c1 z.2
      have z0 := z.1
      (try dsimp only at hj)
      omega
/-- both sides' numbers -/
theorem walk_both {M' K' : qm} (hC : NUM M M') (hK : NUK M K') : R_walk M' K' := by
  unfold R_walk
  intro x y x0 x1 y0 y1 _
  have e : swp (24 * x + y) = 24 * y + x := by
    unfold swp
    omega
  have a := hC (24 * x + y) (by omega) (by omega)
  have b := hK (24 * x + y) (by omega) (by omega)
  rw [e] at b
  rcases a with ⟨a1, a2⟩ | ⟨a1, a2⟩
  · rcases b with ⟨b1, _⟩ | ⟨_, b2⟩
    · exact Or.inl ⟨b1, a1⟩
    · exact absurd b2 (a2 _)
  · rcases b with ⟨_, b2⟩ | ⟨b1, b2⟩
    · exact absurd a2 (b2 _)
    · have := DK_one a2 b2
      exact Or.inr ⟨by omega, this⟩
end VH
