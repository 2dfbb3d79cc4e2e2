/-! ===== rules: sides and clauses of both ===== -/
section WDn
variable {M K A Z D W W' Z2 : qm} {T kd vl pl : Int → Int} {F S : Int → Int × Int × List (Int × Int)} {r : Int × Int × List (Int × Int)} {L p q e k v i j x y z c d f n w t s a u ns d' f' w' t' : Int} {N m : Nat}
theorem side_K (hW : WDS T L kd vl pl n) (hl : LSW kd n) (hr : RWD T L kd vl pl n c K) (h63 : kd c ≠ 63) (s0 : 0 ≤ K 2184 34 0) (s1 : K 2184 34 0 ≤ 2 * c) : ∃ Z, qf_X15_side 20000 K = some ((), Z) ∧ SFR K Z 0 0 ∧ (((pS kd vl 12 0 c).1 = 1 ∧ kd (pS kd vl 12 0 c).2.1 ≠ 63 ∧ RWD T L kd vl pl n (pS kd vl 12 0 c).2.1 Z ∧ Z 2184 34 0 = K 2184 34 0 + (pS kd vl 12 0 c).2.2.length ∧ RAT Z (400 + K 2184 34 0) (pS kd vl 12 0 c).2.2 ∧ Z 2184 34 0 ≤ 2 * (pS kd vl 12 0 c).2.1 ∧ SFR K Z (K 2184 34 0) 0) ∨ (((pS kd vl 12 0 c).1 = 0 ∨ kd (pS kd vl 12 0 c).2.1 = 63) ∧ Z 2184 31 0 = 1 ∧ Z 2184 26 0 = pl (pS kd vl 12 0 c).2.1)) := by
  have n1 := hW.2.2.2.1
  have c0 := hr.2.2.1
  have c1 := hr.2.2.2.1
  obtain ⟨W, hW0⟩ : ∃ W, qw K 2184 36 0 0 = W := ⟨_, rfl⟩
  have fW : ∀ b x y, ¬ (b = 2184 ∧ x = 36) → W b x y = K b x y := fun b x y h => by
    rw [← hW0, qw_ap, if_neg (by omega)]
  have W36 : W 2184 36 0 = 0 := by rw [← hW0]; exact qw_s
  have W34 : W 2184 34 0 = K 2184 34 0 := fW _ _ _ (by omega)
  have rW : RWD T L kd vl pl n c W := rwd_fr hr (fun b x y z => fW b x y (by omega))
  have sW : SFR K W (K 2184 34 0) 0 := fun b x y h1 h2 h3 => fW b x y (by omega)
  have ok := pS_ok (vl := vl) hl 12 0 c c0 c1
  have ok2 := ok.2.2.1
  have ok1 := ok.2.1
  unfold qf_X15_side qbnd
  rw [hW0]
  (try dsimp only)
  rcases sims_all hW hl 12 0 (by decide) (by decide) (by decide) c W c0 c1 rW h63 ⟨by omega, by omega, by omega, by omega⟩ (Or.inl W36) with h | h
  · obtain ⟨t1, t2, k, f', Z6, pa, pm, e6, t3, t4, t6, t7, pd, te, t8, t9, t10⟩ := h
    (try dsimp only at t1 t2 t3 t6 t7 te)
    have en := pS_end (vl := vl) (m := 12) (d := 0) hl c0 c1 t1
    obtain ⟨j1, j2, j3, j4⟩ := t7
    have ob := on1_b (x := pm)
    have oa := on1_b (x := pa)
    have z36 := pd.2.2.2.1
    rw [W36] at pd z36
    have w6 := (rwd_k t6 t2).1
    have sp := stop_step (d := 0) (f := f') t6 t2 en (Or.inr (Int.le_refl 0))
    rw [if_pos (Int.le_refl 0), qw_eqv w6] at sp
    obtain ⟨N, hN⟩ : ∃ N, 20000 = (N + 1 + 1) + k := ⟨20000 - k - 2, by omega⟩
    have e1 : qf_X15_side_L14 20000 20000 0 1 1 1 W = some (.inr ((), Z6)) := by
      have := t4 (N + 1 + 1)
      rw [← hN, sl_s sp, sl_no] at this
      exact this
    rw [e1]
    obtain ⟨Z2, e2, u2, z2a, z2r, q2⟩ := un1_K pd (by decide) rfl j3 (by omega) (Or.inl rfl)
    simp only [Option.bind_some]
    unfold qf_X15_side_J315
    rw [e2]
    have l22 : ((pS kd vl 12 0 c).2.2.length : Int) = e6.length + (on1 pm + on1 pa) := by
      rw [te, len_a, len_a, opl_l, opl_l]
    have sf : SFR K Z2 (K 2184 34 0) 0 := by
      rw [W34, W36] at t10
      exact sfr_t (sfr_t sW t10 (Int.le_refl _) (Int.le_refl _)) (ufr_s (p0 := 0) u2) (by omega) (Int.le_refl _)
    refine ⟨Z2, rfl, fun b x y h1 h2 h3 => sf b x y h1 h2 (by omega), Or.inl ⟨t1, t2, ufr_wd u2 t6, by omega, ?_, by omega, sf⟩⟩
    · rw [te, rat_app, ← W34]
      refine ⟨sfr_r (ufr_s (p0 := 0) u2) t9 (by omega), ?_⟩
      rw [show 400 + W 2184 34 0 + (e6.length : Int) = 400 + Z6 2184 34 0 by omega]
      exact z2r
  · obtain ⟨hb, k, Z6, t3, t4, t5, t10⟩ := h
    (try dsimp only at hb t3 t5)
    obtain ⟨b1, b2, b3, b4, b5, b6⟩ := t5
    obtain ⟨N, hN⟩ : ∃ N, 20000 = N + k + 1 := ⟨20000 - k - 1, by omega⟩
    have e1 : qf_X15_side_L14 20000 20000 0 1 1 1 W = some (.inr ((), Z6)) := by
      have := t4 N
      rw [← hN] at this
      exact this
    rw [e1]
    obtain ⟨m, hm⟩ : ∃ m : Nat, Z6 2184 36 0 = m := ⟨(Z6 2184 36 0).toNat, by omega⟩
    obtain ⟨Z2, e2, u2, z1, z2, z3, z4⟩ := unany_K (i := 1) (Or.inl rfl) m 20000 Z6 hm (by omega) b5 (by omega) (by omega)
    simp only [Option.bind_some]
    unfold qf_X15_side_J315 qf_X15_unpile
    rw [e2]
    refine ⟨Z2, rfl, ?_, Or.inr ⟨hb, (u2 _ _ _ (by omega) (by omega)).trans b1, (u2 _ _ _ (by omega) (by omega)).trans b2⟩⟩
    intro b x y h1 h2 h3
    rw [ufr_s (p0 := 0) u2 b x y h1 h2 (by omega), t10 b x y h1 (by omega) (by omega)]
    exact fW b x y (by omega)
/-- signs between two sides -/
def isR (k : Int) : Prop := k = 60 ∨ k = 108 ∨ k = 61 ∨ k = 103 ∨ k = 62
def rel (k : Int) : Int := if k = 60 then 0 else if k = 108 then 1 else if k = 61 then 2 else if k = 103 then 3 else if k = 62 then 4 else -1
theorem rel_K (hv : VKD k) : qf_X15_relation N (kr k) M = some (rel k) := by
  have ks := kr_small hv
  have a := kr_iff hv (s := 60) (by unfold isG; decide)
  have b := kr_iff hv (s := 61) (by unfold isG; decide)
  have c := kr_iff hv (s := 62) (by unfold isG; decide)
  unfold qf_X15_relation rel
  by_cases g1 : k = 60
  · rw [if_pos (a.mpr g1), if_pos g1]
  · rw [if_neg (fun z => g1 (a.mp z)), if_neg g1]
    by_cases g2 : k = 108
    · rw [if_pos (ks.2.2.2.1.mpr g2), if_pos g2]
    · rw [if_neg (fun z => g2 (ks.2.2.2.1.mp z)), if_neg g2]
      by_cases g3 : k = 61
      · rw [if_pos (b.mpr g3), if_pos g3]
      · rw [if_neg (fun z => g3 (b.mp z)), if_neg g3]
        by_cases g4 : k = 103
        · rw [if_pos (ks.2.2.2.2.mpr g4), if_pos g4]
        · rw [if_neg (fun z => g4 (ks.2.2.2.2.mp z)), if_neg g4]
          by_cases g5 : k = 62
          · rw [if_pos (c.mpr g5), if_pos g5]
          · rw [if_neg (fun z => g5 (c.mp z)), if_neg g5]
theorem relk_c : (isR k ∧ 0 ≤ rel k ∧ rel k ≤ 4) ∨ (¬ isR k ∧ rel k = -1) := by
  unfold isR rel
  by_cases g1 : k = 60
  · rw [if_pos g1]
    omega
  · rw [if_neg g1]
    by_cases g2 : k = 108
    · rw [if_pos g2]
      omega
    · rw [if_neg g2]
      by_cases g3 : k = 61
      · rw [if_pos g3]
        omega
      · rw [if_neg g3]
        by_cases g4 : k = 103
        · rw [if_pos g4]
          omega
        · rw [if_neg g4]
          by_cases g5 : k = 62
          · rw [if_pos g5]
            omega
          · rw [if_neg g5]
            omega
/-- where a clause's reading stops -/
noncomputable def pC (kd vl : Int → Int) (c : Int) : Int × Int := if (pS kd vl 12 0 c).1 = 0 then (0, (pS kd vl 12 0 c).2.1) else @ite _ (isR (kd (pS kd vl 12 0 c).2.1)) (Classical.propDecidable _) ((pS kd vl 12 0 ((pS kd vl 12 0 c).2.1 + 1)).1, (pS kd vl 12 0 ((pS kd vl 12 0 c).2.1 + 1)).2.1) (0, (pS kd vl 12 0 c).2.1)
theorem pC_ok (hl : LSW kd n) (c0 : 0 ≤ c) (c1 : c ≤ n) : ((pC kd vl c).1 = 0 ∨ (pC kd vl c).1 = 1) ∧ c ≤ (pC kd vl c).2 ∧ (pC kd vl c).2 ≤ n ∧ ((pC kd vl c).1 = 1 → c + 3 ≤ (pC kd vl c).2) := by
  have o := pS_ok (vl := vl) hl 12 0 c c0 c1
  obtain ⟨o1, o2, o3, o4⟩ := o
  unfold pC
  by_cases g : (pS kd vl 12 0 c).1 = 0
  · rw [if_pos g]
    exact ⟨Or.inl rfl, o2, o3, fun z => by have z : (0 : Int) = 1 := z; omega⟩
  · rw [if_neg g]
    have o5 := o4 (by omega)
    by_cases g2 : isR (kd (pS kd vl 12 0 c).2.1)
    · rw [if_pos g2]
      have ln := lst_lt hl o3 (by unfold isR at g2; omega) (by unfold isR at g2; omega)
      obtain ⟨p1, p2, p3, p4⟩ := pS_ok (vl := vl) hl 12 0 ((pS kd vl 12 0 c).2.1 + 1) (by omega) (by omega)
      exact ⟨p1, by show c ≤ (pS kd vl 12 0 ((pS kd vl 12 0 c).2.1 + 1)).2.1; omega, p3, fun z => by have := p4 z; show c + 3 ≤ (pS kd vl 12 0 ((pS kd vl 12 0 c).2.1 + 1)).2.1; omega⟩
    · rw [if_neg g2]
      exact ⟨Or.inl rfl, o2, o3, fun z => by have z : (0 : Int) = 1 := z; omega⟩
theorem rels_C (h : LSW kd n) (hk : KDS M kd) (c0 : 0 ≤ c) (c1 : c ≤ n) : (isR (kd c) ∧ qf_X6_skipCompareSign 20000 (cu M c) = some (1, cu M (c + 1))) ∨ (¬ isR (kd c) ∧ qf_X6_skipCompareSign 20000 (cu M c) = some (0, cu M c)) := by
  unfold qf_X6_skipCompareSign isR
  by_cases g1 : kd c = 60
  · refine Or.inl ⟨Or.inl g1, ?_⟩
    rw [skip_y h hk c0 c1 g1 (by decide) (by decide)]
    rfl
  · rw [skip_n h hk c0 c1 g1]
    simp only [Option.bind_some]
    (first | rw [if_pos trivial] | rw [if_pos rfl])
    by_cases g2 : kd c = 108
    · refine Or.inl ⟨Or.inr (Or.inl g2), ?_⟩
      rw [skip_y h hk c0 c1 g2 (by decide) (by decide)]
      rfl
    · rw [skip_n h hk c0 c1 g2]
      simp only [Option.bind_some]
      (first | rw [if_pos trivial] | rw [if_pos rfl])
      by_cases g3 : kd c = 61
      · refine Or.inl ⟨Or.inr (Or.inr (Or.inl g3)), ?_⟩
        rw [skip_y h hk c0 c1 g3 (by decide) (by decide)]
        rfl
      · rw [skip_n h hk c0 c1 g3]
        simp only [Option.bind_some]
        (first | rw [if_pos trivial] | rw [if_pos rfl])
        by_cases g4 : kd c = 103
        · refine Or.inl ⟨Or.inr (Or.inr (Or.inr (Or.inl g4))), ?_⟩
          rw [skip_y h hk c0 c1 g4 (by decide) (by decide)]
          rfl
        · rw [skip_n h hk c0 c1 g4]
          simp only [Option.bind_some]
          (first | rw [if_pos trivial] | rw [if_pos rfl])
          by_cases g5 : kd c = 62
          · refine Or.inl ⟨Or.inr (Or.inr (Or.inr (Or.inr g5))), ?_⟩
            rw [skip_y h hk c0 c1 g5 (by decide) (by decide)]
            rfl
          · refine Or.inr ⟨by omega, ?_⟩
            rw [skip_n h hk c0 c1 g5]
            rfl
theorem clause_C (h : LSW kd n) (hk : KDS M kd) (c0 : 0 ≤ c) (c1 : c ≤ n) : qf_X6_readClause 20000 (cu M c) = some ((pC kd vl c).1, cu M (pC kd vl c).2) := by
  have o := pS_ok (vl := vl) h 12 0 c c0 c1
  obtain ⟨o1, o2, o3, o4⟩ := o
  unfold qf_X6_readClause pC
  rw [side_C (vl := vl) h hk c0 c1]
  simp only [Option.bind_some]
  by_cases g : (pS kd vl 12 0 c).1 = 0
  · rw [if_pos g, if_pos g]
  · rw [if_neg g, if_neg g]
    rcases rels_C h hk (show 0 ≤ (pS kd vl 12 0 c).2.1 by omega) o3 with ⟨g2, e2⟩ | ⟨g2, e2⟩
    · rw [e2, if_pos g2]
      simp only [Option.bind_some]
      have ln := lst_lt h o3 (by unfold isR at g2; omega) (by unfold isR at g2; omega)
      obtain ⟨p1, p2, p3, p4⟩ := pS_ok (vl := vl) h 12 0 ((pS kd vl 12 0 c).2.1 + 1) (by omega) (by omega)
      rw [if_neg (by decide), side_C (vl := vl) h hk (by omega) (by omega)]
      simp only [Option.bind_some]
      by_cases g3 : (pS kd vl 12 0 ((pS kd vl 12 0 c).2.1 + 1)).1 = 0
      · rw [if_pos g3, g3]
      · rw [if_neg g3, show (pS kd vl 12 0 ((pS kd vl 12 0 c).2.1 + 1)).1 = 1 by omega]
    · rw [e2, if_neg g2]
      rfl
end WDn
