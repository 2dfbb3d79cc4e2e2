/-! ===== the block program: a second, on both sides ===== -/
theorem blk_r {M K : qm} {b m : Int} (h : PgI M K) (hb0 : 0 ≤ b) (hb1 : b < (M 1003 0 0)) (hm : m = Int.tmod (K 2235 14 0) 1440) : qW (qf_X9_reckonBlock 20000 b m M) (fun r => qW (qf_X17_reckon 20000 b K) (fun s => PgI r.2 s.2 ∧ (∀ c, c ≠ b → r.2 1049 c 0 = M 1049 c 0) ∧ (M 1132 b 0 ≠ 0 → r.2 1049 b 0 = M 1133 b 0))) := by
  have n1 := h.1.2.1
  have q := h.2.1 b hb0 (by omega)
  exact k26 (P := fun k => (M 1004 b 0) = k → qW (qf_X9_reckonBlock 20000 b m M) (fun r => qW (qf_X17_reckon 20000 b K) (fun s => PgI r.2 s.2 ∧ (∀ c, c ≠ b → r.2 1049 c 0 = M 1049 c 0) ∧ (M 1132 b 0 ≠ 0 → r.2 1049 b 0 = M 1133 b 0)))) q.1 q.2.1 ⟨fun e => blk_0 h hb0 hb1 e hm, fun e => blk_1 h hb0 hb1 e hm, fun e => blk_2 h hb0 hb1 e hm, fun e => blk_3 h hb0 hb1 e hm, fun e => blk_4 h hb0 hb1 e hm, fun e => blk_5 h hb0 hb1 e hm, fun e => blk_6 h hb0 hb1 e hm, fun e => blk_7 h hb0 hb1 e hm, fun e => blk_8 h hb0 hb1 e hm, fun e => blk_9 h hb0 hb1 e hm, fun e => blk_10 h hb0 hb1 e hm, fun e => blk_11 h hb0 hb1 e hm, fun e => blk_12 h hb0 hb1 e hm, fun e => blk_13 h hb0 hb1 e hm, fun e => blk_14 h hb0 hb1 e hm, fun e => blk_15 h hb0 hb1 e hm, fun e => blk_16 h hb0 hb1 e hm, fun e => blk_17 h hb0 hb1 e hm, fun e => blk_18 h hb0 hb1 e hm, fun e => blk_19 h hb0 hb1 e hm, fun e => blk_20 h hb0 hb1 e hm, fun e => blk_21 h hb0 hb1 e hm, fun e => blk_22 h hb0 hb1 e hm, fun e => blk_23 h hb0 hb1 e hm, fun e => blk_24 h hb0 hb1 e hm, fun e => blk_25 h hb0 hb1 e hm⟩ rfl
theorem Srt_all {n m : Int} {K : Int → Int} {W : Int → Int → Int} {q : Int → Int} (h : Srt n K W q m) : (∀ k, 0 ≤ k → k < n → 0 ≤ q k ∧ q k < n) ∧ ∀ c, 0 ≤ c → c < n → pk q n c := by
  obtain ⟨a1, a2, a3, a4, a5⟩ := h
  have hd : dst n q n := by
    refine ⟨by omega, Int.le_refl _, fun k k0 k1 => ?_⟩
    by_cases g : k < m
    · obtain ⟨l1, l2, l3, -⟩ := a3 k k0 g
      exact ⟨l1, l2, l3⟩
    · obtain ⟨l1, l2, l3, -⟩ := a5 k (by omega) k1
      exact ⟨l1, l2, l3⟩
  exact ⟨fun k k0 k1 => ⟨(hd.2.2 k k0 k1).1, (hd.2.2 k k0 k1).2.1⟩, fun c c0 c1 => stk_all (dst_stk hd) c0 c1⟩
def TkI (M1 K1 : qm) (m : Int) (s : Int × Int × qm) (t : Int × qm) : Prop := s.1 = m ∧ t.1 = s.2.1 ∧ 0 ≤ s.2.1 ∧ s.2.1 ≤ M1 1003 0 0 ∧ PgI s.2.2 t.2 ∧ Fg 163214966539541676963800134189056 M1 s.2.2 ∧ Fg 1057221671717598278773323312284467265585712096312620914080156893214923894577171750509183238144 K1 t.2 ∧ ∀ k, 0 ≤ k → k < s.2.1 → s.2.2 1132 (M1 1136 k 0) 0 ≠ 0 → s.2.2 1049 (M1 1136 k 0) 0 = s.2.2 1133 (M1 1136 k 0) 0
theorem tick_1 {M1 K1 : qm} {m : Int} (n1 : M1 1003 0 0 ≤ 40) (n2 : K1 2235 0 0 = M1 1003 0 0) (hm : m = Int.tmod (K1 2235 14 0) 1440) (hq : ∀ k, 0 ≤ k → k < M1 1003 0 0 → 0 ≤ M1 1136 k 0 ∧ M1 1136 k 0 < M1 1003 0 0 ∧ K1 2249 k 0 = M1 1136 k 0) {s : Int × Int × qm} {t : Int × qm} (hI : TkI M1 K1 m s t) : qW (qf_X9_reckonBlocks_L25_b 20000 s.1 s.2.1 s.2.2) (fun o => qW (qf_X17_tick_L21_b 20000 t.1 t.2) (fun p => qM2 (TkI M1 K1 m) (fun a b => (M1 1003 0 0 - a.2.1).toNat < (M1 1003 0 0 - b.2.1).toNat) (fun r w => match r, w with
    | .inr r, .inr w => TkI M1 K1 m (m, M1 1003 0 0, r.2) (M1 1003 0 0, w.2)
    | _, _ => False) s o p)) := by
  obtain ⟨a, i, S⟩ := s
  obtain ⟨j, T⟩ := t
  obtain ⟨ea, ej, i0, i1, hP, hF, hG, hh⟩ := hI
  (try dsimp only at ea ej i0 i1 hP hF hG hh ⊢)
  subst ej
  unfold qf_X9_reckonBlocks_L25_b qf_X17_tick_L21_b
  have eN : S 1003 0 0 = M1 1003 0 0 := hF 1003 0 0 rfl
  have eK : T 2235 0 0 = M1 1003 0 0 := (hG 2235 0 0 rfl).trans n2
  rw [eN, eK]
  by_cases g : M1 1003 0 0 ≤ j
  · rw [if_pos g, if_pos g]
    have ej : j = M1 1003 0 0 := by omega
    subst ej
    exact qW_some (qW_some ⟨rfl, rfl, i0, i1, hP, hF, hG, hh⟩)
  · rw [if_neg g, if_neg g, if_pos ⟨i0, by omega⟩, if_pos ⟨i0, by omega⟩, w32_id (x := j + 1) (by omega) (by omega)]
    have es : S 1136 j 0 = M1 1136 j 0 := Fg_v hF rfl rfl
    have et : T 2249 j 0 = M1 1136 j 0 := (Fg_v (a := 2249) (j := j) hG rfl rfl).trans (hq j i0 (by omega)).2.2
    have hb := hq j i0 (by omega)
    rw [es, et]
    refine qW2_bind (qW2_mono (qW2_and (blk_r hP hb.1 (by rw [eN]; exact hb.2.1) (by rw [ea, hm]; exact congrArg (fun x => Int.tmod x 1440) (hG 2235 14 0 rfl).symm)) (fr_X9_reckonBlock Fg_refl) (fr_X17_reckon Fg_refl)) (fun r s h => ?_))
    obtain ⟨⟨p1, p2, p3⟩, f1, f2⟩ := h
    refine qW_some (qW_some ⟨⟨ea, rfl, by (try dsimp only); omega, by (try dsimp only); omega, p1, Fg_tr hF f1, Fg_tr hG f2, fun k k0 k1 e => ?_⟩, by (try dsimp only); omega⟩)
    (try dsimp only at k1 e ⊢)
    have e1 : r.2 1132 (M1 1136 k 0) 0 = S 1132 (M1 1136 k 0) 0 := Fg_v f1 rfl rfl
    have e2 : r.2 1133 (M1 1136 k 0) 0 = S 1133 (M1 1136 k 0) 0 := Fg_v f1 rfl rfl
    rw [e1] at e
    rw [e2]
    by_cases ek : M1 1136 k 0 = M1 1136 j 0
    · rw [ek] at e ⊢
      exact p3 e
    · rw [p2 _ ek]
      exact hh k k0 (by
        apply Classical.byContradiction
        intro x
        have ekj : k = j := by omega
        exact ek (by rw [ekj])) e
def DlI (M1 K1 : qm) (s : Int × qm) (t : Int × qm) : Prop := t.1 = s.1 ∧ 0 ≤ s.1 ∧ s.1 ≤ M1 1003 0 0 ∧ PgI s.2 t.2 ∧ Fg 284913756951589198338445788839936 M1 s.2 ∧ Fg 1839459400973606049072955428865609177696359174077165949451392920614266894790197446751624888320 K1 t.2 ∧ s.2 1003 0 0 = M1 1003 0 0 ∧ t.2 2235 0 0 = M1 1003 0 0 ∧ (∀ c, 0 ≤ c → c < M1 1003 0 0 → s.2 1132 c 0 ≠ 0 → s.2 1049 c 0 = s.2 1133 c 0) ∧ ((∀ i j, s.2 1136 i j = M1 1136 i j) ∧ (∀ i j, s.2 1137 i j = M1 1137 i j) ∧ s.2 1003 13 0 = M1 1003 13 0 ∧ s.2 1003 14 0 = M1 1003 14 0)
theorem dly_r {M K : qm} {b : Int} (h : PgI M K) (hb0 : 0 ≤ b) (hb1 : b < M 1003 0 0) (hh : M 1132 b 0 ≠ 0 → M 1049 b 0 = M 1133 b 0) : qW (qf_X9_reckonBlocks_L52_b 20000 b M) (fun o => qW (qf_X17_tick_L47_b 20000 b K) (fun p => match o, p with
    | .inr s, .inr t => s.1 = b + 1 ∧ t.1 = b + 1 ∧ PgI s.2 t.2 ∧ (∀ c, c ≠ b → s.2 1049 c 0 = M 1049 c 0) ∧ (M 1132 b 0 ≠ 0 → s.2 1049 b 0 = M 1133 b 0) ∧ ((∀ i j, s.2 1136 i j = M 1136 i j) ∧ (∀ i j, s.2 1137 i j = M 1137 i j) ∧ s.2 1003 13 0 = M 1003 13 0 ∧ s.2 1003 14 0 = M 1003 14 0)
    | _, _ => False)) := by
  by_cases e : M 1004 b 0 = 16
  · by_cases m0 : M 1008 b 0 = -1
    · exact dly_out h hb0 hb1 e m0 hh
    · exact dly_in h hb0 hb1 e m0 hh
  · exact dly_no h hb0 hb1 e hh
theorem tick_2 {M1 K1 : qm} (n1 : M1 1003 0 0 ≤ 40) {s : Int × qm} {t : Int × qm} (hI : DlI M1 K1 s t) : qW (qf_X9_reckonBlocks_L52_b 20000 s.1 s.2) (fun o => qW (qf_X17_tick_L47_b 20000 t.1 t.2) (fun p => qM2 (DlI M1 K1) (fun a b => (M1 1003 0 0 - a.1).toNat < (M1 1003 0 0 - b.1).toNat) (fun r w => match r, w with
    | .inr r, .inr w => DlI M1 K1 (M1 1003 0 0, r.2) (M1 1003 0 0, w.2)
    | _, _ => False) s o p)) := by
  obtain ⟨i, S⟩ := s
  obtain ⟨j, T⟩ := t
  obtain ⟨ej, i0, i1, hP, hF, hG, eN, eK, hh, hz⟩ := hI
  (try dsimp only at ej i0 i1 hP hF hG eN eK hh hz ⊢)
  subst ej
  by_cases g : M1 1003 0 0 ≤ j
  · unfold qf_X9_reckonBlocks_L52_b qf_X17_tick_L47_b
    rw [eN, eK, if_pos g, if_pos g]
    have ej : j = M1 1003 0 0 := by omega
    subst ej
    exact qW_some (qW_some ⟨rfl, i0, i1, hP, hF, hG, eN, eK, hh, hz⟩)
  · refine qW2_mono (qW2_and (dly_r hP i0 (by rw [eN]; omega) (hh j i0 (by omega))) (fr_X9_reckonBlocks_L52_b hF) (fr_X17_tick_L47_b hG)) (fun o p h => ?_)
    obtain ⟨h, f1, f2⟩ := h
    rcases o with o | s <;> rcases p with p | t
    · exact h.elim
    · exact h.elim
    · exact h.elim
    · obtain ⟨e1, e2, p1, p2, p3, z1, z2, z3, z4⟩ := h
      obtain ⟨a, S'⟩ := s
      obtain ⟨c, T'⟩ := t
      (try dsimp only at e1 e2 p1 p2 p3 z1 z2 z3 z4)
      subst e1
      subst e2
      have f3 : Fg 284913756951589198338445788839936 M1 S' := f1
      have f4 : Fg 1839459400973606049072955428865609177696359174077165949451392920614266894790197446751624888320 K1 T' := f2
      refine ⟨⟨rfl, by (try dsimp only); omega, by (try dsimp only); omega, p1, f3, f4, f3 1003 0 0 rfl, ?_, fun c c0 c1 => ?_, fun i j => (z1 i j).trans (hz.1 i j), fun i j => (z2 i j).trans (hz.2.1 i j), z3.trans hz.2.2.1, z4.trans hz.2.2.2⟩, by (try dsimp only); omega⟩
      · exact (f4 2235 0 0 rfl).trans ((hG 2235 0 0 rfl).symm.trans eK)
      · (try dsimp only)
        have e1 : S' 1132 c 0 = S 1132 c 0 := (Fg_v (a := 1132) (j := c) f3 rfl rfl).trans (Fg_v (a := 1132) (j := c) hF rfl rfl).symm
        have e2 : S' 1133 c 0 = S 1133 c 0 := (Fg_v (a := 1133) (j := c) f3 rfl rfl).trans (Fg_v (a := 1133) (j := c) hF rfl rfl).symm
        rw [e1, e2]
        intro x
        by_cases ec : c = j
        · rw [ec] at x ⊢
          exact p3 x
        · rw [p2 c ec]
          exact hh c c0 c1 x
