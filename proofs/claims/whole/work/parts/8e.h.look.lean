section MTe
variable {M K A W : qm} {T bg en : Int → Int} {L p q e k i j x y z c n w s v C D r lo hi t : Int} {m N : Nat}
theorem want_K (h : KSX T L n bg en j w K) (ht : t = 0 ∨ t = 1) : qf_X14_want 20000 t K = if 0 ≤ w then some (0, K) else if t = 0 then some (0, qw K 2208 11 0 j) else some (1, K) := by
  obtain ⟨h1, h2, h3, h4, h5, h6, h7⟩ := h
  unfold qf_X14_want qf_X14_want_J19 qbnd
  by_cases g : 0 ≤ w
  · have g' : 0 ≤ K 2208 11 0 := by omega
    rw [if_pos g, if_pos g', if_pos g']
    rcases ht with rfl | rfl
    · rw [if_pos rfl]
    · rw [if_neg (show ¬ (1 : Int) = 0 by decide)]
  · have g' : ¬ 0 ≤ K 2208 11 0 := by omega
    rw [if_neg g, if_neg g', if_neg g']
    rcases ht with rfl | rfl
    · rw [if_pos rfl, if_pos rfl]
      (try dsimp only)
      rw [h2, show qw K 2208 11 0 j 2208 11 0 = j from qw_s, if_pos h4]
    · rw [if_neg (show ¬ (1 : Int) = 0 by decide), if_neg (show ¬ (1 : Int) = 0 by decide)]
theorem look_K (hw : WRD T L n bg en) (h : KSX T L n bg en j w K) : (w < 0 ∧ isN T n bg en j lo hi ∧ qf_X14_look 20000 lo hi K = some (dgv T (bg j) (en j - bg j).toNat, K)) ∨ (w < 0 ∧ ¬ isN T n bg en j lo hi ∧ qf_X14_look 20000 lo hi K = some (-1, qw K 2208 11 0 j)) ∨ (0 ≤ w ∧ qf_X14_look 20000 lo hi K = some (-1, K)) := by
  have h' := h
  obtain ⟨h1, h2, h3, h4, h5, h6, h7⟩ := h
  -- wrong
  have bad : ∀ v, qf_X14_look_J148 20000 v 0 K = if 0 ≤ w then some (-1, K) else some (-1, qw K 2208 11 0 j) := fun v => by
    unfold qf_X14_look_J148
    rw [want_K h' (Or.inl rfl)]
    by_cases g : 0 ≤ w
    · rw [if_pos g, if_pos g]
      rfl
    · rw [if_neg g, if_neg g, if_pos rfl]
      rfl
  have fine : ∀ v, qf_X14_look_J148 20000 v 1 K = if 0 ≤ w then some (-1, K) else some (v, K) := fun v => by
    unfold qf_X14_look_J148
    rw [want_K h' (Or.inr rfl)]
    by_cases g : 0 ≤ w
    · rw [if_pos g, if_pos g]
      rfl
    · rw [if_neg g, if_neg g, if_neg (show ¬ (1 : Int) = 0 by decide)]
      rfl
  have j60 : qf_X14_look_J60 20000 lo hi K = if 0 ≤ w then some (-1, K) else some (-1, qw K 2208 11 0 j) := by
    have l0 : qf_X14_look_L84 20000 20000 lo hi 0 0 0 K = some (.inr 0) := by
      show qloop _ (19999 + 1) (lo, hi, 0, 0, 0) = _
      rw [qloop.eq_2]
      (try dsimp only)
      have : qf_X14_look_L84_b 20000 lo hi 0 0 0 K = some (.inl (.inr 0)) := by
        unfold qf_X14_look_L84_b
        rw [if_pos rfl]
      rw [this]
    unfold qf_X14_look_J60 qf_X14_look_J61
    rw [if_pos rfl]
    unfold qf_X14_look_J82
    rw [l0]
    simp only [Option.bind_some]
    unfold qf_X14_look_J126 qf_X14_look_J147
    rw [if_pos rfl]
    exact bad 0
  have no : ¬ isN T n bg en j lo hi → qf_X14_look 20000 lo hi K = (if 0 ≤ w then some (-1, K) else some (-1, qw K 2208 11 0 j)) → (w < 0 ∧ isN T n bg en j lo hi ∧ qf_X14_look 20000 lo hi K = some (dgv T (bg j) (en j - bg j).toNat, K)) ∨ (w < 0 ∧ ¬ isN T n bg en j lo hi ∧ qf_X14_look 20000 lo hi K = some (-1, qw K 2208 11 0 j)) ∨ (0 ≤ w ∧ qf_X14_look 20000 lo hi K = some (-1, K)) := fun z1 z2 => by
    by_cases g : 0 ≤ w
    · rw [if_pos g] at z2
      exact Or.inr (Or.inr ⟨g, z2⟩)
    · rw [if_neg g] at z2
      exact Or.inr (Or.inl ⟨by omega, z1, z2⟩)
  by_cases g : n ≤ j
  · refine no (fun z => by have := z.1; omega) ?_
    unfold qf_X14_look
    rw [h1, h2, if_pos g]
    exact j60
  · have gj : j < n := by omega
    obtain ⟨b0, tk⟩ := hw.2.2.2.2.1 j h4 gj
    have L1 := hw.2.1
    have nL := hw.2.2.2.1
    have te := tok_e tk
    have cj : 0 ≤ j ∧ j < 2000 := by omega
    have bL := tk.1
    obtain ⟨hb, he⟩ := h6 j h4 gj
    have st : qf_X14_look 20000 lo hi K = (if srt (T (bg j)) = 2 then (if 6 < en j - bg j then qf_X14_look_J60 20000 lo hi K else qf_X14_look_J61 20000 lo hi 1 K) else qf_X14_look_J60 20000 lo hi K) := by
      unfold qf_X14_look
      rw [h1, h2, if_neg g, if_pos cj, hb, if_pos (show 0 ≤ bg j ∧ bg j < 2000 by omega), h7 (bg j) b0 bL, sort_K]
      simp only [Option.bind_some]
      rw [if_pos cj, if_pos cj, he, w32_id (x := en j - bg j) (by omega) (by omega)]
    by_cases gd : isD (T (bg j))
    · have s2 : srt (T (bg j)) = 2 := by
        rcases srt_c (c := T (bg j)) with ⟨c, e⟩ | ⟨c, e⟩ | ⟨c, e⟩ | ⟨_, _, c, e⟩
        · unfold isD at gd
          unfold isB at c
          omega
        · exact absurd ⟨gd, c⟩ not_DL
        · exact e
        · exact absurd gd c
      rw [if_pos s2] at st
      by_cases g6 : 6 < en j - bg j
      · rw [if_pos g6] at st
        exact no (fun z => by have := z.2.2.1; omega) (st.trans j60)
      · rw [if_neg g6] at st
        have hd : ∀ i, bg j ≤ i → i < en j → isD (T i) := fun i i0 i1 => by
          rcases tk.2 with ⟨c, _⟩ | ⟨_, c⟩ | ⟨_, _, c, _⟩
          · exact absurd ⟨gd, c⟩ not_DL
          · exact c.2.2.1 i i0 i1
          · exact absurd gd c
        obtain ⟨mm, hm⟩ : ∃ mm : Nat, en j = bg j + mm := ⟨(en j - bg j).toNat, by omega⟩
        have em : (en j - bg j).toNat = mm := by omega
        have l : qf_X14_look_L84 20000 20000 lo hi 1 0 (bg j) K = some (.inr (dgv T (bg j) mm)) := by
          refine qW_e ?_
          unfold qf_X14_look_L84
          refine qW_for mm (fun i s => s = (lo, hi, 1, dgv T (bg j) i.toNat, bg j + i)) ?_ ?_ ?_ (by omega) (by omega)
          · rintro i _ i0 i1 rfl
            obtain ⟨k, rfl⟩ : ∃ k : Nat, i = k := ⟨i.toNat, by omega⟩
            unfold qf_X14_look_L84_b
            (try dsimp only)
            have d9 := dgv_9 (T := T) (q := bg j) (n := k) (by omega) (fun i z1 z2 => hd i z1 (by omega))
            have c := hd (bg j + k) (by omega) (by omega)
            unfold isD at c
            have e : dgv T (bg j) (k + 1) = dgv T (bg j) k * 10 + (T (bg j + k) - 48) := rfl
            have d9' := dgv_b (T := T) (q := bg j) (n := k) (fun i z1 z2 => hd i z1 (by omega))
            have p6 : (10 : Int) ^ k ≤ 100000 := by
              have ck : k = 0 ∨ k = 1 ∨ k = 2 ∨ k = 3 ∨ k = 4 ∨ k = 5 := (by omega)
              rcases ck with rfl | rfl | rfl | rfl | rfl | rfl <;> decide
            rw [show ((k : Int)).toNat = k by omega]
            generalize dgv T (bg j) k = V at d9 d9' e ⊢
            generalize (10 : Int) ^ k = Q at d9' p6
            rw [if_neg (show ¬ (1 : Int) = 0 by decide), h2, if_pos cj, he, if_neg (show ¬ en j ≤ bg j + (k : Int) by omega), if_pos (show 0 ≤ bg j + (k : Int) ∧ bg j + (k : Int) < 2000 by omega), h7 (bg j + k) (by omega) (by omega), w32_id (x := 10 * V) (by omega) (by omega), w32_id (x := 10 * V + T (bg j + k)) (by omega) (by omega), w32_id (x := 10 * V + T (bg j + k) - 48) (by omega) (by omega), w32_id (x := bg j + (k : Int) + 1) (by omega) (by omega)]
            refine qW_some ?_
            (try dsimp only)
            rw [show ((k : Int) + 1).toNat = k + 1 by omega, e, show bg j + ((k : Int) + 1) = bg j + (k : Int) + 1 by omega, show V * 10 + (T (bg j + k) - 48) = 10 * V + T (bg j + k) - 48 by omega]
          · rintro _ rfl
            unfold qf_X14_look_L84_b
            (try dsimp only)
            rw [if_neg (show ¬ (1 : Int) = 0 by decide), h2, if_pos cj, he, if_pos (show en j ≤ bg j + (mm : Int) by omega), show ((mm : Int)).toNat = mm by omega]
            exact qW_some rfl
          · rw [Int.add_zero]
            rfl
        have s3 : qf_X14_look 20000 lo hi K = (if dgv T (bg j) mm < lo then qf_X14_look_J148 20000 (dgv T (bg j) mm) 0 K else if hi < dgv T (bg j) mm then qf_X14_look_J148 20000 (dgv T (bg j) mm) 0 K else qf_X14_look_J148 20000 (dgv T (bg j) mm) 1 K) := by
          rw [st]
          unfold qf_X14_look_J61
          rw [if_neg (show ¬ (1 : Int) = 0 by decide), h2, if_pos cj, hb]
          unfold qf_X14_look_J82
          rw [l]
          simp only [Option.bind_some]
          unfold qf_X14_look_J126 qf_X14_look_J147
          rw [if_neg (show ¬ (1 : Int) = 0 by decide)]
        rw [bad, fine] at s3
        have eN : isN T n bg en j lo hi ↔ (lo ≤ dgv T (bg j) mm ∧ dgv T (bg j) mm ≤ hi) := by
          unfold isN
          rw [em]
          exact ⟨fun z => z.2.2.2, fun z => ⟨gj, gd, by omega, z⟩⟩
        by_cases g7 : dgv T (bg j) mm < lo
        · rw [if_pos g7] at s3
          exact no (fun z => by have := eN.mp z; omega) s3
        · rw [if_neg g7] at s3
          by_cases g8 : hi < dgv T (bg j) mm
          · rw [if_pos g8] at s3
            exact no (fun z => by have := eN.mp z; omega) s3
          · rw [if_neg g8] at s3
            by_cases gw : 0 ≤ w
            · rw [if_pos gw] at s3
              exact Or.inr (Or.inr ⟨gw, s3⟩)
            · rw [if_neg gw] at s3
              rw [em]
              exact Or.inl ⟨by omega, eN.mpr ⟨by omega, by omega⟩, s3⟩
    · have s2 : srt (T (bg j)) ≠ 2 := by
        rcases srt_c (c := T (bg j)) with ⟨c, e⟩ | ⟨c, e⟩ | ⟨c, e⟩ | ⟨_, _, c, e⟩
        · omega
        · omega
        · exact absurd c gd
        · omega
      rw [if_neg s2] at st
      exact no (fun z => gd z.2.1) (st.trans j60)
/-- a known word is taken; a stop; a number -/
theorem takeW_K (hw : WRD T L n bg en) (h : KSX T L n bg en j w K) (kn : KNW C D) (hm : w = -1 ∨ 0 ≤ w) : (w = -1 ∧ isW T n bg en j C ∧ qf_X14_take 20000 D K = some ((), qw K 2208 10 0 (j + 1)) ∧ KSX T L n bg en (j + 1) (-1) (qw K 2208 10 0 (j + 1))) ∨ (w = -1 ∧ ¬ isW T n bg en j C ∧ qf_X14_take 20000 D K = some ((), qw K 2208 11 0 j) ∧ KSX T L n bg en j j (qw K 2208 11 0 j)) ∨ (0 ≤ w ∧ qf_X14_take 20000 D K = some ((), K)) := by
  have nL := hw.2.2.2.1
  have L1 := hw.2.1
  have j0 := h.2.2.2.1
  have j1 := h.2.2.2.2.1
  obtain ⟨l, el, hl⟩ := letters_K hw h
  have kl := hl C D kn
  have tk : ∀ t, (t = 0 ∨ t = 1) → qf_X14_take_J14 20000 t K = if 0 ≤ w then some ((), K) else if t = 0 then some ((), qw K 2208 11 0 j) else some ((), qw K 2208 10 0 (j + 1)) := fun t ht => by
    unfold qf_X14_take_J14 qbnd
    rw [want_K h ht]
    by_cases g : 0 ≤ w
    · rw [if_pos g, if_pos g]
      rfl
    · rw [if_neg g, if_neg g]
      rcases ht with rfl | rfl
      · rw [if_pos rfl, if_pos rfl]
        rfl
      · rw [if_neg (show ¬ (1 : Int) = 0 by decide), if_neg (show ¬ (1 : Int) = 0 by decide)]
        simp only [Option.bind_some]
        rw [if_neg (by decide), h.2.1, w32_id (x := j + 1) (by omega) (by omega)]
  have st : qf_X14_take 20000 D K = if l = D then qf_X14_take_J14 20000 1 K else qf_X14_take_J14 20000 0 K := by
    unfold qf_X14_take
    rw [el]
    rfl
  rw [tk 1 (Or.inr rfl), tk 0 (Or.inl rfl)] at st
  rcases hm with hm | hm
  · rw [if_neg (show ¬ 0 ≤ w by omega), if_neg (show ¬ 0 ≤ w by omega), if_neg (show ¬ (1 : Int) = 0 by decide), if_pos rfl] at st
    by_cases g : l = D
    · rw [if_pos g] at st
      have gw := kl.mp g
      have := gw.1
      rw [hm] at h
      exact Or.inl ⟨hm, gw, st, ksx_at h (by omega) (by omega)⟩
    · rw [if_neg g] at st
      exact Or.inr (Or.inl ⟨hm, fun z => g (kl.mpr z), st, ksx_wr h⟩)
  · rw [if_pos hm, if_pos hm] at st
    refine Or.inr (Or.inr ⟨hm, ?_⟩)
    rw [st]
    by_cases g : l = D
    · rw [if_pos g]
    · rw [if_neg g]
theorem takeS_K (hw : WRD T L n bg en) (h : KSX T L n bg en j w K) (hm : w = -1 ∨ 0 ≤ w) : (w = -1 ∧ isSg T n bg j 59 ∧ qf_X14_takeStop 20000 K = some ((), qw K 2208 10 0 (j + 1)) ∧ KSX T L n bg en (j + 1) (-1) (qw K 2208 10 0 (j + 1))) ∨ (w = -1 ∧ ¬ isSg T n bg j 59 ∧ qf_X14_takeStop 20000 K = some ((), qw K 2208 11 0 j) ∧ KSX T L n bg en j j (qw K 2208 11 0 j)) ∨ (0 ≤ w ∧ qf_X14_takeStop 20000 K = some ((), K)) := by
  have nL := hw.2.2.2.1
  have L1 := hw.2.1
  have j0 := h.2.2.2.1
  have j1 := h.2.2.2.2.1
  unfold qf_X14_takeStop qbnd
  rw [issg_K hw h (Or.inl rfl)]
  simp only [Option.bind_some]
  rw [want_K h b01_01]
  rcases hm with hm | hm
  · rw [if_neg (show ¬ 0 ≤ w by omega)]
    by_cases g : isSg T n bg j 59
    · rw [b01_t g, if_neg (show ¬ (1 : Int) = 0 by decide)]
      simp only [Option.bind_some]
      rw [if_neg (by decide), h.2.1, w32_id (x := j + 1) (by omega) (by omega)]
      have := g.1
      rw [hm] at h
      exact Or.inl ⟨hm, g, rfl, ksx_at h (by omega) (by omega)⟩
    · rw [b01_f g, if_pos rfl]
      exact Or.inr (Or.inl ⟨hm, g, rfl, ksx_wr h⟩)
  · rw [if_pos hm]
    exact Or.inr (Or.inr ⟨hm, rfl⟩)
theorem takeN_K (hw : WRD T L n bg en) (h : KSX T L n bg en j w K) (hm : w = -1 ∨ 0 ≤ w) : (w = -1 ∧ isN T n bg en j lo hi ∧ qf_X14_takeNumber 20000 lo hi K = some (dgv T (bg j) (en j - bg j).toNat, qw K 2208 10 0 (j + 1)) ∧ KSX T L n bg en (j + 1) (-1) (qw K 2208 10 0 (j + 1))) ∨ (w = -1 ∧ ¬ isN T n bg en j lo hi ∧ ∃ X, qf_X14_takeNumber 20000 lo hi K = some (-1, X) ∧ KSX T L n bg en j j X ∧ (∀ b x y, ¬ (b = 2208 ∧ (x = 10 ∨ x = 11)) → X b x y = K b x y)) ∨ (0 ≤ w ∧ qf_X14_takeNumber 20000 lo hi K = some (-1, K)) := by
  have nL := hw.2.2.2.1
  have L1 := hw.2.1
  have j0 := h.2.2.2.1
  have j1 := h.2.2.2.2.1
  unfold qf_X14_takeNumber qf_X14_takeNumber_J24 qbnd
  rcases look_K (lo := lo) (hi := hi) hw h with ⟨g0, g1, g2⟩ | ⟨g0, g1, g2⟩ | ⟨g0, g2⟩
  · rw [g2]
    simp only [Option.bind_some]
    have := g1.1
    have w3 := h.2.2.1
    rw [if_neg (by omega), h.2.1, w32_id (x := j + 1) (by omega) (by omega)]
    have hm' : w = -1 := by omega
    rw [hm'] at h
    exact Or.inl ⟨hm', g1, rfl, ksx_at h (by omega) (by omega)⟩
  · rw [g2]
    simp only [Option.bind_some]
    have k := ksx_wr (t := j) h
    rw [if_pos (show 0 ≤ qw K 2208 11 0 j 2208 11 0 by rw [qw_s]; exact j0), k.2.1, w32_id (x := j + 0) (by omega) (by omega), show j + 0 = j by omega]
    refine Or.inr (Or.inl ⟨by omega, g1, _, rfl, ksx_at k j0 j1, fun b x y z => ?_⟩)
    rw [qw_ap, if_neg (by omega), qw_ap, if_neg (by omega)]
  · rw [g2]
    simp only [Option.bind_some]
    have w3 := h.2.2.1
    rw [if_pos (by omega), h.2.1, w32_id (x := j + 0) (by omega) (by omega), show j + 0 = j by omega, qw_eqv h.2.1]
    exact Or.inr (Or.inr ⟨g0, rfl⟩)
end MTe
