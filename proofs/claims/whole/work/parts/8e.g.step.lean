/-! ===== the matrix text: both sides at a word ===== -/
section MTd
variable {M K A W : qm} {T bg en : Int → Int} {L p q e k i j x y z c n w s v C D r lo hi t : Int} {m N : Nat}
def isW (T : Int → Int) (n : Int) (bg en : Int → Int) (j C : Int) : Prop := j < n ∧ isL (T (bg j)) ∧ nmv T (bg j) (en j - bg j).toNat = C
def isSg (T : Int → Int) (n : Int) (bg : Int → Int) (j s : Int) : Prop := j < n ∧ kdM (T (bg j)) = s
def isN (T : Int → Int) (n : Int) (bg en : Int → Int) (j lo hi : Int) : Prop := j < n ∧ isD (T (bg j)) ∧ en j - bg j ≤ 6 ∧ lo ≤ dgv T (bg j) (en j - bg j).toNat ∧ dgv T (bg j) (en j - bg j).toNat ≤ hi
/-- the class is at word j -/
def MST (T : Int → Int) (L n : Int) (bg en : Int → Int) (j : Int) (A : qm) : Prop := A 908 1 0 = L ∧ (∀ i, A 909 i 0 = T i) ∧ 0 ≤ j ∧ j ≤ n ∧ A 908 4 0 = j ∧ A 908 6 0 = (if j < n then bg j else L) ∧ A 908 7 0 = (if j < n then en j else L) ∧ A 908 5 0 = (if j < n then kdM (T (bg j)) else 101) ∧ (j < n → isL (T (bg j)) → A 908 8 0 = nmv T (bg j) (en j - bg j).toNat)
/-- only the word at hand is another -/
def FMX (A B : qm) : Prop := ∀ b x y, ¬ (b = 908 ∧ 4 ≤ x ∧ x ≤ 8) → B b x y = A b x y
theorem mst_o (h : MST T L n bg en j A) (f : ∀ b x y, (b = 908 ∧ (x = 1 ∨ (4 ≤ x ∧ x ≤ 8))) ∨ b = 909 → W b x y = A b x y) : MST T L n bg en j W := by
  obtain ⟨h1, h2, h3, h4, h5, h6, h7, h8, h9⟩ := h
  exact ⟨(f _ _ _ (by omega)).trans h1, fun i => (f _ _ _ (by omega)).trans (h2 i), h3, h4, (f _ _ _ (by omega)).trans h5, (f _ _ _ (by omega)).trans h6, (f _ _ _ (by omega)).trans h7, (f _ _ _ (by omega)).trans h8, fun z1 z2 => (f _ _ _ (by omega)).trans (h9 z1 z2)⟩
theorem mst_nx (hw : WRD T L n bg en) (h0 : A 908 1 0 = L) (ht : ∀ i, A 909 i 0 = T i) (j0 : -1 ≤ j) (jn : j < n) (h4 : A 908 4 0 = j) (h7 : A 908 7 0 = (if j + 1 = 0 then 0 else en j)) : ∃ W, qf_X5_nextWord 20000 A = some ((), W) ∧ FMX A W ∧ MST T L n bg en (j + 1) W := by
  obtain ⟨L0, L1, n0, nL, hk, hr⟩ := hw
  have p01 : 0 ≤ (if j + 1 = 0 then 0 else en j) ∧ (if j + 1 = 0 then 0 else en j) ≤ L := by
    by_cases g : j + 1 = 0
    · rw [if_pos g]
      omega
    · rw [if_neg g]
      obtain ⟨b0, tk⟩ := hk j (by omega) jn
      have := tok_e tk
      omega
  obtain ⟨W, q, e, e1, f1, r1, w4, w6, w7, hq⟩ := nextw_C (M := A) h0 L1 h7 p01.1 p01.2 h4 j0 (by omega)
  have tt : (fun i => A 909 i 0) = T := funext ht
  rw [tt] at r1 hq
  have r2 := hr (j + 1) (by omega) (by omega)
  rw [show j + 1 - 1 = j by omega] at r2
  have eq := run_u r1 r2
  refine ⟨W, e1, f1, (f1 _ _ _ (by omega)).trans h0, fun i => (f1 _ _ _ (by omega)).trans (ht i), by omega, by omega, w4, w6.trans eq, ?_⟩
  by_cases g : j + 1 < n
  · rw [if_pos g] at eq
    obtain ⟨b0, tk⟩ := hk (j + 1) (by omega) g
    rw [if_pos g, if_pos g]
    rcases hq with ⟨y1, y2, y3⟩ | ⟨y1, y2, y3⟩
    · have := tk.1
      omega
    · rw [eq] at y1 y2 y3
      have ee := tok_u y1 tk
      rw [ht] at y2
      refine ⟨w7.trans ee, y2, fun _ z => ?_⟩
      rw [← ee]
      exact y3 (by rw [ht]; exact z)
  · rw [if_neg g] at eq
    rw [if_neg g, if_neg g]
    rcases hq with ⟨y1, y2, y3⟩ | ⟨y1, y2, y3⟩
    · exact ⟨w7.trans y2, y3, fun z => absurd z g⟩
    · have := y1.1
      omega
theorem mst_next (hw : WRD T L n bg en) (h : MST T L n bg en j A) (jn : j < n) : ∃ W, qf_X5_nextWord 20000 A = some ((), W) ∧ FMX A W ∧ MST T L n bg en (j + 1) W := by
  obtain ⟨h1, h2, h3, h4, h5, h6, h7, h8, h9⟩ := h
  rw [if_pos jn] at h7
  exact mst_nx hw h1 h2 (by omega) jn h5 (by rw [if_neg (by omega)]; exact h7)
theorem isW_C (h : MST T L n bg en j A) (hC : 0 < C) : qf_X5_isWord 20000 C A = some (b01 (isW T n bg en j C)) := by
  obtain ⟨h1, h2, h3, h4, h5, h6, h7, h8, h9⟩ := h
  unfold qf_X5_isWord
  by_cases g : j < n
  · rw [if_pos g] at h8
    rcases kdM_c (c := T (bg j)) with ⟨c, e⟩ | ⟨c, e⟩ | ⟨c, e⟩ | ⟨c, e⟩ | ⟨c, _, _, _, e⟩
    · rw [if_pos (by omega), h9 g c]
      by_cases g2 : nmv T (bg j) (en j - bg j).toNat = C
      · rw [if_pos g2, b01_t ⟨g, c, g2⟩]
      · rw [if_neg g2, b01_f (fun z => g2 z.2.2)]
    · rw [if_neg (by omega), b01_f (fun z => not_DL ⟨c, z.2.1⟩)]
    · rw [if_neg (by omega), b01_f (fun z => by have := z.2.1; unfold isL at this; omega)]
    · rw [if_neg (by omega), b01_f (fun z => by have := z.2.1; unfold isL at this; omega)]
    · rw [if_neg (by omega), b01_f (fun z => c z.2.1)]
  · rw [if_neg g] at h8
    rw [if_neg (by omega), b01_f (fun z => g z.1)]
theorem skW_C (hw : WRD T L n bg en) (h : MST T L n bg en j A) (hC : 0 < C) : (isW T n bg en j C ∧ ∃ W, qf_X5_skipWord 20000 C A = some (1, W) ∧ FMX A W ∧ MST T L n bg en (j + 1) W) ∨ (¬ isW T n bg en j C ∧ qf_X5_skipWord 20000 C A = some (0, A)) := by
  unfold qf_X5_skipWord
  rw [isW_C h hC]
  simp only [Option.bind_some]
  by_cases g : isW T n bg en j C
  · obtain ⟨W, e1, f1, m1⟩ := mst_next hw h g.1
    refine Or.inl ⟨g, W, ?_, f1, m1⟩
    rw [b01_t g, if_neg (by decide), e1]
    rfl
  · refine Or.inr ⟨g, ?_⟩
    rw [b01_f g, if_pos rfl, if_pos (Or.inl rfl)]
theorem skS_C (hw : WRD T L n bg en) (h : MST T L n bg en j A) (hs : s = 59 ∨ s = 38) : (isSg T n bg j s ∧ ∃ W, qf_X5_skipSign 20000 s A = some (1, W) ∧ FMX A W ∧ MST T L n bg en (j + 1) W) ∨ (¬ isSg T n bg j s ∧ qf_X5_skipSign 20000 s A = some (0, A)) := by
  have h' := h
  obtain ⟨h1, h2, h3, h4, h5, h6, h7, h8, h9⟩ := h
  unfold qf_X5_skipSign qf_X5_skipSign_J13
  by_cases g : isSg T n bg j s
  · obtain ⟨W, e1, f1, m1⟩ := mst_next hw h' g.1
    refine Or.inl ⟨g, W, ?_, f1, m1⟩
    rw [if_pos g.1] at h8
    rw [if_pos (h8.trans g.2), if_neg (by decide), e1]
    rfl
  · refine Or.inr ⟨g, ?_⟩
    have nk : A 908 5 0 ≠ s := fun z => by
      by_cases gj : j < n
      · rw [if_pos gj] at h8
        exact g ⟨gj, by omega⟩
      · rw [if_neg gj] at h8
        omega
    rw [if_neg nk, if_pos rfl, if_pos (Or.inl rfl)]
theorem num_C (hw : WRD T L n bg en) (h : MST T L n bg en j A) : (isN T n bg en j lo hi ∧ qf_X5_numberHere 20000 lo hi A = some (dgv T (bg j) (en j - bg j).toNat)) ∨ (¬ isN T n bg en j lo hi ∧ qf_X5_numberHere 20000 lo hi A = some (-1)) := by
  obtain ⟨h1, h2, h3, h4, h5, h6, h7, h8, h9⟩ := h
  unfold qf_X5_numberHere
  by_cases gj : j < n
  · rw [if_pos gj] at h6 h7 h8
    obtain ⟨b0, tk⟩ := hw.2.2.2.2.1 j h3 gj
    have L1 := hw.2.1
    have te := tok_e tk
    by_cases gd : isD (T (bg j))
    · have k48 : A 908 5 0 = 48 := by
        rcases kdM_c (c := T (bg j)) with ⟨c, e⟩ | ⟨c, e⟩ | ⟨c, e⟩ | ⟨c, e⟩ | ⟨_, c, _, _, e⟩
        · exact absurd ⟨gd, c⟩ not_DL
        · omega
        · unfold isD at gd
          omega
        · unfold isD at gd
          omega
        · exact absurd gd c
      have hd : ∀ i, bg j ≤ i → i < en j → isD (T i) := fun i i0 i1 => by
        rcases tk.2 with ⟨c, _⟩ | ⟨_, c⟩ | ⟨_, _, c, _⟩
        · exact absurd ⟨gd, c⟩ not_DL
        · exact c.2.2.1 i i0 i1
        · exact absurd gd c
      rw [if_pos k48, h7, h6, w32_id (x := en j - bg j) (by omega) (by omega)]
      by_cases g6 : en j - bg j ≤ 6
      · rw [if_pos g6]
        obtain ⟨mm, hm⟩ : ∃ mm : Nat, en j = bg j + mm := ⟨(en j - bg j).toNat, by omega⟩
        have em : (en j - bg j).toNat = mm := by omega
        have l : qf_X5_numberHere_L33 20000 20000 lo hi 0 (bg j) A = some (.inr (dgv T (bg j) mm)) := by
          refine qW_e ?_
          unfold qf_X5_numberHere_L33
          refine qW_for mm (fun i s => s = (lo, hi, dgv T (bg j) i.toNat, bg j + i)) ?_ ?_ ?_ (by omega) (by omega)
          · rintro i _ i0 i1 rfl
            obtain ⟨k, rfl⟩ : ∃ k : Nat, i = k := ⟨i.toNat, by omega⟩
            unfold qf_X5_numberHere_L33_b
            (try dsimp only)
            have d9 := dgv_9 (T := T) (q := bg j) (n := k) (by omega) (fun i z1 z2 => hd i z1 (by omega))
            have c := hd (bg j + k) (by omega) (by omega)
            unfold isD at c
            have e : dgv T (bg j) (k + 1) = dgv T (bg j) k * 10 + (T (bg j + k) - 48) := rfl
            have d9' := dgv_b (T := T) (q := bg j) (n := k) (fun i z1 z2 => hd i z1 (by omega))
            have p6 : (10 : Int) ^ k ≤ 100000 := by
              have ck : k = 0 ∨ k = 1 ∨ k = 2 ∨ k = 3 ∨ k = 4 ∨ k = 5 := (by omega)
              rcases ck with rfl | rfl | rfl | rfl | rfl | rfl <;> decide
            rw [show ((k : Int)).toNat = k by omega]
            generalize dgv T (bg j) k = V at d9 d9' e ⊢
            generalize (10 : Int) ^ k = Q at d9' p6
            rw [if_neg (show ¬ A 908 7 0 ≤ bg j + (k : Int) by omega), if_pos (show 0 ≤ bg j + (k : Int) ∧ bg j + (k : Int) < 2200 by omega), h2, w32_id (x := V * 10) (by omega) (by omega), w32_id (x := T (bg j + k) - 48) (by omega) (by omega), w32_id (x := V * 10 + (T (bg j + k) - 48)) (by omega) (by omega), w32_id (x := bg j + (k : Int) + 1) (by omega) (by omega)]
            refine qW_some ?_
            (try dsimp only)
            rw [show ((k : Int) + 1).toNat = k + 1 by omega, e, show bg j + ((k : Int) + 1) = bg j + (k : Int) + 1 by omega]
          · rintro _ rfl
            unfold qf_X5_numberHere_L33_b
            (try dsimp only)
            rw [if_pos (show A 908 7 0 ≤ bg j + (mm : Int) by omega), show ((mm : Int)).toNat = mm by omega]
            exact qW_some rfl
          · rw [Int.add_zero]
            rfl
        rw [l]
        simp only [Option.bind_some]
        rw [em]
        unfold isN
        rw [em]
        by_cases g7 : dgv T (bg j) mm < lo
        · rw [if_pos g7]
          exact Or.inr ⟨fun z => by omega, rfl⟩
        · rw [if_neg g7]
          by_cases g8 : hi < dgv T (bg j) mm
          · rw [if_pos g8]
            exact Or.inr ⟨fun z => by omega, rfl⟩
          · rw [if_neg g8]
            exact Or.inl ⟨⟨gj, gd, g6, by omega, by omega⟩, rfl⟩
      · rw [if_neg g6]
        exact Or.inr ⟨fun z => g6 z.2.2.1, rfl⟩
    · have k48 : A 908 5 0 ≠ 48 := by
        rcases kdM_c (c := T (bg j)) with ⟨c, e⟩ | ⟨c, e⟩ | ⟨c, e⟩ | ⟨c, e⟩ | ⟨_, c, _, _, e⟩
        · omega
        · exact absurd c gd
        · omega
        · omega
        · omega
      rw [if_neg k48]
      exact Or.inr ⟨fun z => gd z.2.1, rfl⟩
  · rw [if_neg gj] at h8
    rw [if_neg (by omega)]
    exact Or.inr ⟨fun z => gj z.1, rfl⟩
/-- the reference is at word j; w: where it is wrong, or -1 -/
def KSX (T : Int → Int) (L n : Int) (bg en : Int → Int) (j w : Int) (K : qm) : Prop := K 2208 7 0 = n ∧ K 2208 10 0 = j ∧ K 2208 11 0 = w ∧ 0 ≤ j ∧ j ≤ n ∧ (∀ i, 0 ≤ i → i < n → K 2213 i 0 = bg i ∧ K 2214 i 0 = en i) ∧ ∀ i, 0 ≤ i → i < L → K 2212 i 0 = T i
theorem ksx_o (h : KSX T L n bg en j w K) (f : ∀ b x y, (b = 2208 ∧ (x = 7 ∨ x = 10 ∨ x = 11)) ∨ (2212 ≤ b ∧ b ≤ 2214) → W b x y = K b x y) : KSX T L n bg en j w W := by
  obtain ⟨h1, h2, h3, h4, h5, h6, h7⟩ := h
  exact ⟨(f _ _ _ (by omega)).trans h1, (f _ _ _ (by omega)).trans h2, (f _ _ _ (by omega)).trans h3, h4, h5, fun i i0 i1 => ⟨(f _ _ _ (by omega)).trans (h6 i i0 i1).1, (f _ _ _ (by omega)).trans (h6 i i0 i1).2⟩, fun i i0 i1 => (f _ _ _ (by omega)).trans (h7 i i0 i1)⟩
theorem ksx_at (h : KSX T L n bg en j w K) (t0 : 0 ≤ t) (t1 : t ≤ n) : KSX T L n bg en t w (qw K 2208 10 0 t) := by
  obtain ⟨h1, h2, h3, h4, h5, h6, h7⟩ := h
  exact ⟨(qw_i (by decide)).trans h1, qw_s, (qw_i (by decide)).trans h3, t0, t1, fun i i0 i1 => ⟨(qw_a (by decide)).trans (h6 i i0 i1).1, (qw_a (by decide)).trans (h6 i i0 i1).2⟩, fun i i0 i1 => (qw_a (by decide)).trans (h7 i i0 i1)⟩
theorem ksx_wr (h : KSX T L n bg en j w K) : KSX T L n bg en j t (qw K 2208 11 0 t) := by
  obtain ⟨h1, h2, h3, h4, h5, h6, h7⟩ := h
  exact ⟨(qw_i (by decide)).trans h1, (qw_i (by decide)).trans h2, qw_s, h4, h5, fun i i0 i1 => ⟨(qw_a (by decide)).trans (h6 i i0 i1).1, (qw_a (by decide)).trans (h6 i i0 i1).2⟩, fun i i0 i1 => (qw_a (by decide)).trans (h7 i i0 i1)⟩
theorem letters_K (hw : WRD T L n bg en) (h : KSX T L n bg en j w K) : ∃ l, qf_X14_letters 20000 K = some l ∧ ∀ C D, KNW C D → (l = D ↔ isW T n bg en j C) := by
  obtain ⟨h1, h2, h3, h4, h5, h6, h7⟩ := h
  unfold qf_X14_letters
  rw [h1, h2]
  by_cases g : n ≤ j
  · rw [if_pos g]
    exact ⟨-1, rfl, fun C D k => ⟨fun z => by have := knw_b k; omega, fun z => by have := z.1; omega⟩⟩
  · have gj : j < n := by omega
    obtain ⟨b0, tk⟩ := hw.2.2.2.2.1 j h4 gj
    have L1 := hw.2.1
    have nL := hw.2.2.2.1
    have te := tok_e tk
    have cj : 0 ≤ j ∧ j < 2000 := by omega
    have bL := tk.1
    obtain ⟨hb, he⟩ := h6 j h4 gj
    rw [if_neg g, if_pos cj, hb, if_pos (show 0 ≤ bg j ∧ bg j < 2000 by omega), h7 (bg j) b0 bL, sort_K]
    simp only [Option.bind_some]
    by_cases gl : isL (T (bg j))
    · have s1 : srt (T (bg j)) = 1 := by
        rcases srt_c (c := T (bg j)) with ⟨c, e⟩ | ⟨c, e⟩ | ⟨c, e⟩ | ⟨_, c, _, e⟩
        · unfold isL at gl
          unfold isB at c
          omega
        · exact e
        · exact absurd ⟨c, gl⟩ not_DL
        · exact absurd gl c
      have hl : ∀ i, bg j ≤ i → i < en j → isL (T i) := fun i i0 i1 => by
        rcases tk.2 with ⟨_, c⟩ | ⟨c, _⟩ | ⟨_, c, _, _⟩
        · exact c.2.2.1 i i0 i1
        · exact absurd ⟨c, gl⟩ not_DL
        · exact absurd gl c
      obtain ⟨mm, hm⟩ : ∃ mm : Nat, en j = bg j + mm := ⟨(en j - bg j).toNat, by omega⟩
      have em : (en j - bg j).toNat = mm := by omega
      have we : ∀ C D, KNW C D → (nmv T (bg j) mm = C ↔ (mm ≤ 5 ∧ b5v T (bg j + mm) mm = D)) := fun C D k => word_eq k (fun i z1 z2 => hl i z1 (by omega)) (by omega)
      rw [if_pos s1, if_pos cj, if_pos cj, he, w32_id (x := en j - bg j) (by omega) (by omega)]
      by_cases g5 : en j - bg j ≤ 5
      · rw [if_pos g5, if_pos cj, w32_id (x := en j - 1) (by omega) (by omega)]
        have l : qf_X14_letters_L71 20000 20000 0 (en j - 1) K = some (.inr (b5v T (en j) mm)) := by
          refine qW_e ?_
          unfold qf_X14_letters_L71
          refine qW_for mm (fun i s => s = (b5v T (en j) i.toNat, en j - 1 - i)) ?_ ?_ ?_ (by omega) (by omega)
          · rintro i _ i0 i1 rfl
            obtain ⟨k, rfl⟩ : ∃ k : Nat, i = k := ⟨i.toNat, by omega⟩
            unfold qf_X14_letters_L71_b
            (try dsimp only)
            have c := hl (en j - 1 - k) (by omega) (by omega)
            unfold isL at c
            have e : b5v T (en j) (k + 1) = 32 * b5v T (en j) k + T (en j - 1 - k) - 96 := rfl
            have bd : 0 ≤ b5v T (en j) k ∧ b5v T (en j) k < 32 ^ k := by
              have : ∀ kk : Nat, kk ≤ k → 0 ≤ b5v T (en j) kk ∧ b5v T (en j) kk < 32 ^ kk := by
                intro kk
                induction kk with
                | zero =>
                  intro _
                  have e0 : b5v T (en j) 0 = 0 := rfl
                  rw [e0]
                  exact ⟨Int.le_refl _, by decide⟩
                | succ kk ih =>
                  intro hk
                  have q := ih (by omega)
                  have c := hl (en j - 1 - kk) (by omega) (by omega)
                  unfold isL at c
                  have e : b5v T (en j) (kk + 1) = 32 * b5v T (en j) kk + T (en j - 1 - kk) - 96 := rfl
                  rw [e, Int.pow_succ]
                  generalize (32 : Int) ^ kk = Q at q ⊢
                  omega
              exact this k (Nat.le_refl _)
            have p6 : (32 : Int) ^ k ≤ 1048576 := by
              have ck : k = 0 ∨ k = 1 ∨ k = 2 ∨ k = 3 ∨ k = 4 := (by omega)
              rcases ck with rfl | rfl | rfl | rfl | rfl <;> decide
            rw [show ((k : Int)).toNat = k by omega]
            generalize b5v T (en j) k = V at bd e ⊢
            generalize (32 : Int) ^ k = Q at bd p6
            rw [h2, if_pos cj, hb, if_neg (show ¬ en j - 1 - (k : Int) < bg j by omega), if_pos (show 0 ≤ en j - 1 - (k : Int) ∧ en j - 1 - (k : Int) < 2000 by omega), h7 (en j - 1 - k) (by omega) (by omega), w32_id (x := 32 * V) (by omega) (by omega), w32_id (x := 32 * V + T (en j - 1 - k)) (by omega) (by omega), w32_id (x := 32 * V + T (en j - 1 - k) - 96) (by omega) (by omega), w32_id (x := en j - 1 - (k : Int) - 1) (by omega) (by omega)]
            refine qW_some ?_
            (try dsimp only)
            rw [show ((k : Int) + 1).toNat = k + 1 by omega, e, show en j - 1 - ((k : Int) + 1) = en j - 1 - (k : Int) - 1 by omega]
          · rintro _ rfl
            unfold qf_X14_letters_L71_b
            (try dsimp only)
            rw [h2, if_pos cj, hb, if_pos (show en j - 1 - (mm : Int) < bg j by omega), show ((mm : Int)).toNat = mm by omega]
            exact qW_some rfl
          · rw [Int.sub_zero]
            rfl
        rw [l]
        refine ⟨_, rfl, fun C D k => ?_⟩
        have w := we C D k
        rw [← hm] at w
        unfold isW
        rw [em]
        exact ⟨fun z => ⟨gj, gl, w.mpr ⟨by omega, z⟩⟩, fun z => (w.mp z.2.2).2⟩
      · rw [if_neg g5]
        refine ⟨-1, rfl, fun C D k => ⟨fun z => by have := knw_b k; omega, fun z => ?_⟩⟩
        have q := z.2.2
        rw [em] at q
        have := ((we C D k).mp q).1
        omega
    · have s1 : srt (T (bg j)) ≠ 1 := by
        rcases srt_c (c := T (bg j)) with ⟨c, e⟩ | ⟨c, e⟩ | ⟨c, e⟩ | ⟨_, c, _, e⟩
        · omega
        · exact absurd c gl
        · omega
        · omega
      rw [if_neg s1]
      exact ⟨-1, rfl, fun C D k => ⟨fun z => by have := knw_b k; omega, fun z => absurd z.2.1 gl⟩⟩
theorem issg_K (hw : WRD T L n bg en) (h : KSX T L n bg en j w K) (hs : s = 59 ∨ s = 38) : qf_X14_isSign 20000 s K = some (b01 (isSg T n bg j s)) := by
  obtain ⟨h1, h2, h3, h4, h5, h6, h7⟩ := h
  unfold qf_X14_isSign
  rw [h1, h2]
  by_cases g : n ≤ j
  · rw [if_pos g, b01_f (fun z => by have := z.1; omega)]
  · have gj : j < n := by omega
    obtain ⟨b0, tk⟩ := hw.2.2.2.2.1 j h4 gj
    have L1 := hw.2.1
    have nL := hw.2.2.2.1
    have te := tok_e tk
    have cj : 0 ≤ j ∧ j < 2000 := by omega
    have bL := tk.1
    obtain ⟨hb, he⟩ := h6 j h4 gj
    have kd := kdM_c (c := T (bg j))
    have ks : kdM (T (bg j)) = s ↔ T (bg j) = s := by
      unfold isL isD at kd
      omega
    rw [if_neg g, if_pos cj, if_pos cj, he, hb, w32_id (x := en j - bg j) (by omega) (by omega)]
    by_cases g1 : en j - bg j = 1
    · rw [if_pos g1, if_pos cj, if_pos (show 0 ≤ bg j ∧ bg j < 2000 by omega), h7 (bg j) b0 bL]
      by_cases g2 : T (bg j) = s
      · rw [if_pos g2, b01_t ⟨gj, ks.mpr g2⟩]
      · rw [if_neg g2, b01_f (fun z => g2 (ks.mp z.2))]
    · rw [if_neg g1, b01_f (fun z => ?_)]
      have z2 := ks.mp z.2
      rcases tk.2 with ⟨c, _⟩ | ⟨c, _⟩ | ⟨_, _, _, c⟩
      · unfold isL at c
        omega
      · unfold isD at c
        omega
      · omega
end MTd
