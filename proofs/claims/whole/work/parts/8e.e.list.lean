/-! ===== the matrix text: the reference lists its words ===== -/
section MTb
variable {M K A W : qm} {T bg en : Int → Int} {L p q e k i j x y z c n w s v : Int} {P : Int → Prop} {m N : Nat}
/-- the words of a text -/
def WRD (T : Int → Int) (L n : Int) (bg en : Int → Int) : Prop := 0 ≤ L ∧ L ≤ 2000 ∧ 0 ≤ n ∧ n ≤ L ∧ (∀ j, 0 ≤ j → j < n → 0 ≤ bg j ∧ TOK T L (bg j) (en j)) ∧ (∀ j, 0 ≤ j → j ≤ n → RUN isB T L (if j = 0 then 0 else en (j - 1)) (if j < n then bg j else L))
/-- what is listed up to i -/
def LSI (T : Int → Int) (i last n : Int) (bg en : Int → Int) : Prop := 0 ≤ n ∧ n ≤ i ∧ (∀ j, 0 ≤ j → j < n → 0 ≤ bg j ∧ bg j < en j ∧ en j ≤ i ∧ srt (T (bg j)) ≠ 0 ∧ (∀ x, bg j ≤ x → x < en j → srt (T x) = srt (T (bg j))) ∧ (srt (T (bg j)) = 3 → en j = bg j + 1)) ∧ (∀ j, 0 ≤ j → j ≤ n → (if j = 0 then 0 else en (j - 1)) ≤ (if j < n then bg j else i) ∧ ∀ x, (if j = 0 then 0 else en (j - 1)) ≤ x → x < (if j < n then bg j else i) → srt (T x) = 0) ∧ (∀ j, 0 ≤ j → j + 1 < n → srt (T (bg j)) ≠ 3 → srt (T (en j)) ≠ srt (T (bg j))) ∧ (i = 0 → last = 0) ∧ (0 < i → last = srt (T (i - 1)))
theorem lsi_end (h : LSI T L s n bg en) (L0 : 0 ≤ L) (L1 : L ≤ 2000) : WRD T L n bg en := by
  obtain ⟨n0, n1, ha, hb, hc, _, _⟩ := h
  refine ⟨L0, L1, n0, n1, fun j j0 j1 => ?_, fun j j0 j1 => ?_⟩
  · obtain ⟨a1, a2, a3, a4, a5, a6⟩ := ha j j0 j1
    refine ⟨a1, by omega, ?_⟩
    -- what stands behind
    have nx : en j < L → srt (T (bg j)) ≠ 3 → srt (T (en j)) ≠ srt (T (bg j)) := fun z1 z2 => by
      by_cases g : j + 1 < n
      · exact hc j j0 g z2
      · have b := (hb (j + 1) (by omega) (by omega)).2 (en j)
        rw [if_neg (by omega), if_neg g, show j + 1 - 1 = j by omega] at b
        have := b (Int.le_refl _) z1
        omega
    rcases srt_c (c := T (bg j)) with ⟨c, e⟩ | ⟨c, e⟩ | ⟨c, e⟩ | ⟨c1, c2, c3, e⟩
    · omega
    · refine Or.inl ⟨c, by omega, by omega, fun x x0 x1 => ?_, fun z => ?_⟩
      · have q := a5 x x0 x1
        rcases srt_c (c := T x) with ⟨c', e'⟩ | ⟨c', e'⟩ | ⟨c', e'⟩ | ⟨_, _, _, e'⟩
        · omega
        · exact c'
        · omega
        · omega
      · have q := nx z (by omega)
        intro y
        rcases srt_c (c := T (en j)) with ⟨c', e'⟩ | ⟨c', e'⟩ | ⟨c', e'⟩ | ⟨_, c', _, e'⟩
        · unfold isL at y
          unfold isB at c'
          omega
        · omega
        · exact not_DL ⟨c', y⟩
        · exact c' y
    · refine Or.inr (Or.inl ⟨c, by omega, by omega, fun x x0 x1 => ?_, fun z => ?_⟩)
      · have q := a5 x x0 x1
        rcases srt_c (c := T x) with ⟨c', e'⟩ | ⟨c', e'⟩ | ⟨c', e'⟩ | ⟨_, _, _, e'⟩
        · omega
        · omega
        · exact c'
        · omega
      · have q := nx z (by omega)
        intro y
        rcases srt_c (c := T (en j)) with ⟨c', e'⟩ | ⟨c', e'⟩ | ⟨c', e'⟩ | ⟨_, _, c', e'⟩
        · unfold isD at y
          unfold isB at c'
          omega
        · exact not_DL ⟨y, c'⟩
        · omega
        · exact c' y
    · exact Or.inr (Or.inr ⟨c1, c2, c3, a6 e⟩)
  · obtain ⟨b1, b2⟩ := hb j j0 j1
    have up : (if j < n then bg j else L) ≤ L := by
      by_cases g : j < n
      · rw [if_pos g]
        have := ha j j0 g
        omega
      · rw [if_neg g]
        exact Int.le_refl _
    refine ⟨b1, up, fun x x0 x1 => ?_, fun z => ?_⟩
    · have q := b2 x x0 x1
      rcases srt_c (c := T x) with ⟨c', e'⟩ | ⟨c', e'⟩ | ⟨c', e'⟩ | ⟨_, _, _, e'⟩
      · exact c'
      · omega
      · omega
      · omega
    · by_cases g : j < n
      · rw [if_pos g] at z ⊢
        have q := (ha j j0 g).2.2.2.1
        intro y
        rcases srt_c (c := T (bg j)) with ⟨c', e'⟩ | ⟨c', e'⟩ | ⟨c', e'⟩ | ⟨c', _, _, e'⟩
        · exact q e'
        · unfold isB at y
          unfold isL at c'
          omega
        · unfold isB at y
          unfold isD at c'
          omega
        · exact c' y
      · rw [if_neg g] at z
        omega
/-- a blank; a character that goes on; a new word -/
theorem lsi_0 (h : LSI T i s n bg en) (hs : srt (T i) = 0) : LSI T (i + 1) 0 n bg en := by
  obtain ⟨n0, n1, ha, hb, hc, _, _⟩ := h
  refine ⟨n0, by omega, fun j j0 j1 => ?_, fun j j0 j1 => ?_, hc, fun _ => rfl, fun _ => by rw [show i + 1 - 1 = i by omega]; exact hs.symm⟩
  · obtain ⟨a1, a2, a3, a4, a5, a6⟩ := ha j j0 j1
    exact ⟨a1, a2, by omega, a4, a5, a6⟩
  · obtain ⟨b1, b2⟩ := hb j j0 j1
    by_cases g : j < n
    · rw [if_pos g] at b1 b2 ⊢
      exact ⟨b1, b2⟩
    · rw [if_neg g] at b1 b2 ⊢
      refine ⟨by omega, fun x x0 x1 => ?_⟩
      by_cases e : x = i
      · rw [e]
        exact hs
      · exact b2 x x0 (by omega)
theorem lsi_last (h : LSI T i s n bg en) (i0 : 0 < i) (hs : s ≠ 0) : 0 < n ∧ en (n - 1) = i ∧ srt (T (bg (n - 1))) = s := by
  obtain ⟨n0, n1, ha, hb, hc, _, hl⟩ := h
  have l := hl i0
  have b := (hb n n0 (Int.le_refl _)).2 (i - 1)
  rw [if_neg (show ¬ n < n by omega)] at b
  have n2 : n ≠ 0 := fun z => by
    rw [if_pos z] at b
    have := b (by omega) (by omega)
    omega
  rw [if_neg n2] at b
  obtain ⟨a1, a2, a3, a4, a5, a6⟩ := ha (n - 1) (by omega) (by omega)
  have e : en (n - 1) = i := by
    apply Classical.byContradiction
    intro z
    have := b (by omega) (by omega)
    omega
  refine ⟨by omega, e, ?_⟩
  have := a5 (i - 1) (by omega) (by omega)
  omega
theorem lsi_go (h : LSI T i s n bg en) (i0 : 0 ≤ i) (hs : srt (T i) = s) (h0 : s ≠ 0) (h3 : s ≠ 3) {en' : Int → Int} (he : en' (n - 1) = i + 1) (ho : ∀ j, j ≠ n - 1 → en' j = en j) : 0 < n ∧ LSI T (i + 1) s n bg en' := by
  have h' := h
  obtain ⟨n0, n1, ha, hb, hc, hz, hl⟩ := h
  have ip : 0 < i := by
    apply Classical.byContradiction
    intro z
    exact h0 (hz (by omega))
  obtain ⟨np, e1, e2⟩ := lsi_last h' ip h0
  refine ⟨np, n0, by omega, fun j j0 j1 => ?_, fun j j0 j1 => ?_, fun j j0 j1 z => ?_, fun z => by omega, fun _ => by rw [show i + 1 - 1 = i by omega]; exact hs.symm⟩
  · obtain ⟨a1, a2, a3, a4, a5, a6⟩ := ha j j0 j1
    by_cases g : j = n - 1
    · rw [g] at a1 a2 a3 a4 a5 a6 ⊢
      rw [he]
      refine ⟨a1, by omega, Int.le_refl _, a4, fun x x0 x1 => ?_, fun z => by omega⟩
      by_cases e : x = i
      · rw [e, hs, e2]
      · exact a5 x x0 (by omega)
    · rw [ho j g]
      exact ⟨a1, a2, by omega, a4, a5, a6⟩
  · obtain ⟨b1, b2⟩ := hb j j0 j1
    by_cases g : j < n
    · rw [if_pos g] at b1 b2 ⊢
      by_cases g0 : j = 0
      · rw [if_pos g0] at b1 b2 ⊢
        exact ⟨b1, b2⟩
      · rw [if_neg g0] at b1 b2 ⊢
        rw [ho (j - 1) (by omega)]
        exact ⟨b1, b2⟩
    · rw [if_neg g, if_neg (show ¬ j = 0 by omega), show j - 1 = n - 1 by omega, he]
      exact ⟨Int.le_refl _, fun x x0 x1 => by omega⟩
  · rw [ho j (by omega)]
    exact hc j j0 j1 z
theorem lsi_new (h : LSI T i s n bg en) (i0 : 0 ≤ i) (h0 : srt (T i) ≠ 0) (hn : srt (T i) = 3 ∨ srt (T i) ≠ s) {bg' en' : Int → Int} (hb' : bg' n = i) (he : en' n = i + 1) (hob : ∀ j, j ≠ n → bg' j = bg j) (hoe : ∀ j, j ≠ n → en' j = en j) : LSI T (i + 1) (srt (T i)) (n + 1) bg' en' := by
  have h' := h
  obtain ⟨n0, n1, ha, hb, hc, hz, hl⟩ := h
  refine ⟨by omega, by omega, fun j j0 j1 => ?_, fun j j0 j1 => ?_, fun j j0 j1 z => ?_, fun z => by omega, fun _ => by rw [show i + 1 - 1 = i by omega]⟩
  · by_cases g : j = n
    · rw [g, hb', he]
      refine ⟨i0, by omega, Int.le_refl _, h0, fun x x0 x1 => ?_, fun _ => rfl⟩
      rw [show x = i by omega]
    · obtain ⟨a1, a2, a3, a4, a5, a6⟩ := ha j j0 (by omega)
      rw [hob j g, hoe j g]
      exact ⟨a1, a2, by omega, a4, a5, a6⟩
  · by_cases g : j < n + 1
    · rw [if_pos g]
      obtain ⟨b1, b2⟩ := hb j j0 (by omega)
      have e1 : (if j = 0 then 0 else en' (j - 1)) = (if j = 0 then 0 else en (j - 1)) := by
        by_cases g0 : j = 0
        · rw [if_pos g0, if_pos g0]
        · rw [if_neg g0, if_neg g0, hoe _ (by omega)]
      rw [e1]
      by_cases g1 : j = n
      · rw [g1] at b1 b2 ⊢
        rw [if_neg (show ¬ n < n by omega)] at b1 b2
        rw [hb']
        exact ⟨b1, b2⟩
      · rw [if_pos (show j < n by omega)] at b1 b2
        rw [hob j g1]
        exact ⟨b1, b2⟩
    · rw [if_neg g, if_neg (show ¬ j = 0 by omega), show j - 1 = n by omega, he]
      exact ⟨Int.le_refl _, fun x x0 x1 => by omega⟩
  · rw [hob j (by omega)] at z ⊢
    rw [hoe j (by omega)]
    by_cases g : j + 1 < n
    · exact hc j j0 g z
    · have jn : j = n - 1 := by omega
      rw [jn] at z ⊢
      obtain ⟨a1, a2, a3, a4, a5, a6⟩ := ha (n - 1) (by omega) (by omega)
      have b := (hb n n0 (Int.le_refl _)).2 (en (n - 1))
      rw [if_neg (show ¬ n < n by omega), if_neg (show ¬ n = 0 by omega)] at b
      by_cases e : en (n - 1) = i
      · have ip : 0 < i := by omega
        have l := hl ip
        have q := a5 (i - 1) (by omega) (by omega)
        rw [e]
        omega
      · have := b (Int.le_refl _) (by omega)
        omega
theorem list_K (hS : K 2208 6 0 = L) (hT : ∀ i, 0 ≤ i → i < L → K 2212 i 0 = T i) (L0 : 0 ≤ L) (L1 : L ≤ 2000) : ∃ W n, qf_X14_list 20000 K = some ((), W) ∧ (∀ b x y, ¬ (b = 2208 ∧ x = 7) → b ≠ 2213 → b ≠ 2214 → W b x y = K b x y) ∧ W 2208 7 0 = n ∧ WRD T L n (fun j => W 2213 j 0) (fun j => W 2214 j 0) := by
  obtain ⟨X, hX⟩ : ∃ X, qw K 2208 7 0 0 = X := ⟨_, rfl⟩
  have fX : ∀ b x y, ¬ (b = 2208 ∧ x = 7) → X b x y = K b x y := fun b x y z => by rw [← hX, qw_ap, if_neg (by omega)]
  have X7 : X 2208 7 0 = 0 := by rw [← hX]; exact qw_s
  obtain ⟨o, e1, W, rfl, fW, s, hW⟩ : qW (qf_X14_list_L9 20000 20000 0 0 X) (fun o => ∃ W, o = .inr ((), W) ∧ (∀ b x y, ¬ (b = 2208 ∧ x = 7) → b ≠ 2213 → b ≠ 2214 → W b x y = X b x y) ∧ ∃ s, LSI T L s (W 2208 7 0) (fun j => W 2213 j 0) (fun j => W 2214 j 0)) := by
    unfold qf_X14_list_L9
    refine qW_for L (fun i s => ∃ t W, s = (t, i, W) ∧ (∀ b x y, ¬ (b = 2208 ∧ x = 7) → b ≠ 2213 → b ≠ 2214 → W b x y = X b x y) ∧ LSI T i t (W 2208 7 0) (fun j => W 2213 j 0) (fun j => W 2214 j 0)) ?_ ?_ ⟨0, X, rfl, fun _ _ _ _ _ _ => rfl, ?_⟩ L0 (by omega)
    · rintro i _ i0 i1 ⟨t, W, rfl, fW, h⟩
      have s6 : W 2208 6 0 = L := by rw [fW _ _ _ (by omega) (by omega) (by omega), fX _ _ _ (by omega)]; exact hS
      have st : W 2212 i 0 = T i := by rw [fW _ _ _ (by omega) (by omega) (by omega), fX _ _ _ (by omega)]; exact hT i i0 i1
      obtain ⟨n, hn⟩ : ∃ n, W 2208 7 0 = n := ⟨_, rfl⟩
      rw [hn] at h
      have nn := h.1
      have ni := h.2.1
      -- the end of the last word
      have j61 : ∀ (r : Int) (Y : qm), 0 < r → 0 < Y 2208 7 0 → Y 2208 7 0 ≤ 2000 → qf_X14_list_J61 20000 i r Y = some (.inr (r, i + 1, qw Y 2214 (Y 2208 7 0 - 1) 0 (i + 1))) := fun r Y r0 y0 y1 => by
        unfold qf_X14_list_J61 qf_X14_list_J79 qbnd
        rw [if_neg (by omega), w32_id (x := Y 2208 7 0 - 1) (by omega) (by omega), if_pos (show 0 ≤ Y 2208 7 0 - 1 ∧ Y 2208 7 0 - 1 < 2000 by omega), w32_id (x := i + 1) (by omega) (by omega)]
      have bd : qf_X14_list_L9_b 20000 t i W = (if srt (T i) ≤ 0 then qf_X14_list_J61 20000 i (srt (T i)) W else if srt (T i) = 3 then qf_X14_list_J41 20000 i (srt (T i)) W else if srt (T i) = t then qf_X14_list_J61 20000 i (srt (T i)) W else qf_X14_list_J41 20000 i (srt (T i)) W) := by
        unfold qf_X14_list_L9_b
        rw [if_neg (show ¬ W 2208 6 0 ≤ i by omega), if_pos (show 0 ≤ i ∧ i < 2000 by omega), st, sort_K]
        rfl
      have new : 0 < srt (T i) → (srt (T i) = 3 ∨ srt (T i) ≠ t) → ∃ V, qf_X14_list_J41 20000 i (srt (T i)) W = some (.inr (srt (T i), i + 1, V)) ∧ (∀ b x y, ¬ (b = 2208 ∧ x = 7) → b ≠ 2213 → b ≠ 2214 → V b x y = X b x y) ∧ LSI T (i + 1) (srt (T i)) (V 2208 7 0) (fun j => V 2213 j 0) (fun j => V 2214 j 0) := fun c0 c1 => by
        obtain ⟨Y, hY⟩ : ∃ Y, qw (qw W 2213 n 0 i) 2208 7 0 (n + 1) = Y := ⟨_, rfl⟩
        have Y7 : Y 2208 7 0 = n + 1 := by rw [← hY]; exact qw_s
        have e41 : qf_X14_list_J41 20000 i (srt (T i)) W = some (.inr (srt (T i), i + 1, qw Y 2214 n 0 (i + 1))) := by
          unfold qf_X14_list_J41 qbnd
          rw [hn, if_pos (show 0 ≤ n ∧ n < 2000 by omega)]
          (try dsimp only)
          rw [show qw W 2213 n 0 i 2208 7 0 = n from (qw_a (by decide)).trans hn, w32_id (x := n + 1) (by omega) (by omega), hY, j61 _ _ c0 (by omega) (by omega), Y7, show n + 1 - 1 = n by omega]
        refine ⟨qw Y 2214 n 0 (i + 1), e41, fun b x y z1 z2 z3 => ?_, ?_⟩
        · rw [qw_a z3, ← hY, qw_ap, if_neg (by omega), qw_a z2]
          exact fW b x y z1 z2 z3
        · have e7 : qw Y 2214 n 0 (i + 1) 2208 7 0 = n + 1 := (qw_a (by decide)).trans Y7
          rw [e7]
          refine lsi_new h i0 (by omega) c1 ?_ qw_s (fun j hj => ?_) (fun j hj => ?_)
          · rw [qw_a (by decide), ← hY, qw_a (by decide)]
            exact qw_s
          · rw [qw_a (by decide), ← hY, qw_a (by decide), qw_i hj]
          · rw [qw_i hj, ← hY, qw_a (by decide), qw_a (by decide)]
      show qW (qf_X14_list_L9_b 20000 t i W) _
      rw [bd]
      rcases srt_c (c := T i) with ⟨c, es⟩ | ⟨c, es⟩ | ⟨c, es⟩ | ⟨_, _, _, es⟩
      · rw [if_pos (by omega)]
        unfold qf_X14_list_J61 qf_X14_list_J79
        rw [if_pos (by omega), w32_id (x := i + 1) (by omega) (by omega)]
        refine qW_some ⟨srt (T i), W, rfl, fW, ?_⟩
        rw [hn, es]
        exact lsi_0 h es
      · rw [if_neg (by omega), if_neg (by omega)]
        by_cases g : srt (T i) = t
        · rw [if_pos g]
          have k := lsi_go (en' := fun j => qw W 2214 (n - 1) 0 (i + 1) 2214 j 0) h i0 g (by omega) (by omega) qw_s (fun j hj => qw_i hj)
          rw [j61 _ _ (by omega) (by omega) (by omega), hn]
          refine qW_some ⟨srt (T i), qw W 2214 (n - 1) 0 (i + 1), rfl, fun b x y z1 z2 z3 => by rw [qw_a z3]; exact fW b x y z1 z2 z3, ?_⟩
          rw [show qw W 2214 (n - 1) 0 (i + 1) 2208 7 0 = n from (qw_a (by decide)).trans hn, g]
          exact k.2
        · rw [if_neg g]
          obtain ⟨V, v1, v2, v3⟩ := new (by omega) (Or.inr g)
          exact qW_at v1 ⟨_, V, rfl, v2, v3⟩
      · rw [if_neg (by omega), if_neg (by omega)]
        by_cases g : srt (T i) = t
        · rw [if_pos g]
          have k := lsi_go (en' := fun j => qw W 2214 (n - 1) 0 (i + 1) 2214 j 0) h i0 g (by omega) (by omega) qw_s (fun j hj => qw_i hj)
          rw [j61 _ _ (by omega) (by omega) (by omega), hn]
          refine qW_some ⟨srt (T i), qw W 2214 (n - 1) 0 (i + 1), rfl, fun b x y z1 z2 z3 => by rw [qw_a z3]; exact fW b x y z1 z2 z3, ?_⟩
          rw [show qw W 2214 (n - 1) 0 (i + 1) 2208 7 0 = n from (qw_a (by decide)).trans hn, g]
          exact k.2
        · rw [if_neg g]
          obtain ⟨V, v1, v2, v3⟩ := new (by omega) (Or.inr g)
          exact qW_at v1 ⟨_, V, rfl, v2, v3⟩
      · rw [if_neg (by omega), if_pos es]
        obtain ⟨V, v1, v2, v3⟩ := new (by omega) (Or.inl es)
        exact qW_at v1 ⟨_, V, rfl, v2, v3⟩
    · rintro _ ⟨t, W, rfl, fW, h⟩
      have s6 : W 2208 6 0 = L := by rw [fW _ _ _ (by omega) (by omega) (by omega), fX _ _ _ (by omega)]; exact hS
      show qW (qf_X14_list_L9_b 20000 t L W) _
      unfold qf_X14_list_L9_b
      rw [if_pos (show W 2208 6 0 ≤ L by omega)]
      exact qW_some ⟨W, rfl, fW, t, h⟩
    · rw [X7]
      refine ⟨Int.le_refl _, Int.le_refl _, fun j j0 j1 => by omega, fun j j0 j1 => ?_, fun j j0 j1 => by omega, fun _ => rfl, fun z => by omega⟩
      rw [if_pos (show j = 0 by omega), if_neg (show ¬ j < 0 by omega)]
      exact ⟨Int.le_refl _, fun x x0 x1 => by omega⟩
  refine ⟨W, _, ?_, fun b x y z1 z2 z3 => by rw [fW b x y z1 z2 z3]; exact fX b x y z1, rfl, lsi_end hW L0 L1⟩
  unfold qf_X14_list qbnd
  rw [hX]
  (try dsimp only)
  rw [e1]
  rfl
end MTb
