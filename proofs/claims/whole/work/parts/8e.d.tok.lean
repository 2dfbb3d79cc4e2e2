/-! ===== the matrix text: words ===== -/
section MTa
variable {M K A W : qm} {T : Int → Int} {L p q e k i j x y z c n w s v : Int} {P : Int → Prop} {m N : Nat}
def isB (c : Int) : Prop := c = 32 ∨ c = 10
def kdM (c : Int) : Int := if 97 ≤ c ∧ c ≤ 122 then 97 else if 48 ≤ c ∧ c ≤ 57 then 48 else if c = 59 then 59 else if c = 38 then 38 else 63
def srt (c : Int) : Int := if c = 32 then 0 else if c = 10 then 0 else if 97 ≤ c ∧ c ≤ 122 then 1 else if 48 ≤ c ∧ c ≤ 57 then 2 else 3
theorem kdM_c : (isL c ∧ kdM c = 97) ∨ (isD c ∧ kdM c = 48) ∨ (c = 59 ∧ kdM c = 59) ∨ (c = 38 ∧ kdM c = 38) ∨ (¬ isL c ∧ ¬ isD c ∧ c ≠ 59 ∧ c ≠ 38 ∧ kdM c = 63) := by
  unfold isL isD kdM
  by_cases g1 : 97 ≤ c ∧ c ≤ 122
  · rw [if_pos g1]
    omega
  · rw [if_neg g1]
    by_cases g2 : 48 ≤ c ∧ c ≤ 57
    · rw [if_pos g2]
      omega
    · rw [if_neg g2]
      by_cases g3 : c = 59
      · rw [if_pos g3]
        omega
      · rw [if_neg g3]
        by_cases g4 : c = 38
        · rw [if_pos g4]
          omega
        · rw [if_neg g4]
          omega
theorem srt_c : (isB c ∧ srt c = 0) ∨ (isL c ∧ srt c = 1) ∨ (isD c ∧ srt c = 2) ∨ (¬ isB c ∧ ¬ isL c ∧ ¬ isD c ∧ srt c = 3) := by
  unfold isB isL isD srt
  by_cases g1 : c = 32
  · rw [if_pos g1]
    omega
  · rw [if_neg g1]
    by_cases g2 : c = 10
    · rw [if_pos g2]
      omega
    · rw [if_neg g2]
      by_cases g3 : 97 ≤ c ∧ c ≤ 122
      · rw [if_pos g3]
        omega
      · rw [if_neg g3]
        by_cases g4 : 48 ≤ c ∧ c ≤ 57
        · rw [if_pos g4]
          omega
        · rw [if_neg g4]
          omega
theorem kind_C : qf_X5_kindOf N c M = some (kdM c) := by
  unfold qf_X5_kindOf qf_X5_kindOf_J15 qf_X5_kindOf_J30 kdM
  by_cases g1 : c < 97
  · rw [if_pos g1, if_neg (show ¬ (97 ≤ c ∧ c ≤ 122) by omega)]
    by_cases g2 : c < 48
    · rw [if_pos g2, if_neg (show ¬ (48 ≤ c ∧ c ≤ 57) by omega)]
      by_cases g3 : c = 59
      · omega
      · rw [if_neg g3, if_neg g3]
        by_cases g4 : c = 38
        · rw [if_pos g4, if_pos g4, g4]
        · rw [if_neg g4, if_neg g4]
    · rw [if_neg g2]
      by_cases g5 : 57 < c
      · rw [if_pos g5, if_neg (show ¬ (48 ≤ c ∧ c ≤ 57) by omega)]
        by_cases g3 : c = 59
        · rw [if_pos g3, if_pos g3, g3]
        · rw [if_neg g3, if_neg g3, if_neg (show ¬ c = 38 by omega), if_neg (show ¬ c = 38 by omega)]
      · rw [if_neg g5, if_pos (show 48 ≤ c ∧ c ≤ 57 by omega)]
  · rw [if_neg g1]
    by_cases g2 : 122 < c
    · rw [if_pos g2, if_neg (show ¬ c < 48 by omega), if_pos (show 57 < c by omega), if_neg (show ¬ c = 59 by omega), if_neg (show ¬ c = 38 by omega), if_neg (show ¬ (97 ≤ c ∧ c ≤ 122) by omega), if_neg (show ¬ (48 ≤ c ∧ c ≤ 57) by omega), if_neg (show ¬ c = 59 by omega), if_neg (show ¬ c = 38 by omega)]
    · rw [if_neg g2, if_pos (show 97 ≤ c ∧ c ≤ 122 by omega)]
theorem sort_K : qf_X14_sort N c K = some (srt c) := by
  unfold qf_X14_sort qf_X14_sort_J32 srt
  by_cases g1 : c = 32
  · rw [if_pos g1, if_pos g1]
  · rw [if_neg g1, if_neg g1]
    by_cases g2 : c = 10
    · rw [if_pos g2, if_pos g2]
    · rw [if_neg g2, if_neg g2]
      by_cases g3 : c ≤ 96
      · rw [if_pos g3, if_neg (show ¬ (97 ≤ c ∧ c ≤ 122) by omega)]
        by_cases g4 : c ≤ 47
        · rw [if_pos g4, if_neg (show ¬ (48 ≤ c ∧ c ≤ 57) by omega)]
        · rw [if_neg g4]
          by_cases g5 : 58 ≤ c
          · rw [if_pos g5, if_neg (show ¬ (48 ≤ c ∧ c ≤ 57) by omega)]
          · rw [if_neg g5, if_pos (show 48 ≤ c ∧ c ≤ 57 by omega)]
      · rw [if_neg g3]
        by_cases g4 : 123 ≤ c
        · rw [if_pos g4, if_neg (show ¬ (97 ≤ c ∧ c ≤ 122) by omega), if_neg (show ¬ c ≤ 47 by omega), if_pos (show 58 ≤ c by omega), if_neg (show ¬ (48 ≤ c ∧ c ≤ 57) by omega)]
        · rw [if_neg g4, if_pos (show 97 ≤ c ∧ c ≤ 122 by omega)]
/-- a word that begins at q -/
def TOK (T : Int → Int) (L q e : Int) : Prop := q < L ∧ ((isL (T q) ∧ RUN isL T L q e) ∨ (isD (T q) ∧ RUN isD T L q e) ∨ (¬ isB (T q) ∧ ¬ isL (T q) ∧ ¬ isD (T q) ∧ e = q + 1))
theorem tok_e (h : TOK T L q e) : q < e ∧ e ≤ L ∧ ¬ isB (T q) := by
  obtain ⟨h0, h⟩ := h
  rcases h with ⟨a, b⟩ | ⟨a, b⟩ | ⟨a, b, c, d⟩
  · have : e ≠ q := fun z => by
      rw [z] at b
      exact b.2.2.2 h0 a
    have := b.1
    have := b.2.1
    refine ⟨by omega, by omega, ?_⟩
    unfold isL at a
    unfold isB
    omega
  · have : e ≠ q := fun z => by
      rw [z] at b
      exact b.2.2.2 h0 a
    have := b.1
    have := b.2.1
    refine ⟨by omega, by omega, ?_⟩
    unfold isD at a
    unfold isB
    omega
  · exact ⟨by omega, by omega, a⟩
theorem tok_u (h : TOK T L q e) (h2 : TOK T L q x) : e = x := by
  obtain ⟨h0, h⟩ := h
  obtain ⟨_, h2⟩ := h2
  rcases h with ⟨a, b⟩ | ⟨a, b⟩ | ⟨a, b, c, d⟩
  · rcases h2 with ⟨a', b'⟩ | ⟨a', b'⟩ | ⟨a', b', c', d'⟩
    · exact run_u b b'
    · exact absurd ⟨a', a⟩ not_DL
    · exact absurd a b'
  · rcases h2 with ⟨a', b'⟩ | ⟨a', b'⟩ | ⟨a', b', c', d'⟩
    · exact absurd ⟨a, a'⟩ not_DL
    · exact run_u b b'
    · exact absurd a c'
  · rcases h2 with ⟨a', b'⟩ | ⟨a', b'⟩ | ⟨a', b', c', d'⟩
    · exact absurd a' b
    · exact absurd a' c
    · omega
theorem mskip_C (L0 : M 908 1 0 = L) (L1 : L ≤ 2000) (p0 : 0 ≤ p) (p1 : p ≤ L) : ∃ q, qf_X5_nextWord_L5 20000 20000 p M = some (.inr q) ∧ RUN isB (fun i => M 909 i 0) L p q := by
  obtain ⟨o, e1, q, rfl, h⟩ : qW (qf_X5_nextWord_L5 20000 20000 p M) (fun o => ∃ q, o = .inr q ∧ RUN isB (fun i => M 909 i 0) L p q) := by
    unfold qf_X5_nextWord_L5
    refine qW_loop (fun n => p ≤ n ∧ n ≤ L ∧ (∀ i, p ≤ i → i < n → isB (M 909 i 0))) (fun s => (L - s).toNat) ?_ 20000 _ ⟨Int.le_refl _, p1, fun i i0 i1 => by omega⟩ (by omega)
    rintro n ⟨n0, n1, h⟩
    unfold qf_X5_nextWord_L5_b
    rw [L0]
    by_cases g : L ≤ n
    · rw [if_pos g]
      exact qW_some ⟨n, rfl, n0, n1, h, fun z => by omega⟩
    · have c22 : 0 ≤ n ∧ n < 2200 := by omega
      have nx : isB (M 909 n 0) → p ≤ n + 1 ∧ n + 1 ≤ L ∧ (∀ i, p ≤ i → i < n + 1 → isB (M 909 i 0)) := fun d => ⟨by omega, by omega, fun i i0 i1 => by
        by_cases c : i = n
        · rw [c]; exact d
        · exact h i i0 (by omega)⟩
      rw [if_neg g, if_pos c22, w32_id (x := n + 1) (by omega) (by omega)]
      by_cases d : M 909 n 0 = 32
      · rw [if_pos d]
        exact qW_some ⟨nx (Or.inl d), by omega⟩
      · rw [if_neg d, if_pos c22]
        by_cases d2 : M 909 n 0 = 10
        · rw [if_pos d2]
          exact qW_some ⟨nx (Or.inr d2), by omega⟩
        · rw [if_neg d2]
          exact qW_some ⟨n, rfl, n0, n1, h, fun _ z => by
            have z : M 909 n 0 = 32 ∨ M 909 n 0 = 10 := z
            omega⟩
  exact ⟨q, e1, h⟩
theorem mrun_C (L0 : M 908 1 0 = L) (L1 : L ≤ 2000) (q0 : 0 ≤ q) (q1 : q ≤ L) (hk : M 908 5 0 = k) (hP : ∀ c, kdM c = k ↔ P c) (hz : M 908 8 0 = 0) : ∃ e, qf_X5_nextWord_L111 20000 20000 q 1 M = some (.inr (e, qw M 908 8 0 (nmv (fun i => M 909 i 0) q (e - q).toNat))) ∧ RUN P (fun i => M 909 i 0) L q e := by
  obtain ⟨o, e1, e, rfl, h⟩ : qW (qf_X5_nextWord_L111 20000 20000 q 1 M) (fun o => ∃ e, o = .inr (e, qw M 908 8 0 (nmv (fun i => M 909 i 0) q (e - q).toNat)) ∧ RUN P (fun i => M 909 i 0) L q e) := by
    unfold qf_X5_nextWord_L111
    refine qW_loop (fun s => ∃ n : Nat, s = (q + n, 1, qw M 908 8 0 (nmv (fun i => M 909 i 0) q n)) ∧ q + n ≤ L ∧ (∀ i, q ≤ i → i < q + n → P (M 909 i 0))) (fun s => (L - s.1).toNat) ?_ 20000 _ ⟨0, ?_, by omega, fun i i0 i1 => by omega⟩ ?_
    · rintro _ ⟨n, rfl, n1, h⟩
      have x1 : qw M 908 8 0 (nmv (fun i => M 909 i 0) q n) 908 1 0 = L := (qw_i (by decide)).trans L0
      have x2 : qw M 908 8 0 (nmv (fun i => M 909 i 0) q n) 909 (q + n) 0 = M 909 (q + n) 0 := qw_a (by decide)
      have x3 : qw M 908 8 0 (nmv (fun i => M 909 i 0) q n) 908 5 0 = k := (qw_i (by decide)).trans hk
      have x4 : qw M 908 8 0 (nmv (fun i => M 909 i 0) q n) 908 8 0 = nmv (fun i => M 909 i 0) q n := qw_s
      have fin : (L ≤ q + n ∨ ¬ P (M 909 (q + n) 0)) → ∃ e, (Sum.inr (q + (n : Int), qw M 908 8 0 (nmv (fun i => M 909 i 0) q n)) : (Unit × qm) ⊕ (Int × qm)) = .inr (e, qw M 908 8 0 (nmv (fun i => M 909 i 0) q (e - q).toNat)) ∧ RUN P (fun i => M 909 i 0) L q e := fun hh => by
        refine ⟨q + n, ?_, by omega, n1, h, fun z => ?_⟩
        · rw [show (q + (n : Int) - q).toNat = n by omega]
        · rcases hh with hh | hh
          · omega
          · exact hh
      unfold qf_X5_nextWord_L111_b
      (try dsimp only)
      rw [if_neg (show ¬ (1 : Int) = 0 by decide)]
      by_cases g : L ≤ q + n
      · rw [if_pos (show qw M 908 8 0 (nmv (fun i => M 909 i 0) q n) 908 1 0 ≤ q + (n : Int) by omega)]
        exact qW_some (fin (Or.inl g))
      · have c22 : 0 ≤ q + (n : Int) ∧ q + (n : Int) < 2200 := by omega
        rw [if_neg (show ¬ qw M 908 8 0 (nmv (fun i => M 909 i 0) q n) 908 1 0 ≤ q + (n : Int) by omega), if_pos c22, kind_C, x2, x4]
        refine qW_bind (qW_some ?_)
        by_cases d : kdM (M 909 (q + n) 0) = k
        · rw [if_pos (show kdM (M 909 (q + n) 0) = qw M 908 8 0 (nmv (fun i => M 909 i 0) q n) 908 5 0 by omega), if_pos c22, w32_id (x := q + (n : Int) + 1) (by omega) (by omega)]
          unfold qbnd
          rw [qw_qw, show q + (n : Int) + 1 = q + ((n + 1 : Nat) : Int) by omega]
          refine qW_some ⟨⟨n + 1, rfl, by omega, fun i i0 i1 => ?_⟩, ?_⟩
          · by_cases c : i = q + n
            · rw [c]
              exact (hP _).mp d
            · exact h i i0 (by omega)
          · show (L - (q + ((n + 1 : Nat) : Int))).toNat < (L - (q + (n : Int))).toNat
            omega
        · rw [if_neg (show ¬ kdM (M 909 (q + n) 0) = qw M 908 8 0 (nmv (fun i => M 909 i 0) q n) 908 5 0 by omega)]
          exact qW_some (fin (Or.inr (fun z => d ((hP _).mpr z))))
    · rw [show q + ((0 : Nat) : Int) = q by omega]
      show (q, (1 : Int), M) = (q, 1, qw M 908 8 0 0)
      rw [qw_eqv hz]
    · show (L - q).toNat < 20000
      omega
  exact ⟨e, e1, h⟩
/-- the class's next word -/
theorem nextw_C (L0 : M 908 1 0 = L) (L1 : L ≤ 2000) (hp : M 908 7 0 = p) (p0 : 0 ≤ p) (p1 : p ≤ L) (hw : M 908 4 0 = w) (w0 : -1 ≤ w) (w1 : w ≤ 10000) : ∃ A q e, qf_X5_nextWord 20000 M = some ((), A) ∧ (∀ b x y, ¬ (b = 908 ∧ 4 ≤ x ∧ x ≤ 8) → A b x y = M b x y) ∧ RUN isB (fun i => M 909 i 0) L p q ∧ A 908 4 0 = w + 1 ∧ A 908 6 0 = q ∧ A 908 7 0 = e ∧ ((q = L ∧ e = L ∧ A 908 5 0 = 101) ∨ (TOK (fun i => M 909 i 0) L q e ∧ A 908 5 0 = kdM (M 909 q 0) ∧ (isL (M 909 q 0) → A 908 8 0 = nmv (fun i => M 909 i 0) q (e - q).toNat))) := by
  obtain ⟨q, e1, h1⟩ := mskip_C L0 L1 p0 p1
  have q0 := h1.1
  have q1 := h1.2.1
  obtain ⟨B, hB⟩ : ∃ B, qw (qw (qw M 908 4 0 (w + 1)) 908 6 0 q) 908 8 0 0 = B := ⟨_, rfl⟩
  have fB : ∀ b x y, ¬ (b = 908 ∧ (x = 4 ∨ x = 6 ∨ x = 8)) → B b x y = M b x y := fun b x y z => by rw [← hB, qw_ap, if_neg (by omega), qw_ap, if_neg (by omega), qw_ap, if_neg (by omega)]
  have B4 : B 908 4 0 = w + 1 := by rw [← hB, qw_i (by decide), qw_i (by decide)]; exact qw_s
  have B6 : B 908 6 0 = q := by rw [← hB, qw_i (by decide)]; exact qw_s
  have B8 : B 908 8 0 = 0 := by rw [← hB]; exact qw_s
  have st : qf_X5_nextWord 20000 M = (if L ≤ q then qf_X5_nextWord_J84 20000 q 101 B else qf_X5_nextWord_J84 20000 q (kdM (M 909 q 0)) B) := by
    unfold qf_X5_nextWord
    rw [hp, e1]
    simp only [Option.bind_some]
    unfold qf_X5_nextWord_J41 qbnd
    (try dsimp only)
    rw [hw, w32_id (x := w + 1) (by omega) (by omega), hB, show B 908 1 0 = L from (fB _ _ _ (by omega)).trans L0]
    by_cases g : L ≤ q
    · rw [if_pos g, if_pos g]
    · rw [if_neg g, if_neg g, if_pos (show 0 ≤ q ∧ q < 2200 by omega), kind_C, show B 909 q 0 = M 909 q 0 from fB _ _ _ (by omega)]
      rfl
  -- no long word
  have short : ∀ k e, k ≠ 97 → k ≠ 48 → e = (if k = 101 then q else q + 1) → ∃ A, qf_X5_nextWord_J84 20000 q k B = some ((), A) ∧ (∀ b x y, ¬ (b = 908 ∧ 4 ≤ x ∧ x ≤ 8) → A b x y = M b x y) ∧ A 908 4 0 = w + 1 ∧ A 908 6 0 = q ∧ A 908 7 0 = e ∧ A 908 5 0 = k := fun k e k1 k2 he => by
    obtain ⟨D, hD⟩ : ∃ D, qw B 908 5 0 k = D := ⟨_, rfl⟩
    have fD : ∀ b x y, ¬ (b = 908 ∧ x = 5) → D b x y = B b x y := fun b x y z => by rw [← hD, qw_ap, if_neg (by omega)]
    have D5 : D 908 5 0 = k := by rw [← hD]; exact qw_s
    have l0 : qf_X5_nextWord_L111 20000 20000 q 0 D = some (.inr (q, D)) := by
      show qloop _ (19999 + 1) (q, 0, D) = _
      rw [qloop.eq_2]
      (try dsimp only)
      have : qf_X5_nextWord_L111_b 20000 q 0 D = some (.inl (.inr (q, D))) := by
        unfold qf_X5_nextWord_L111_b
        rw [if_pos rfl]
      rw [this]
    have e2 : qf_X5_nextWord_J84 20000 q k B = some ((), qw D 908 7 0 e) := by
      unfold qf_X5_nextWord_J84 qbnd
      rw [hD]
      (try dsimp only)
      rw [D5, if_neg k1, if_neg k2]
      unfold qf_X5_nextWord_J110
      rw [l0]
      simp only [Option.bind_some]
      unfold qf_X5_nextWord_J164 qf_X5_nextWord_J178 qbnd
      rw [if_pos rfl, D5, he, w32_id (x := q + 1) (by omega) (by omega)]
      by_cases g : k = 101
      · rw [if_pos g, if_pos g]
      · rw [if_neg g, if_neg g]
    refine ⟨_, e2, fun b x y z => ?_, ?_, ?_, qw_s, ?_⟩
    · rw [qw_ap, if_neg (by omega), fD b x y (by omega)]
      exact fB b x y (by omega)
    · rw [qw_i (by decide), fD _ _ _ (by omega)]
      exact B4
    · rw [qw_i (by decide), fD _ _ _ (by omega)]
      exact B6
    · rw [qw_i (by decide)]
      exact D5
  -- a long word
  have long : ∀ (k : Int) (P : Int → Prop), (k = 97 ∨ k = 48) → (∀ c, kdM c = k ↔ P c) → ∃ A e, qf_X5_nextWord_J84 20000 q k B = some ((), A) ∧ (∀ b x y, ¬ (b = 908 ∧ 4 ≤ x ∧ x ≤ 8) → A b x y = M b x y) ∧ A 908 4 0 = w + 1 ∧ A 908 6 0 = q ∧ A 908 7 0 = e ∧ A 908 5 0 = k ∧ RUN P (fun i => M 909 i 0) L q e ∧ A 908 8 0 = nmv (fun i => M 909 i 0) q (e - q).toNat := fun k P hk hP => by
    obtain ⟨D, hD⟩ : ∃ D, qw B 908 5 0 k = D := ⟨_, rfl⟩
    have fD : ∀ b x y, ¬ (b = 908 ∧ x = 5) → D b x y = B b x y := fun b x y z => by rw [← hD, qw_ap, if_neg (by omega)]
    have D5 : D 908 5 0 = k := by rw [← hD]; exact qw_s
    have tt : (fun i => D 909 i 0) = (fun i => M 909 i 0) := funext (fun i => (fD _ _ _ (by omega)).trans (fB _ _ _ (by omega)))
    obtain ⟨e, e2, h2⟩ := mrun_C (M := D) (P := P) ((fD _ _ _ (by omega)).trans ((fB _ _ _ (by omega)).trans L0)) L1 (show 0 ≤ q by omega) q1 D5 hP ((fD _ _ _ (by omega)).trans B8)
    rw [tt] at e2 h2
    obtain ⟨G, hG⟩ : ∃ G, qw D 908 8 0 (nmv (fun i => M 909 i 0) q (e - q).toNat) = G := ⟨_, rfl⟩
    rw [hG] at e2
    have e3 : qf_X5_nextWord_J84 20000 q k B = some ((), qw G 908 7 0 e) := by
      have j : qf_X5_nextWord_J110 20000 q 1 D = some ((), qw G 908 7 0 e) := by
        unfold qf_X5_nextWord_J110
        rw [e2]
        simp only [Option.bind_some]
        unfold qf_X5_nextWord_J164 qf_X5_nextWord_J178 qbnd
        rw [if_neg (show ¬ (1 : Int) = 0 by decide)]
      unfold qf_X5_nextWord_J84 qf_X5_nextWord_J105 qbnd
      rw [hD]
      (try dsimp only)
      rw [D5]
      rcases hk with g | g
      · rw [if_pos g]
        exact j
      · rw [if_neg (by omega), if_pos g]
        exact j
    refine ⟨_, e, e3, fun b x y z => ?_, ?_, ?_, qw_s, ?_, h2, ?_⟩
    · rw [qw_ap, if_neg (by omega), ← hG, qw_ap, if_neg (by omega), fD b x y (by omega)]
      exact fB b x y (by omega)
    · rw [qw_i (by decide), ← hG, qw_i (by decide), fD _ _ _ (by omega)]
      exact B4
    · rw [qw_i (by decide), ← hG, qw_i (by decide), fD _ _ _ (by omega)]
      exact B6
    · rw [qw_i (by decide), ← hG, qw_i (by decide)]
      exact D5
    · rw [qw_i (by decide), ← hG]
      exact qw_s
  rw [st]
  by_cases g : L ≤ q
  · rw [if_pos g]
    obtain ⟨A, a1, a2, a3, a4, a5, a6⟩ := short 101 q (by decide) (by decide) (by rw [if_pos rfl])
    exact ⟨A, q, q, a1, a2, h1, a3, a4, a5, Or.inl ⟨by omega, by omega, a6⟩⟩
  · rw [if_neg g]
    have nb : ¬ isB (M 909 q 0) := h1.2.2.2 (by omega)
    rcases kdM_c (c := M 909 q 0) with ⟨c, k⟩ | ⟨c, k⟩ | ⟨c, k⟩ | ⟨c, k⟩ | ⟨c1, c2, c3, c4, k⟩
    · rw [k]
      obtain ⟨A, e, a1, a2, a3, a4, a5, a6, a7, a8⟩ := long 97 isL (Or.inl rfl) (fun c => by
        have := kdM_c (c := c)
        unfold isL isD at *
        constructor <;> intro h <;> omega)
      exact ⟨A, q, e, a1, a2, h1, a3, a4, a5, Or.inr ⟨⟨by omega, Or.inl ⟨c, a7⟩⟩, a6.trans k.symm, fun _ => a8⟩⟩
    · rw [k]
      obtain ⟨A, e, a1, a2, a3, a4, a5, a6, a7, a8⟩ := long 48 isD (Or.inr rfl) (fun c => by
        have := kdM_c (c := c)
        unfold isL isD at *
        constructor <;> intro h <;> omega)
      exact ⟨A, q, e, a1, a2, h1, a3, a4, a5, Or.inr ⟨⟨by omega, Or.inr (Or.inl ⟨c, a7⟩)⟩, a6.trans k.symm, fun _ => a8⟩⟩
    · rw [k]
      obtain ⟨A, a1, a2, a3, a4, a5, a6⟩ := short 59 (q + 1) (by decide) (by decide) (by rw [if_neg (by decide)])
      have n1 : ¬ isL (M 909 q 0) := by unfold isL; omega
      have n2 : ¬ isD (M 909 q 0) := by unfold isD; omega
      exact ⟨A, q, q + 1, a1, a2, h1, a3, a4, a5, Or.inr ⟨⟨by omega, Or.inr (Or.inr ⟨nb, n1, n2, rfl⟩)⟩, a6.trans k.symm, fun z => absurd z n1⟩⟩
    · rw [k]
      obtain ⟨A, a1, a2, a3, a4, a5, a6⟩ := short 38 (q + 1) (by decide) (by decide) (by rw [if_neg (by decide)])
      have n1 : ¬ isL (M 909 q 0) := by unfold isL; omega
      have n2 : ¬ isD (M 909 q 0) := by unfold isD; omega
      exact ⟨A, q, q + 1, a1, a2, h1, a3, a4, a5, Or.inr ⟨⟨by omega, Or.inr (Or.inr ⟨nb, n1, n2, rfl⟩)⟩, a6.trans k.symm, fun z => absurd z n1⟩⟩
    · rw [k]
      obtain ⟨A, a1, a2, a3, a4, a5, a6⟩ := short 63 (q + 1) (by decide) (by decide) (by rw [if_neg (by decide)])
      exact ⟨A, q, q + 1, a1, a2, h1, a3, a4, a5, Or.inr ⟨⟨by omega, Or.inr (Or.inr ⟨nb, c1, c2, rfl⟩)⟩, a6.trans k.symm, fun z => absurd z c1⟩⟩
end MTa
