/-! ===== rules: the class splits a word ===== -/
section WDb
variable {M K A : qm} {T : Int → Int} {L p q e e' k k' v v' i j x y z c : Int} {P : Int → Prop} {n N : Nat}
theorem numw_C (L0 : M 727 1 0 = L) (L1 : L ≤ 800) (q0 : 0 ≤ q) (q1 : q ≤ L) (j0 : 0 ≤ j) (j1 : j < 121) : ∃ e k v, qf_X6_splitNumber 20000 j q M = some (e, qw (qw M 730 j 0 v) 729 j 0 k) ∧ RUN isD (fun i => M 728 i 0) L q e ∧ ((e - q ≤ 9 ∧ k = 48 ∧ v = dgv (fun i => M 728 i 0) q (e - q).toNat) ∨ (9 < e - q ∧ k = 63)) := by
  obtain ⟨o, e1, e, v, rfl, h1, h2⟩ : qW (qf_X6_splitNumber_L5 20000 20000 j q q 0 M) (fun o => ∃ e v, o = .inr (e, v) ∧ RUN isD (fun i => M 728 i 0) L q e ∧ (e - q ≤ 9 → v = dgv (fun i => M 728 i 0) q (e - q).toNat)) := by
    unfold qf_X6_splitNumber_L5
    refine qW_loop (fun s => ∃ (n : Nat) (v : Int), s = (j, q, q + n, v) ∧ q + n ≤ L ∧ (∀ i, q ≤ i → i < q + n → isD (M 728 i 0)) ∧ (n ≤ 9 → v = dgv (fun i => M 728 i 0) q n)) (fun s => (L - s.2.2.1).toNat) ?_ 20000 _ ?_ ?_
    · rintro _ ⟨n, v, rfl, n1, hd, hv⟩
      unfold qf_X6_splitNumber_L5_b
      (try dsimp only)
      rw [L0]
      by_cases g : L ≤ q + n
      · rw [if_pos g]
        refine qW_some ⟨q + n, v, rfl, ⟨by omega, n1, hd, fun x => by omega⟩, fun x => ?_⟩
        rw [show (q + (n : Int) - q).toNat = n by omega]
        exact hv (by omega)
      · rw [if_neg g, if_pos (show 0 ≤ q + (n : Int) ∧ q + (n : Int) < 800 by omega), digit_C]
        refine qW_bind (qW_some ?_)
        by_cases d : isD (M 728 (q + n) 0)
        · rw [b01_t d, if_neg (by decide), if_pos (show 0 ≤ q + (n : Int) ∧ q + (n : Int) < 800 by omega), w32_id (x := q + (n : Int) + 1) (by omega) (by omega), show q + (n : Int) + 1 = q + ((n + 1 : Nat) : Int) by omega]
          refine qW_some ⟨⟨n + 1, _, rfl, by omega, fun i i0 i1 => ?_, fun x => ?_⟩, ?_⟩
          · by_cases c : i = q + n
            · rw [c]; exact d
            · exact hd i i0 (by omega)
          · have hv' := hv (by omega)
            have b9 := dgv_9 (T := fun i => M 728 i 0) (q := q) (n := n) (by omega) hd
            unfold isD at d
            show w64 (w64 (v * 10) + w32 (M 728 (q + n) 0 - 48)) = dgv (fun i => M 728 i 0) q n * 10 + (M 728 (q + n) 0 - 48)
            rw [hv', w32_id (by omega) (by omega), w64_id (x := dgv (fun i => M 728 i 0) q n * 10) (by omega) (by omega), w64_id (by omega) (by omega)]
          · show (L - (q + ((n + 1 : Nat) : Int))).toNat < (L - (q + (n : Int))).toNat
            omega
        · rw [b01_f d, if_pos rfl]
          refine qW_some ⟨q + n, v, rfl, ⟨by omega, n1, hd, fun _ => d⟩, fun x => ?_⟩
          rw [show (q + (n : Int) - q).toNat = n by omega]
          exact hv (by omega)
    · exact ⟨0, 0, by rw [show q + ((0 : Nat) : Int) = q by omega], by omega, fun i i0 i1 => by omega, fun _ => rfl⟩
    · show (L - q).toNat < 20000
      omega
  have r := h1.1
  have r2 := h1.2.1
  unfold qf_X6_splitNumber
  rw [e1]
  unfold qf_X6_splitNumber_J50 qbnd
  simp only [Option.bind_some]
  have cj : 0 ≤ j ∧ j < 121 := ⟨j0, j1⟩
  rw [if_pos cj, w32_id (x := e - q) (by omega) (by omega)]
  by_cases g : 9 < e - q
  · rw [if_pos g, if_pos cj]
    exact ⟨e, 63, v, rfl, h1, Or.inr ⟨g, rfl⟩⟩
  · rw [if_neg g, if_pos cj]
    exact ⟨e, 48, v, rfl, h1, Or.inl ⟨by omega, rfl, h2 (by omega)⟩⟩
theorem namw_C (L0 : M 727 1 0 = L) (L1 : L ≤ 800) (q0 : 0 ≤ q) (q1 : q ≤ L) (j0 : 0 ≤ j) (j1 : j < 121) : ∃ e k v, qf_X6_splitName 20000 j q M = some (e, qw (qw M 730 j 0 v) 729 j 0 k) ∧ RUN isL (fun i => M 728 i 0) L q e ∧ ((e - q ≤ 8 ∧ k = 97 ∧ v = nmv (fun i => M 728 i 0) q (e - q).toNat) ∨ (8 < e - q ∧ k = 63)) := by
  obtain ⟨o, e1, e, v, rfl, h1, h2⟩ : qW (qf_X6_splitName_L5 20000 20000 j q q 0 M) (fun o => ∃ e v, o = .inr (e, v) ∧ RUN isL (fun i => M 728 i 0) L q e ∧ (e - q ≤ 8 → v = nmv (fun i => M 728 i 0) q (e - q).toNat)) := by
    unfold qf_X6_splitName_L5
    refine qW_loop (fun s => ∃ (n : Nat) (v : Int), s = (j, q, q + n, v) ∧ q + n ≤ L ∧ (∀ i, q ≤ i → i < q + n → isL (M 728 i 0)) ∧ (n ≤ 8 → v = nmv (fun i => M 728 i 0) q n)) (fun s => (L - s.2.2.1).toNat) ?_ 20000 _ ?_ ?_
    · rintro _ ⟨n, v, rfl, n1, hd, hv⟩
      unfold qf_X6_splitName_L5_b
      (try dsimp only)
      rw [L0]
      by_cases g : L ≤ q + n
      · rw [if_pos g]
        refine qW_some ⟨q + n, v, rfl, ⟨by omega, n1, hd, fun x => by omega⟩, fun x => ?_⟩
        rw [show (q + (n : Int) - q).toNat = n by omega]
        exact hv (by omega)
      · rw [if_neg g, if_pos (show 0 ≤ q + (n : Int) ∧ q + (n : Int) < 800 by omega), letter_C]
        refine qW_bind (qW_some ?_)
        by_cases d : isL (M 728 (q + n) 0)
        · rw [b01_t d, if_neg (by decide), if_pos (show 0 ≤ q + (n : Int) ∧ q + (n : Int) < 800 by omega), w32_id (x := q + (n : Int) + 1) (by omega) (by omega), show q + (n : Int) + 1 = q + ((n + 1 : Nat) : Int) by omega]
          refine qW_some ⟨⟨n + 1, _, rfl, by omega, fun i i0 i1 => ?_, fun x => ?_⟩, ?_⟩
          · by_cases c : i = q + n
            · rw [c]; exact d
            · exact hd i i0 (by omega)
          · have hv' := hv (by omega)
            show lO (lL v 8) (M 728 (q + n) 0) = lO (lL (nmv (fun i => M 728 i 0) q n) 8) (M 728 (q + n) 0)
            rw [hv']
          · show (L - (q + ((n + 1 : Nat) : Int))).toNat < (L - (q + (n : Int))).toNat
            omega
        · rw [b01_f d, if_pos rfl]
          refine qW_some ⟨q + n, v, rfl, ⟨by omega, n1, hd, fun _ => d⟩, fun x => ?_⟩
          rw [show (q + (n : Int) - q).toNat = n by omega]
          exact hv (by omega)
    · exact ⟨0, 0, by rw [show q + ((0 : Nat) : Int) = q by omega], by omega, fun i i0 i1 => by omega, fun _ => rfl⟩
    · show (L - q).toNat < 20000
      omega
  have r := h1.1
  have r2 := h1.2.1
  unfold qf_X6_splitName
  rw [e1]
  unfold qf_X6_splitName_J46 qbnd
  simp only [Option.bind_some]
  have cj : 0 ≤ j ∧ j < 121 := ⟨j0, j1⟩
  rw [if_pos cj, w32_id (x := e - q) (by omega) (by omega)]
  by_cases g : 8 < e - q
  · rw [if_pos g, if_pos cj]
    exact ⟨e, 63, v, rfl, h1, Or.inr ⟨g, rfl⟩⟩
  · rw [if_neg g, if_pos cj]
    exact ⟨e, 97, v, rfl, h1, Or.inl ⟨by omega, rfl, h2 (by omega)⟩⟩
/-- < or > and = behind it -/
def dbl (T : Int → Int) (L q : Int) : Prop := (T q = 60 ∨ T q = 62) ∧ q + 1 < L ∧ T (q + 1) = 61
/-- a word that begins at q: its kind, its value, where it ends -/
def WD2 (T : Int → Int) (L q k v e : Int) : Prop := (isD (T q) ∧ RUN isD T L q e ∧ ((e - q ≤ 9 ∧ k = 48 ∧ v = dgv T q (e - q).toNat) ∨ (9 < e - q ∧ k = 63))) ∨ (isL (T q) ∧ RUN isL T L q e ∧ ((e - q ≤ 8 ∧ k = 97 ∧ v = nmv T q (e - q).toNat) ∨ (8 < e - q ∧ k = 63))) ∨ (¬ isD (T q) ∧ ¬ isL (T q) ∧ ((dbl T L q ∧ e = q + 2 ∧ ((T q = 60 ∧ k = 108) ∨ (T q = 62 ∧ k = 103))) ∨ (¬ dbl T L q ∧ e = q + 1 ∧ ((isG (T q) ∧ k = T q) ∨ (¬ isG (T q) ∧ k = 63)))))
theorem not_DL : ¬ (isD c ∧ isL c) := by
  unfold isD isL
  omega
theorem wd2_u (h : WD2 T L q k v e) (h2 : WD2 T L q k' v' e') : k = k' ∧ e = e' ∧ (k = 48 ∨ k = 97 → v = v') := by
  unfold WD2 at h h2
  rcases h with ⟨a, b, c⟩ | ⟨a, b, c⟩ | ⟨a, b, c⟩
  · rcases h2 with ⟨a', b', c'⟩ | ⟨a', b', c'⟩ | ⟨a', b', c'⟩
    · have r := run_u b b'
      rw [← r] at c'
      rcases c with c | c
      · rcases c' with c' | c'
        · exact ⟨by omega, r, fun _ => by rw [c.2.2, c'.2.2]⟩
        · omega
      · rcases c' with c' | c'
        · omega
        · exact ⟨by omega, r, fun _ => by omega⟩
    · exact absurd ⟨a, a'⟩ not_DL
    · exact absurd a a'
  · rcases h2 with ⟨a', b', c'⟩ | ⟨a', b', c'⟩ | ⟨a', b', c'⟩
    · exact absurd ⟨a', a⟩ not_DL
    · have r := run_u b b'
      rw [← r] at c'
      rcases c with c | c
      · rcases c' with c' | c'
        · exact ⟨by omega, r, fun _ => by rw [c.2.2, c'.2.2]⟩
        · omega
      · rcases c' with c' | c'
        · omega
        · exact ⟨by omega, r, fun _ => by omega⟩
    · exact absurd a b'
  · rcases h2 with ⟨a', b', c'⟩ | ⟨a', b', c'⟩ | ⟨a', b', c'⟩
    · exact absurd a' a
    · exact absurd a' b
    · rcases c with ⟨d, e1, s⟩ | ⟨d, e1, s⟩
      · rcases c' with ⟨d', e1', s'⟩ | ⟨d', e1', s'⟩
        · exact ⟨by omega, by omega, fun _ => by omega⟩
        · exact absurd d d'
      · rcases c' with ⟨d', e1', s'⟩ | ⟨d', e1', s'⟩
        · exact absurd d' d
        · refine ⟨?_, by omega, fun z => ?_⟩
          · rcases s with s | s
            · rcases s' with s' | s'
              · omega
              · exact absurd s.1 s'.1
            · rcases s' with s' | s'
              · exact absurd s'.1 s.1
              · omega
          · rcases s with s | s
            · unfold isG at s
              omega
            · omega
theorem wd2_e (h : WD2 T L q k v e) (hq : q < L) : q < e ∧ e ≤ L ∧ k ≠ 101 := by
  unfold WD2 at h
  rcases h with ⟨a, b, c⟩ | ⟨a, b, c⟩ | ⟨a, b, c⟩
  · refine ⟨?_, b.2.1, by omega⟩
    by_cases g : e = q
    · rw [g] at b
      exact absurd a (b.2.2.2 hq)
    · have := b.1
      omega
  · refine ⟨?_, b.2.1, by omega⟩
    by_cases g : e = q
    · rw [g] at b
      exact absurd a (b.2.2.2 hq)
    · have := b.1
      omega
  · rcases c with ⟨d, e1, s⟩ | ⟨d, e1, s⟩
    · unfold dbl at d
      omega
    · unfold isG at s
      omega
theorem splitw_C (L0 : M 727 1 0 = L) (L1 : L ≤ 800) (q0 : 0 ≤ q) (q1 : q < L) (j0 : 0 ≤ j) (j1 : j < 121) : ∃ e A, qf_X6_splitWord 20000 j q M = some (e, A) ∧ (∀ b x y, ¬ (b = 729 ∧ x = j) → ¬ (b = 730 ∧ x = j) → A b x y = M b x y) ∧ WD2 (fun i => M 728 i 0) L q (A 729 j 0) (A 730 j 0) e := by
  have fr : ∀ v k b x y, ¬ (b = 729 ∧ x = j) → ¬ (b = 730 ∧ x = j) → qw (qw M 730 j 0 v) 729 j 0 k b x y = M b x y := fun v k b x y h1 h2 => by
    rw [qw_ap, if_neg (by omega), qw_ap, if_neg (by omega)]
  have f1 : ∀ k b x y, ¬ (b = 729 ∧ x = j) → ¬ (b = 730 ∧ x = j) → qw M 729 j 0 k b x y = M b x y := fun k b x y h1 h2 => by
    rw [qw_ap, if_neg (by omega)]
  unfold qf_X6_splitWord
  rw [if_pos (show 0 ≤ q ∧ q < 800 by omega), digit_C, letter_C]
  simp only [Option.bind_some]
  by_cases d : isD (M 728 q 0)
  · rw [b01_t d, if_neg (by decide)]
    obtain ⟨e, k, v, e1, h1, h2⟩ := numw_C L0 L1 q0 (Int.le_of_lt q1) j0 j1
    rw [e1]
    refine ⟨e, _, rfl, fr v k, Or.inl ⟨d, h1, ?_⟩⟩
    have x1 : qw (qw M 730 j 0 v) 729 j 0 k 729 j 0 = k := qw_s
    have x2 : qw (qw M 730 j 0 v) 729 j 0 k 730 j 0 = v := (qw_a (by decide)).trans qw_s
    (try dsimp only)
    rw [x1, x2]
    exact h2
  · rw [b01_f d, if_pos rfl]
    by_cases l : isL (M 728 q 0)
    · rw [b01_t l, if_neg (by decide)]
      obtain ⟨e, k, v, e1, h1, h2⟩ := namw_C L0 L1 q0 (Int.le_of_lt q1) j0 j1
      rw [e1]
      refine ⟨e, _, rfl, fr v k, Or.inr (Or.inl ⟨l, h1, ?_⟩)⟩
      have x1 : qw (qw M 730 j 0 v) 729 j 0 k 729 j 0 = k := qw_s
      have x2 : qw (qw M 730 j 0 v) 729 j 0 k 730 j 0 = v := (qw_a (by decide)).trans qw_s
      (try dsimp only)
      rw [x1, x2]
      exact h2
    · rw [b01_f l, if_pos rfl]
      have j75 : ¬ dbl (fun i => M 728 i 0) L q → ∃ e A, qf_X6_splitWord_J75 20000 j q (M 728 q 0) 0 M = some (e, A) ∧ (∀ b x y, ¬ (b = 729 ∧ x = j) → ¬ (b = 730 ∧ x = j) → A b x y = M b x y) ∧ WD2 (fun i => M 728 i 0) L q (A 729 j 0) (A 730 j 0) e := fun nd => by
        unfold qf_X6_splitWord_J75
        rw [if_pos rfl, gsign_C]
        simp only [Option.bind_some]
        unfold qf_X6_splitWord_J123 qbnd
        rw [if_pos (show 0 ≤ j ∧ j < 121 from ⟨j0, j1⟩), if_pos (show 0 ≤ j ∧ j < 121 from ⟨j0, j1⟩), w32_id (x := q + 1) (by omega) (by omega)]
        by_cases s : isG (M 728 q 0)
        · rw [b01_t s, if_neg (by decide)]
          exact ⟨q + 1, _, rfl, f1 _, Or.inr (Or.inr ⟨d, l, Or.inr ⟨nd, rfl, Or.inl ⟨s, qw_s⟩⟩⟩)⟩
        · rw [b01_f s, if_pos rfl]
          exact ⟨q + 1, _, rfl, f1 _, Or.inr (Or.inr ⟨d, l, Or.inr ⟨nd, rfl, Or.inr ⟨s, qw_s⟩⟩⟩)⟩
      have j47 : (M 728 q 0 = 60 ∨ M 728 q 0 = 62) → ∃ e A, qf_X6_splitWord_J47 20000 j q (M 728 q 0) M = some (e, A) ∧ (∀ b x y, ¬ (b = 729 ∧ x = j) → ¬ (b = 730 ∧ x = j) → A b x y = M b x y) ∧ WD2 (fun i => M 728 i 0) L q (A 729 j 0) (A 730 j 0) e := fun c6 => by
        unfold qf_X6_splitWord_J47 qf_X6_splitWord_J74
        rw [w32_id (x := q + 1) (by omega) (by omega), L0]
        by_cases g : L ≤ q + 1
        · rw [if_pos g]
          exact j75 (fun z => by have z' : ((M 728 q 0 = 60 ∨ M 728 q 0 = 62) ∧ q + 1 < L) := ⟨z.1, z.2.1⟩; omega)
        · rw [if_neg g, if_pos (show 0 ≤ q + 1 ∧ q + 1 < 800 by omega)]
          by_cases g2 : M 728 (q + 1) 0 = 61
          · rw [if_pos g2]
            unfold qf_X6_splitWord_J75
            rw [if_neg (by decide)]
            unfold qf_X6_splitWord_J100 qbnd
            rw [if_pos (show 0 ≤ j ∧ j < 121 from ⟨j0, j1⟩), if_pos (show 0 ≤ j ∧ j < 121 from ⟨j0, j1⟩), w32_id (x := q + 2) (by omega) (by omega)]
            by_cases c : M 728 q 0 = 60
            · rw [if_pos c]
              exact ⟨q + 2, _, rfl, f1 _, Or.inr (Or.inr ⟨d, l, Or.inl ⟨⟨c6, by omega, g2⟩, rfl, Or.inl ⟨c, qw_s⟩⟩⟩)⟩
            · rw [if_neg c]
              have c62 : M 728 q 0 = 62 := (by omega)
              exact ⟨q + 2, _, rfl, f1 _, Or.inr (Or.inr ⟨d, l, Or.inl ⟨⟨c6, by omega, g2⟩, rfl, Or.inr ⟨c62, qw_s⟩⟩⟩)⟩
          · rw [if_neg g2]
            exact j75 (fun z => g2 z.2.2)
      by_cases c : M 728 q 0 = 60
      · rw [if_pos c]
        exact j47 (Or.inl c)
      · rw [if_neg c]
        by_cases c2 : M 728 q 0 = 62
        · rw [if_pos c2]
          exact j47 (Or.inr c2)
        · rw [if_neg c2]
          unfold qf_X6_splitWord_J74
          exact j75 (fun z => by have z' : ((M 728 q 0 = 60 ∨ M 728 q 0 = 62) ∧ q + 1 < L) := ⟨z.1, z.2.1⟩; omega)
end WDb
