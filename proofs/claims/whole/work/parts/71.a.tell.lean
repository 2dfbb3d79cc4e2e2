/-! ===== what was told last: the reference's row of tellings, the class's notes ===== -/
def LT (K : qm) (kd w n v : Int) : Prop := (∃ t, 0 ≤ t ∧ t < n ∧ (K 2319 t 0) = kd ∧ (K 2320 t 0) = w ∧ (∀ s, t < s → s < n → ¬ ((K 2319 s 0) = kd ∧ (K 2320 s 0) = w)) ∧ v = (K 2321 t 0)) ∨ ((∀ s, 0 ≤ s → s < n → ¬ ((K 2319 s 0) = kd ∧ (K 2320 s 0) = w)) ∧ v = -1)
def LN (M : qm) (tg n v : Int) : Prop := (∃ k, 0 ≤ k ∧ k < (M 824 13 0) ∧ (M 906 (3 * k) 0) = tg ∧ (M 906 (3 * k + 2) 0) < n ∧ (∀ j, k < j → j < (M 824 13 0) → ¬ ((M 906 (3 * j) 0) = tg ∧ (M 906 (3 * j + 2) 0) < n)) ∧ v = (M 906 (3 * k + 1) 0)) ∨ ((∀ j, 0 ≤ j → j < (M 824 13 0) → ¬ ((M 906 (3 * j) 0) = tg ∧ (M 906 (3 * j + 2) 0) < n)) ∧ v = -1)
theorem lastTold_l {K : qm} {kd w n : Int} (n0 : 0 ≤ n) (n1 : n ≤ 4100) : qW (qf_X18_lastTold_L20 20000 20000 kd w (n - 1) K) (fun o => match o with
    | .inl v => LT K kd w n v
    | .inr _ => LT K kd w n (-1)) := by
  unfold qf_X18_lastTold_L20
  refine qW_loop (fun s => s.1 = kd ∧ s.2.1 = w ∧ -1 ≤ s.2.2 ∧ s.2.2 < n ∧ ∀ t, s.2.2 < t → t < n → ¬ ((K 2319 t 0) = kd ∧ (K 2320 t 0) = w)) (fun s => (s.2.2 + 1).toNat) ?_ 20000 (kd, w, n - 1) ⟨rfl, rfl, by show -1 ≤ n - 1; omega, by show n - 1 < n; omega, fun t a b => by have a : n - 1 < t := a; omega⟩ (by show (n - 1 + 1).toNat < 20000; omega)
  rintro ⟨a, b, i⟩ ⟨e1, e2, i0, i1, hi⟩
  (try dsimp only at e1 e2 i0 i1 hi)
  subst e1
  subst e2
  unfold qf_X18_lastTold_L20_b
  (try dsimp only)
  by_cases g : i < 0
  · rw [if_pos g]
    exact qW_some (Or.inr ⟨fun s s0 s1 => hi s (by omega) s1, rfl⟩)
  · have hr : 0 ≤ i ∧ i < 4100 := by omega
    have ew : w32 (i - 1) = i - 1 := w32_id (by omega) (by omega)
    have nx : ¬ ((K 2319 i 0) = a ∧ (K 2320 i 0) = b) → a = a ∧ b = b ∧ -1 ≤ i - 1 ∧ i - 1 < n ∧ (∀ t, i - 1 < t → t < n → ¬ ((K 2319 t 0) = a ∧ (K 2320 t 0) = b)) := fun h => ⟨rfl, rfl, by omega, by omega, fun t x y => by
      by_cases e : t = i
      · rw [e]
        exact h
      · exact hi t (by omega) y⟩
    have nm : (i - 1 + 1).toNat < (i + 1).toNat := by omega
    rw [if_neg g, if_pos hr, ew]
    by_cases h1 : (K 2319 i 0) = a
    · rw [if_pos h1, if_pos hr]
      by_cases h2 : (K 2320 i 0) = b
      · rw [if_pos h2, if_pos hr]
        exact qW_some (Or.inl ⟨i, hr.1, i1, h1, h2, hi, rfl⟩)
      · rw [if_neg h2]
        exact qW_some ⟨nx (fun h => h2 h.2), nm⟩
    · rw [if_neg h1]
      exact qW_some ⟨nx (fun h => h1 h.1), nm⟩
theorem lastTold_r {K : qm} {kd w b n : Int} (t0 : 0 ≤ (K 2156 45 0)) (t1 : (K 2156 45 0) ≤ 4100) (b0 : 0 ≤ b) (hn : n = if (K 2156 45 0) ≤ b then (K 2156 45 0) else b) : qW (qf_X18_lastTold 20000 kd w b K) (fun v => LT K kd w n v) := by
  have key : ∀ m, 0 ≤ m → m ≤ 4100 → qW (qf_X18_lastTold_J16 20000 kd w m K) (fun v => LT K kd w m v) := by
    intro m m0 m1
    unfold qf_X18_lastTold_J16
    rw [w32_id (x := m - 1) (by omega) (by omega)]
    refine qW_call (lastTold_l m0 m1) ?_
    rintro (o | o) h
    · exact qW_some h
    · exact qW_some h
  unfold qf_X18_lastTold
  by_cases g : (K 2156 45 0) ≤ b
  · rw [if_pos g] at hn ⊢
    rw [hn]
    exact key _ t0 t1
  · rw [if_neg g] at hn ⊢
    rw [hn]
    exact key _ b0 (by omega)
theorem latestNote_r {M : qm} {tg n : Int} (c0 : 0 ≤ (M 824 13 0)) (c1 : (M 824 13 0) ≤ 512) : qW (qf_X0_latestNote 20000 tg n M) (fun v => LN M tg n v) := by
  unfold qf_X0_latestNote
  rw [w32_id (x := (M 824 13 0) - 1) (by omega) (by omega)]
  refine qW_call (Q := fun o => match o with
    | .inl v => LN M tg n v
    | .inr _ => LN M tg n (-1)) ?_ ?_
  · unfold qf_X0_latestNote_L7
    refine qW_loop (fun s => s.1 = tg ∧ s.2.1 = n ∧ -1 ≤ s.2.2 ∧ s.2.2 < (M 824 13 0) ∧ ∀ j, s.2.2 < j → j < (M 824 13 0) → ¬ ((M 906 (3 * j) 0) = tg ∧ (M 906 (3 * j + 2) 0) < n)) (fun s => (s.2.2 + 1).toNat) ?_ 20000 (tg, n, (M 824 13 0) - 1) ⟨rfl, rfl, by show -1 ≤ (M 824 13 0) - 1; omega, by show (M 824 13 0) - 1 < (M 824 13 0); omega, fun t a b => by have a : (M 824 13 0) - 1 < t := a; omega⟩ (by show ((M 824 13 0) - 1 + 1).toNat < 20000; omega)
    rintro ⟨a, b, i⟩ ⟨e1, e2, i0, i1, hi⟩
    (try dsimp only at e1 e2 i0 i1 hi)
    subst e1
    subst e2
    unfold qf_X0_latestNote_L7_b
    (try dsimp only)
    by_cases g : i < 0
    · rw [if_pos g]
      exact qW_some (Or.inr ⟨fun s s0 s1 => hi s (by omega) s1, rfl⟩)
    · have hr : 0 ≤ 3 * i ∧ 3 * i < 1536 := by omega
      have hr1 : 0 ≤ 3 * i + 1 ∧ 3 * i + 1 < 1536 := by omega
      have hr2 : 0 ≤ 3 * i + 2 ∧ 3 * i + 2 < 1536 := by omega
      have ew : w32 (i - 1) = i - 1 := w32_id (by omega) (by omega)
      have e3 : w32 (3 * i) = 3 * i := w32_id (by omega) (by omega)
      have e4 : w32 (3 * i + 1) = 3 * i + 1 := w32_id (by omega) (by omega)
      have e5 : w32 (3 * i + 2) = 3 * i + 2 := w32_id (by omega) (by omega)
      have nx : ¬ ((M 906 (3 * i) 0) = a ∧ (M 906 (3 * i + 2) 0) < b) → a = a ∧ b = b ∧ -1 ≤ i - 1 ∧ i - 1 < (M 824 13 0) ∧ (∀ j, i - 1 < j → j < (M 824 13 0) → ¬ ((M 906 (3 * j) 0) = a ∧ (M 906 (3 * j + 2) 0) < b)) := fun h => ⟨rfl, rfl, by omega, by omega, fun t x y => by
        by_cases e : t = i
        · rw [e]
          exact h
        · exact hi t (by omega) y⟩
      have nm : (i - 1 + 1).toNat < (i + 1).toNat := by omega
      rw [if_neg g, e3, e4, e5, ew, if_pos hr]
      by_cases h1 : (M 906 (3 * i) 0) = a
      · rw [if_pos h1, if_pos hr2]
        by_cases h2 : b ≤ (M 906 (3 * i + 2) 0)
        · rw [if_pos h2]
          exact qW_some ⟨nx (fun h => by omega), nm⟩
        · rw [if_neg h2, if_pos hr1]
          exact qW_some (Or.inl ⟨i, by omega, i1, h1, by omega, hi, rfl⟩)
      · rw [if_neg h1]
        exact qW_some ⟨nx (fun h => h1 h.1), nm⟩
  · rintro (o | o) h
    · exact qW_some h
    · exact qW_some h
/-- both say the same -/
theorem LT_LN {M K : qm} {kd w tg n v u : Int} (h_tellt : R_tellt M K) (h_notek : R_notek M K) (h_noteo : R_noteo M K) (h_notex : R_notex M K) (hk : (kd = 2 ∧ tg = w ∧ w < 100) ∨ (kd = 3 ∧ tg = w + 100)) (w0 : 0 ≤ w) (hn : n ≤ (M 824 12 0)) (h : LT K kd w n v) (h2 : LN M tg n u) : v = u := by
  have mk : ∀ k, 0 ≤ k → k < (M 824 13 0) → (M 906 (3 * k) 0) = tg → (K 2319 (M 906 (3 * k + 2) 0) 0) = kd ∧ (K 2320 (M 906 (3 * k + 2) 0) 0) = w := by
    intro k k0 k1 e
    have q := h_notek k k0 k1
    omega
  have mk2 : ∀ k, 0 ≤ k → k < (M 824 13 0) → (K 2319 (M 906 (3 * k + 2) 0) 0) = kd → (K 2320 (M 906 (3 * k + 2) 0) 0) = w → (M 906 (3 * k) 0) = tg := by
    intro k k0 k1 e e2
    have q := h_notek k k0 k1
    omega
  rcases h with ⟨t, t0, t1, t2, t3, t4, t5⟩ | ⟨t4, t5⟩
  · obtain ⟨k, k0, k1, k2⟩ := h_notex t t0 (by omega) (by omega)
    have k3 := mk2 k k0 k1 (by rw [k2]; exact t2) (by rw [k2]; exact t3)
    rcases h2 with ⟨j, j0, j1, j2, j3, j4, j5⟩ | ⟨j4, j5⟩
    · by_cases e : j = k
      · have q := h_notek k k0 k1
        rw [k2] at q
        rw [t5, j5, e]
        exact q.2.2.2.1
      · by_cases e2 : j < k
        · exact absurd ⟨k3, by rw [k2]; exact t1⟩ (j4 k e2 k1)
        · have q := h_noteo k j k0 (by omega) j1
          rw [k2] at q
          exact absurd (mk j j0 j1 j2) (t4 _ q j3)
    · exact absurd ⟨k3, by rw [k2]; exact t1⟩ (j4 k k0 k1)
  · rcases h2 with ⟨j, j0, j1, j2, j3, j4, j5⟩ | ⟨j4, j5⟩
    · have q := h_notek j j0 j1
      exact absurd (mk j j0 j1 j2) (t4 _ q.1 j3)
    · rw [t5, j5]
theorem LN_n {M K : qm} {tg n v : Int} (h_notek : R_notek M K) (h_tellt : R_tellt M K) (h : LN M tg n v) : v = -1 ∨ 0 ≤ v := by
  rcases h with ⟨j, j0, j1, j2, j3, j4, j5⟩ | ⟨j4, j5⟩
  · have q := h_notek j j0 j1
    have q2 := h_tellt _ q.1 q.2.1
    omega
  · exact Or.inl j5
