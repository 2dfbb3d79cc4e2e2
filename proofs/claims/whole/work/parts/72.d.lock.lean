/-! ===== airlocks: bits against a list ===== -/
def alk (M : qm) (a b : Int) : Bool := bt (M 827 (a * (M 824 7 0) + b / 64) 0) (b % 64)
def lkE (K : qm) (k a b : Int) : Prop := ((K 2302 k 0) = a ∧ (K 2303 k 0) = b) ∨ ((K 2302 k 0) = b ∧ (K 2303 k 0) = a)
def R_lockb (M K : qm) : Prop := ∀ a b, 0 ≤ a → a < (M 824 3 0) → 0 ≤ b → b < (M 824 3 0) → (alk M a b = true ↔ ∃ k, 0 ≤ k ∧ k < (K 2156 24 0) ∧ lkE K k a b)
theorem R_lockb_x {M M' K K' : qm} (e0 : M' 824 3 0 = M 824 3 0) (e1 : M' 824 7 0 = M 824 7 0) (e2 : ∀ i j, M' 827 i j = M 827 i j) (e3 : K' 2156 24 0 = K 2156 24 0) (e4 : ∀ i j, K' 2302 i j = K 2302 i j) (e5 : ∀ i j, K' 2303 i j = K 2303 i j) (h : R_lockb M K) : R_lockb M' K' := by
  unfold R_lockb alk lkE at *
  simp only [e0, e1, e2, e3, e4, e5]
  exact h
section LK
variable {M K : qm} {a b p : Int}
theorem lk_ix (h : R_portn M K) (a0 : 0 ≤ a) (a1 : a < (M 824 3 0)) (b0 : 0 ≤ b) (b1 : b < (M 824 3 0)) : 0 ≤ a * (M 824 7 0) + b / 64 ∧ a * (M 824 7 0) + b / 64 < M 827 (-1) 0 ∧ a * (M 824 7 0) + b / 64 < 30000 ∧ 0 ≤ a * (M 824 7 0) ∧ a * (M 824 7 0) < 30000 ∧ b / 64 < (M 824 7 0) ∧ 0 ≤ b / 64 := by
  obtain ⟨h1, h2, h3, h4, h5, h6, h7, h8⟩ := h
  have w1 : b / 64 < (M 824 7 0) := by omega
  have w2 : (M 824 7 0) ≤ 21 := by omega
  have w0 : 0 ≤ (M 824 7 0) := by omega
  have m1 : 0 ≤ a * (M 824 7 0) := Int.mul_nonneg a0 w0
  have m2 : a * (M 824 7 0) ≤ ((M 824 3 0) - 1) * (M 824 7 0) := Int.mul_le_mul_of_nonneg_right (by omega) w0
  have m3 : ((M 824 3 0) - 1) * (M 824 7 0) = (M 824 3 0) * (M 824 7 0) - (M 824 7 0) := by rw [Int.sub_mul, Int.one_mul]
  have m4 : (M 824 3 0) * (M 824 7 0) ≤ 1320 * (M 824 7 0) := Int.mul_le_mul_of_nonneg_right h2 w0
  refine ⟨by omega, by omega, by omega, m1, by omega, w1, by omega⟩
theorem lk_uq (h : R_portn M K) {c d : Int} (a0 : 0 ≤ a) (a1 : a < (M 824 3 0)) (b0 : 0 ≤ b) (b1 : b < (M 824 3 0)) (c0 : 0 ≤ c) (c1 : c < (M 824 3 0)) (d0 : 0 ≤ d) (d1 : d < (M 824 3 0)) (e : a * (M 824 7 0) + b / 64 = c * (M 824 7 0) + d / 64) : a = c ∧ b / 64 = d / 64 := by
  have q1 := lk_ix h a0 a1 b0 b1
  have q2 := lk_ix h c0 c1 d0 d1
  have w0 : 0 < (M 824 7 0) := by omega
  have x1 : (a * (M 824 7 0) + b / 64) / (M 824 7 0) = a := by
    rw [Int.add_comm, Int.add_mul_ediv_right _ _ (by omega), Int.ediv_eq_zero_of_lt q1.2.2.2.2.2.2 q1.2.2.2.2.2.1, Int.zero_add]
  have x2 : (c * (M 824 7 0) + d / 64) / (M 824 7 0) = c := by
    rw [Int.add_comm, Int.add_mul_ediv_right _ _ (by omega), Int.ediv_eq_zero_of_lt q2.2.2.2.2.2.2 q2.2.2.2.2.2.1, Int.zero_add]
  have x3 : a = c := by rw [← x1, ← x2, e]
  refine ⟨x3, ?_⟩
  rw [x3] at e
  omega
theorem isAirlock_r (h : R_portn M K) (a0 : 0 ≤ a) (a1 : a < (M 824 3 0)) (b0 : 0 ≤ b) (b1 : b < (M 824 3 0)) : qf_X0_isAirlock 20000 a b M = some (if alk M a b = true then 1 else 0) := by
  have q := lk_ix h a0 a1 b0 b1
  unfold qf_X0_isAirlock
  rw [w32_id (x := a * (M 824 7 0)) (by omega) (by omega), show Int.tdiv b 64 = b / 64 from Int.tdiv_eq_ediv_of_nonneg b0, show Int.tmod b 64 = b % 64 from Int.tmod_eq_emod_of_nonneg b0, w32_id (x := a * (M 824 7 0) + b / 64) (by omega) (by omega), if_pos (show 0 ≤ a * (M 824 7 0) + b / 64 ∧ a * (M 824 7 0) + b / 64 < M 827 (-1) 0 from ⟨q.1, q.2.1⟩), bt_r (by omega) (by omega)]
  unfold alk
  by_cases e : bt (M 827 (a * (M 824 7 0) + b / 64) 0) (b % 64) = true
  · rw [if_pos e, if_neg (by decide)]
  · rw [if_neg e, if_pos rfl]
def LKp (M : qm) (p : Int) : Prop := ∃ o, 0 ≤ o ∧ o < (M 824 3 0) ∧ alk M p o = true ∧ M 825 (13 * o + 8) 0 ≠ 0
theorem isLocked_r (h : R_portn M K) (p0 : 0 ≤ p) (p1 : p < (M 824 3 0)) : qf_X0_isLocked 20000 p M = some (b01 (LKp M p)) := by
  have hp := pnM_of h
  refine qW_e ?_
  unfold qf_X0_isLocked qf_X0_isLocked_L2
  refine qW_call (Q := fun o => match o with
    | .inl r => r = 1 ∧ LKp M p
    | .inr _ => ¬ LKp M p) ?_ ?_
  · refine qW_for (M 824 3 0) (fun i s => s = (p, i) ∧ ∀ k, 0 ≤ k → k < i → ¬ (alk M p k = true ∧ M 825 (13 * k + 8) 0 ≠ 0)) ?_ ?_ ⟨rfl, all_0⟩ h.1 (by have := hp.2.1; omega)
    · rintro i _ i0 i1 ⟨rfl, hi⟩
      have e1 : w32 (i + 1) = i + 1 := w32_id (by omega) (by have := hp.2.1; omega)
      unfold qf_X0_isLocked_L2_b
      (try dsimp only)
      rw [if_neg (show ¬ (M 824 3 0) ≤ i by omega), isAirlock_r h p0 p1 i0 i1, factOf_r hp i0 i1 (by decide) (by decide), e1]
      by_cases g1 : alk M p i = true
      · rw [if_pos g1]
        refine qW_bind (qW_some ?_)
        rw [if_neg (by decide)]
        refine qW_bind (qW_some ?_)
        by_cases g2 : M 825 (13 * i + 8) 0 = 0
        · rw [if_pos g2]
          exact qW_some ⟨rfl, all_s hi (fun x => x.2 g2)⟩
        · rw [if_neg g2]
          exact qW_some ⟨rfl, i, i0, i1, g1, g2⟩
      · rw [if_neg g1]
        refine qW_bind (qW_some ?_)
        rw [if_pos rfl]
        exact qW_some ⟨rfl, all_s hi (fun x => g1 x.1)⟩
    · rintro _ ⟨rfl, hi⟩
      unfold qf_X0_isLocked_L2_b
      (try dsimp only)
      rw [if_pos (Int.le_refl _)]
      exact qW_some (fun ⟨k, k0, k1, k2⟩ => hi k k0 k1 k2)
  · rintro (o | o) x
    · exact qW_some (by rw [b01_t x.2]; exact x.1)
    · exact qW_some (b01_f x).symm
def lkO (K : qm) (p k : Int) : Prop := ((K 2302 k 0) = p ∧ (K 2295 (K 2303 k 0) 0) ≠ 0) ∨ ((K 2303 k 0) = p ∧ (K 2295 (K 2302 k 0) 0) ≠ 0)
theorem lk_eq (h1 : R_lockb M K) (h2 : R_lockr M K) (h3 : R_porto M K) (p0 : 0 ≤ p) (p1 : p < (M 824 3 0)) : LKp M p ↔ ∃ k, 0 ≤ k ∧ k < (K 2156 24 0) ∧ lkO K p k := by
  constructor
  · rintro ⟨o, o0, o1, g1, g2⟩
    obtain ⟨k, k0, k1, k2⟩ := (h1 p o p0 p1 o0 o1).mp g1
    have q := h3 o o0 o1
    refine ⟨k, k0, k1, ?_⟩
    rcases k2 with ⟨x, y⟩ | ⟨x, y⟩
    · exact Or.inl ⟨x, by rw [y]; omega⟩
    · exact Or.inr ⟨y, by rw [x]; omega⟩
  · rintro ⟨k, k0, k1, k2⟩
    have q := h2 k k0 k1
    rcases k2 with ⟨x, y⟩ | ⟨x, y⟩
    · have z := h3 (K 2303 k 0) q.2.2.1 q.2.2.2.1
      exact ⟨(K 2303 k 0), q.2.2.1, q.2.2.2.1, (h1 p _ p0 p1 q.2.2.1 q.2.2.2.1).mpr ⟨k, k0, k1, Or.inl ⟨x, rfl⟩⟩, by omega⟩
    · have z := h3 (K 2302 k 0) q.1 q.2.1
      exact ⟨(K 2302 k 0), q.1, q.2.1, (h1 p _ p0 p1 q.1 q.2.1).mpr ⟨k, k0, k1, Or.inr ⟨rfl, x⟩⟩, by omega⟩
/-- the reference's look at the locks, from what was found before -/
theorem refLoop_r (h0 : 0 ≤ (K 2156 24 0)) (h2 : R_lockr M K) (hl : (K 2156 24 0) ≤ 4100) (hpn : (M 824 3 0) ≤ 1320) : qW (qf_X18_refused_L115 20000 20000 p 0 0 K) (fun o => o = .inr (if b01 (∃ k, 0 ≤ k ∧ k < (K 2156 24 0) ∧ lkO K p k) = 0 then 0 else 6)) := by
  unfold qf_X18_refused_L115
  refine qW_for (K 2156 24 0) (fun i s => s = (p, (if b01 (∃ k, 0 ≤ k ∧ k < i ∧ lkO K p k) = 0 then 0 else 6), i)) ?_ ?_ ?_ h0 (by omega)
  · rintro i _ i0 i1 rfl
    have e1 : w32 (i + 1) = i + 1 := w32_id (by omega) (by omega)
    have hr : 0 ≤ i ∧ i < 4100 := by omega
    have q := h2 i i0 i1
    have ha : 0 ≤ (K 2302 i 0) ∧ (K 2302 i 0) < 1400 := by omega
    have hb : 0 ≤ (K 2303 i 0) ∧ (K 2303 i 0) < 1400 := by omega
    have hs : b01 (∃ k, 0 ≤ k ∧ k < i + 1 ∧ lkO K p k) = b01 ((∃ k, 0 ≤ k ∧ k < i ∧ lkO K p k) ∨ lkO K p i) := b01_c (ex_s i0)
    unfold qf_X18_refused_L115_b qf_X18_refused_J159 qf_X18_refused_J160 qf_X18_refused_J193 qf_X18_refused_J198
    (try dsimp only)
    rw [if_neg (show ¬ (K 2156 24 0) ≤ i by omega), e1]
    rcases b01_o (p := ∃ k, 0 ≤ k ∧ k < i ∧ lkO K p k) with ⟨f1, f2⟩ | ⟨f1, f2⟩
    · rw [f1, if_neg (show ¬ (1 : Int) = 0 by decide), if_neg (show ¬ (6 : Int) = 0 by decide)]
      refine qW_some ?_
      obtain ⟨k, k0, k1, k2⟩ := f2
      show Sum.inr 6 = Sum.inr _
      rw [b01_t ⟨k, k0, by omega, k2⟩, if_neg (by decide)]
    · rw [f1, if_pos (show (0 : Int) = 0 from rfl), if_pos (show (0 : Int) = 0 from rfl)]
      simp only [if_pos hr, if_pos ha, if_pos hb, if_true, reduceIte, if_neg (show ¬ (1 : Int) = 0 by decide)]
      have no : ¬ lkO K p i → (if b01 (∃ k, 0 ≤ k ∧ k < i + 1 ∧ lkO K p k) = 0 then (0 : Int) else 6) = 0 := fun h => by rw [hs, b01_f (fun x => x.elim f2 h), if_pos rfl]
      have ye : lkO K p i → (if b01 (∃ k, 0 ≤ k ∧ k < i + 1 ∧ lkO K p k) = 0 then (0 : Int) else 6) = 6 := fun h => by rw [hs, b01_t (Or.inr h), if_neg (by decide)]
      have nn : ¬ lkO K p i → qW (some (.inr (p, 0, i + 1)) : Option ((Int ⊕ Int) ⊕ (Int × Int × Int))) (fun o => o = Sum.inr (p, (if b01 (∃ k, 0 ≤ k ∧ k < i + 1 ∧ lkO K p k) = 0 then (0 : Int) else 6), i + 1)) := fun h => qW_some (by rw [no h])
      have yy : lkO K p i → qW (some (.inr (p, 6, i + 1)) : Option ((Int ⊕ Int) ⊕ (Int × Int × Int))) (fun o => o = Sum.inr (p, (if b01 (∃ k, 0 ≤ k ∧ k < i + 1 ∧ lkO K p k) = 0 then (0 : Int) else 6), i + 1)) := fun h => qW_some (by rw [ye h])
      refine qW_mono (Q := (fun o => o = Sum.inr (p, (if b01 (∃ k, 0 ≤ k ∧ k < i + 1 ∧ lkO K p k) = 0 then (0 : Int) else 6), i + 1))) ?_ (by rintro _ rfl; exact rfl)
      by_cases g1 : (K 2302 i 0) = p
      · rw [if_pos g1]
        by_cases g2 : (K 2295 (K 2303 i 0) 0) = 0
        · rw [if_pos g2]
          by_cases g3 : (K 2303 i 0) = p
          · omega
          · rw [if_neg g3]
            exact nn (fun x => by rcases x with x | x; exact x.2 g2; exact g3 x.1)
        · rw [if_neg g2]
          exact yy (Or.inl ⟨g1, g2⟩)
      · rw [if_neg g1]
        by_cases g3 : (K 2303 i 0) = p
        · rw [if_pos g3]
          by_cases g4 : (K 2295 (K 2302 i 0) 0) = 0
          · rw [if_pos g4]
            exact nn (fun x => by rcases x with x | x; exact g1 x.1; exact x.2 g4)
          · rw [if_neg g4]
            exact yy (Or.inr ⟨g3, g4⟩)
        · rw [if_neg g3]
          exact nn (fun x => by rcases x with x | x; exact g1 x.1; exact g3 x.1)
  · rintro _ rfl
    unfold qf_X18_refused_L115_b
    (try dsimp only)
    rw [if_pos (Int.le_refl _)]
    exact qW_some rfl
  · rw [b01_f (by rintro ⟨k, k0, k1, _⟩; omega), if_pos rfl]
end LK
