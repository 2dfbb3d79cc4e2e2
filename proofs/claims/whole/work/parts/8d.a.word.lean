/-! ===== rules: characters, runs, numbers ===== -/
section WDa
variable {M K A : qm} {T : Int → Int} {L p q e e' k v i j x y z c : Int} {P : Int → Prop} {n N : Nat}
def isD (c : Int) : Prop := 48 ≤ c ∧ c ≤ 57
def isL (c : Int) : Prop := 97 ≤ c ∧ c ≤ 122
def isG (c : Int) : Prop := c = 43 ∨ c = 45 ∨ c = 42 ∨ c = 47 ∨ c = 40 ∨ c = 41 ∨ c = 60 ∨ c = 61 ∨ c = 62 ∨ c = 58 ∨ c = 59 ∨ c = 33 ∨ c = 64
def dgv (T : Int → Int) (q : Int) : Nat → Int
  | 0 => 0
  | n + 1 => dgv T q n * 10 + (T (q + n) - 48)
def nmv (T : Int → Int) (q : Int) : Nat → Int
  | 0 => 0
  | n + 1 => lO (lL (nmv T q n) 8) (T (q + n))
def RUN (P : Int → Prop) (T : Int → Int) (L q e : Int) : Prop := q ≤ e ∧ e ≤ L ∧ (∀ i, q ≤ i → i < e → P (T i)) ∧ (e < L → ¬ P (T e))
theorem run_u (h : RUN P T L q e) (h2 : RUN P T L q e') : e = e' := by
  obtain ⟨a, b, c, d⟩ := h
  obtain ⟨a', b', c', d'⟩ := h2
  rcases Int.lt_trichotomy e e' with g | g | g
  · exact absurd (c' e a g) (d (by omega))
  · exact g
  · exact absurd (c e' a' g) (d' (by omega))
theorem dgv_b (h : ∀ i, q ≤ i → i < q + n → isD (T i)) : 0 ≤ dgv T q n ∧ dgv T q n < 10 ^ n := by
  induction n with
  | zero =>
    refine ⟨Int.le_refl 0, ?_⟩
    show (0 : Int) < 1
    decide
  | succ n ih =>
    have a := ih (fun i i0 i1 => h i i0 (by omega))
    have b := h (q + n) (by omega) (by omega)
    unfold isD at b
    show 0 ≤ dgv T q n * 10 + (T (q + n) - 48) ∧ dgv T q n * 10 + (T (q + n) - 48) < 10 ^ (n + 1)
    rw [Int.pow_succ]
    generalize (10 : Int) ^ n = t at a ⊢
    omega
theorem dgv_9 (hn : n ≤ 9) (h : ∀ i, q ≤ i → i < q + n → isD (T i)) : 0 ≤ dgv T q n ∧ dgv T q n < 1000000000 := by
  have a := dgv_b h
  have b : (10 : Int) ^ n ≤ 1000000000 := by
    have c : n = 0 ∨ n = 1 ∨ n = 2 ∨ n = 3 ∨ n = 4 ∨ n = 5 ∨ n = 6 ∨ n = 7 ∨ n = 8 ∨ n = 9 := (by omega)
    rcases c with rfl | rfl | rfl | rfl | rfl | rfl | rfl | rfl | rfl | rfl <;> decide
  generalize (10 : Int) ^ n = t at a b
  omega
theorem digit_C : qf_X6_isDigit N c M = some (b01 (isD c)) := by
  unfold qf_X6_isDigit isD
  by_cases g : c < 48
  · rw [if_pos g, b01_f (by omega)]
  · rw [if_neg g]
    by_cases g2 : 57 < c
    · rw [if_pos g2, b01_f (by omega)]
    · rw [if_neg g2, b01_t (by omega)]
theorem letter_C : qf_X6_isLetter N c M = some (b01 (isL c)) := by
  unfold qf_X6_isLetter isL
  by_cases g : c < 97
  · rw [if_pos g, b01_f (by omega)]
  · rw [if_neg g]
    by_cases g2 : 122 < c
    · rw [if_pos g2, b01_f (by omega)]
    · rw [if_neg g2, b01_t (by omega)]
theorem digit_K : qf_X15_isDigit N c K = some (b01 (isD c)) := by
  unfold qf_X15_isDigit isD
  by_cases g : c ≤ 47
  · rw [if_pos g, b01_f (by omega)]
  · rw [if_neg g]
    by_cases g2 : 58 ≤ c
    · rw [if_pos g2, b01_f (by omega)]
    · rw [if_neg g2, b01_t (by omega)]
theorem letter_K : qf_X15_isLetter N c K = some (b01 (isL c)) := by
  unfold qf_X15_isLetter isL
  by_cases g : c ≤ 96
  · rw [if_pos g, b01_f (by omega)]
  · rw [if_neg g]
    by_cases g2 : 123 ≤ c
    · rw [if_pos g2, b01_f (by omega)]
    · rw [if_neg g2, b01_t (by omega)]
theorem gsign_K : qf_X15_isSign N c K = some (b01 (isG c)) := by
  unfold qf_X15_isSign isG
  by_cases g43 : c = 43
  · rw [if_pos g43, b01_t (by omega)]
  rw [if_neg g43]
  by_cases g45 : c = 45
  · rw [if_pos g45, b01_t (by omega)]
  rw [if_neg g45]
  by_cases g42 : c = 42
  · rw [if_pos g42, b01_t (by omega)]
  rw [if_neg g42]
  by_cases g47 : c = 47
  · rw [if_pos g47, b01_t (by omega)]
  rw [if_neg g47]
  by_cases g40 : c = 40
  · rw [if_pos g40, b01_t (by omega)]
  rw [if_neg g40]
  by_cases g41 : c = 41
  · rw [if_pos g41, b01_t (by omega)]
  rw [if_neg g41]
  by_cases g60 : c = 60
  · rw [if_pos g60, b01_t (by omega)]
  rw [if_neg g60]
  by_cases g61 : c = 61
  · rw [if_pos g61, b01_t (by omega)]
  rw [if_neg g61]
  by_cases g62 : c = 62
  · rw [if_pos g62, b01_t (by omega)]
  rw [if_neg g62]
  by_cases g58 : c = 58
  · rw [if_pos g58, b01_t (by omega)]
  rw [if_neg g58]
  by_cases g59 : c = 59
  · rw [if_pos g59, b01_t (by omega)]
  rw [if_neg g59]
  by_cases g33 : c = 33
  · rw [if_pos g33, b01_t (by omega)]
  rw [if_neg g33]
  by_cases g64 : c = 64
  · rw [if_pos g64, b01_t (by omega)]
  rw [if_neg g64]
  rw [b01_f (by omega)]
theorem gsign_C : qf_X6_isSign 20000 c M = some (b01 (isG c)) := by
  refine qW_e ?_
  unfold qf_X6_isSign qf_X6_isSign_L2
  refine qW_call (Q := fun o => (o = .inl 1 ∧ isG c) ∨ (∃ u, o = .inr u ∧ ¬ isG c)) ?_ ?_
  · refine qW_for 13 (fun i s => s = (c, i) ∧ ∀ t, 0 ≤ t → t < i → qT1 t ≠ c) ?_ ?_ ⟨rfl, fun t t0 t1 => by omega⟩ (by decide) (by decide)
    · rintro i _ i0 i1 ⟨rfl, h⟩
      unfold qf_X6_isSign_L2_b
      (try dsimp only)
      rw [if_neg (by omega), if_pos ⟨i0, i1⟩]
      by_cases g : qT1 i = c
      · rw [if_pos g]
        refine qW_some (Or.inl ⟨rfl, ?_⟩)
        have c13 : i = 0 ∨ i = 1 ∨ i = 2 ∨ i = 3 ∨ i = 4 ∨ i = 5 ∨ i = 6 ∨ i = 7 ∨ i = 8 ∨ i = 9 ∨ i = 10 ∨ i = 11 ∨ i = 12 := (by omega)
        unfold isG
        rcases c13 with rfl | rfl | rfl | rfl | rfl | rfl | rfl | rfl | rfl | rfl | rfl | rfl | rfl <;> rw [← g] <;> decide
      · rw [if_neg g, w32_id (x := i + 1) (by omega) (by omega)]
        exact qW_some ⟨rfl, fun t t0 t1 => if e : t = i then (by rw [e]; exact g) else h t t0 (by omega)⟩
    · rintro _ ⟨rfl, h⟩
      unfold qf_X6_isSign_L2_b
      (try dsimp only)
      rw [if_pos (by omega)]
      refine qW_some (Or.inr ⟨_, rfl, fun d => ?_⟩)
      unfold isG at d
      rcases d with d | d | d | d | d | d | d | d | d | d | d | d | d
      · exact h 0 (by decide) (by decide) (d.symm)
      · exact h 1 (by decide) (by decide) (d.symm)
      · exact h 2 (by decide) (by decide) (d.symm)
      · exact h 3 (by decide) (by decide) (d.symm)
      · exact h 4 (by decide) (by decide) (d.symm)
      · exact h 5 (by decide) (by decide) (d.symm)
      · exact h 6 (by decide) (by decide) (d.symm)
      · exact h 7 (by decide) (by decide) (d.symm)
      · exact h 8 (by decide) (by decide) (d.symm)
      · exact h 9 (by decide) (by decide) (d.symm)
      · exact h 10 (by decide) (by decide) (d.symm)
      · exact h 11 (by decide) (by decide) (d.symm)
      · exact h 12 (by decide) (by decide) (d.symm)
  · rintro o (⟨rfl, h⟩ | ⟨u, rfl, h⟩)
    · exact qW_some (b01_t h).symm
    · exact qW_some (b01_f h).symm
end WDa
