/-! ===== the reference's finding: its rows filled ===== -/
theorem r_fill_L {N a b : Nat} {fs : List Value} (hk : fs[16]? = some (.ref b)) (h6 : 6 ≤ a) (hb6 : 6 ≤ b) (hab : a ≠ b) : ∀ (m k : Nat) (S : zm_S) (f : Nat → Int32), S.1 a = .inl (16, fs) → S.1 b = .inr (0, 1764, .inl f) → a < S.2 → b < S.2 → k ≤ 1764 → 1764 < k + m →
    zf_X16_fill_L2 N m a (Int32.ofNat k) S = some (.inr ((), sU S b (.inr (0, 1764, .inl (fun j => if k ≤ j ∧ j < 1764 then Int32.ofNat j else f j))))) := by
  intro m
  induction m with
  | zero => intro k S f _ _ _ _ h1 h2; omega
  | succ m ih =>
    intro k S f hA hS hn hn2 h1 h2
    rw [zf_X16_fill_L2]
    by_cases hk2 : k = 1764
    · subst hk2
      rw [if_pos (by decide), sU_id]
      rw [hS]
      congr 4
      funext j
      rw [if_neg (by omega)]
    · rw [if_neg (fun q => by have := (yn_le (a := 1764) (b := k) (by decide) (by omega)).mp q; omega)]
      refine zb_to (yg_r hA h6 hn hk) ?_
      refine zb_to (ys_i (q := k) hS hb6 hn2 (by omega) (by decide)) ?_
      rw [yn_s, ih (k + 1) (sU S b (.inr (0, 1764, .inl (upd f k (Int32.ofNat k))))) (upd f k (Int32.ofNat k)) ((sU_n hab).trans hA) sU_s hn hn2 (by omega) (by omega), sU_sU]
      refine congrArg (fun q => some (Sum.inr ((), sU S b (.inr (0, 1764, .inl q))))) (funext fun j => ?_)
      unfold upd
      by_cases e : j = k
      · subst e
        rw [if_neg (by omega), if_pos rfl, if_pos (by omega)]
      · rw [if_neg e]
        by_cases e2 : k ≤ j ∧ j < 1764
        · rw [if_pos e2, if_pos (by omega)]
        · rw [if_neg e2, if_neg (by omega)]
theorem r_fill {a b : Nat} {fs : List Value} {S : zm_S} {f : Nat → Int32} (hA : S.1 a = .inl (16, fs)) (hk : fs[16]? = some (.ref b)) (hS : S.1 b = .inr (0, 1764, .inl f)) (h1 : (Nat.ble 6 a && Nat.blt a S.2) = true) (h2 : (Nat.ble 6 b && Nat.blt b S.2) = true) (hab : Nat.beq a b = false) :
    zf_X16_fill_L2 4000 4000 a (0 : Int32) S = some (.inr ((), sU S b (.inr (0, 1764, .inl (fun j => if j < 1764 then Int32.ofNat j else f j))))) := by
  have q1 := e_in h1
  have q2 := e_in h2
  have e := r_fill_L (N := 4000) hk q1.1 q2.1 (Nat.ne_of_beq_eq_false hab) 4000 0 S f hA hS q1.2 q2.2 (by decide) (by decide)
  simp only [Nat.zero_le, true_and] at e
  exact e
theorem r_lead_L {N a b : Nat} {fs : List Value} {x : Int32} (hk : fs[38]? = some (.ref b)) (h6 : 6 ≤ a) (hb6 : 6 ≤ b) (hab : a ≠ b) : ∀ (m k : Nat) (S : zm_S) (f : Nat → Int32), S.1 a = .inl (16, fs) → S.1 b = .inr (0, 1764, .inl f) → a < S.2 → b < S.2 → k ≤ 1764 → 1764 < k + m →
    zf_X16_number_L14 N m a x (Int32.ofNat k) S = some (.inr ((), sU S b (.inr (0, 1764, .inl (fun j => if k ≤ j ∧ j < 1764 then -2 else f j))))) := by
  intro m
  induction m with
  | zero => intro k S f _ _ _ _ h1 h2; omega
  | succ m ih =>
    intro k S f hA hS hn hn2 h1 h2
    rw [zf_X16_number_L14]
    by_cases hk2 : k = 1764
    · subst hk2
      rw [if_pos (by decide), sU_id]
      rw [hS]
      congr 4
      funext j
      rw [if_neg (by omega)]
    · rw [if_neg (fun q => by have := (yn_le (a := 1764) (b := k) (by decide) (by omega)).mp q; omega)]
      refine zb_to (yg_r hA h6 hn hk) ?_
      refine zb_to (ys_i (q := k) hS hb6 hn2 (by omega) (by decide)) ?_
      rw [yn_s, ih (k + 1) (sU S b (.inr (0, 1764, .inl (upd f k (-2))))) (upd f k (-2)) ((sU_n hab).trans hA) sU_s hn hn2 (by omega) (by omega), sU_sU]
      refine congrArg (fun q => some (Sum.inr ((), sU S b (.inr (0, 1764, .inl q))))) (funext fun j => ?_)
      unfold upd
      by_cases e : j = k
      · subst e
        rw [if_neg (by omega), if_pos rfl, if_pos (by omega)]
      · rw [if_neg e]
        by_cases e2 : k ≤ j ∧ j < 1764
        · rw [if_pos e2, if_pos (by omega)]
        · rw [if_neg e2, if_neg (by omega)]
theorem r_lead {a b : Nat} {fs : List Value} {S : zm_S} {f : Nat → Int32} {x : Int32} (hA : S.1 a = .inl (16, fs)) (hk : fs[38]? = some (.ref b)) (hS : S.1 b = .inr (0, 1764, .inl f)) (h1 : (Nat.ble 6 a && Nat.blt a S.2) = true) (h2 : (Nat.ble 6 b && Nat.blt b S.2) = true) (hab : Nat.beq a b = false) :
    zf_X16_number_L14 4000 4000 a x (0 : Int32) S = some (.inr ((), sU S b (.inr (0, 1764, .inl (fun j => if j < 1764 then -2 else f j))))) := by
  have q1 := e_in h1
  have q2 := e_in h2
  have e := r_lead_L (N := 4000) (x := x) hk q1.1 q2.1 (Nat.ne_of_beq_eq_false hab) 4000 0 S f hA hS q1.2 q2.2 (by decide) (by decide)
  simp only [Nat.zero_le, true_and] at e
  exact e
theorem r_names_L {N a b : Nat} {fs : List Value} (hk : fs[25]? = some (.ref b)) (h6 : 6 ≤ a) (hb6 : 6 ≤ b) (hab : a ≠ b) : ∀ (m k : Nat) (S : zm_S) (f : Nat → Int32), S.1 a = .inl (16, fs) → S.1 b = .inr (0, 400, .inl f) → a < S.2 → b < S.2 → k ≤ 400 → 400 < k + m →
    zf_X16_run_L140 N m a (Int32.ofNat k) S = some (.inr ((), sU S b (.inr (0, 400, .inl (fun j => if k ≤ j ∧ j < 400 then 0 else f j))))) := by
  intro m
  induction m with
  | zero => intro k S f _ _ _ _ h1 h2; omega
  | succ m ih =>
    intro k S f hA hS hn hn2 h1 h2
    rw [zf_X16_run_L140]
    by_cases hk2 : k = 400
    · subst hk2
      rw [if_pos (by decide), sU_id]
      rw [hS]
      congr 4
      funext j
      rw [if_neg (by omega)]
    · rw [if_neg (fun q => by have := (yn_le (a := 400) (b := k) (by decide) (by omega)).mp q; omega)]
      refine zb_to (yg_r hA h6 hn hk) ?_
      refine zb_to (ys_i (q := k) hS hb6 hn2 (by omega) (by decide)) ?_
      rw [yn_s, ih (k + 1) (sU S b (.inr (0, 400, .inl (upd f k 0)))) (upd f k 0) ((sU_n hab).trans hA) sU_s hn hn2 (by omega) (by omega), sU_sU]
      refine congrArg (fun q => some (Sum.inr ((), sU S b (.inr (0, 400, .inl q))))) (funext fun j => ?_)
      unfold upd
      by_cases e : j = k
      · subst e
        rw [if_neg (by omega), if_pos rfl, if_pos (by omega)]
      · rw [if_neg e]
        by_cases e2 : k ≤ j ∧ j < 400
        · rw [if_pos e2, if_pos (by omega)]
        · rw [if_neg e2, if_neg (by omega)]
theorem r_names {a b : Nat} {fs : List Value} {S : zm_S} {f : Nat → Int32} (hA : S.1 a = .inl (16, fs)) (hk : fs[25]? = some (.ref b)) (hS : S.1 b = .inr (0, 400, .inl f)) (h1 : (Nat.ble 6 a && Nat.blt a S.2) = true) (h2 : (Nat.ble 6 b && Nat.blt b S.2) = true) (hab : Nat.beq a b = false) :
    zf_X16_run_L140 4000 4000 a (0 : Int32) S = some (.inr ((), sU S b (.inr (0, 400, .inl (fun j => if j < 400 then 0 else f j))))) := by
  have q1 := e_in h1
  have q2 := e_in h2
  have e := r_names_L (N := 4000) hk q1.1 q2.1 (Nat.ne_of_beq_eq_false hab) 4000 0 S f hA hS q1.2 q2.2 (by decide) (by decide)
  simp only [Nat.zero_le, true_and] at e
  exact e
