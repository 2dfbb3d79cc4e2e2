/-! ===== the call airlock ===== -/
section AIR
variable {M K : qm} {a b c d v x1 x2 x3 : Int}
noncomputable def lbV (x b on : Int) : Int := if on = 0 then lA x (lX (lL 1 (b % 64)) (-1)) else lO x (lL 1 (b % 64))
theorem setLockBit_r (h : R_portn M K) (a0 : 0 ≤ a) (a1 : a < (M 824 3 0)) (b0 : 0 ≤ b) (b1 : b < (M 824 3 0)) : qf_X0_setLockBit 20000 a b v M = some ((), qw M 827 (a * (M 824 7 0) + b / 64) 0 (lbV (M 827 (a * (M 824 7 0) + b / 64) 0) b v)) := by
  have q := lk_ix h a0 a1 b0 b1
  unfold qf_X0_setLockBit lbV
  rw [w32_id (x := a * (M 824 7 0)) (by omega) (by omega), show Int.tdiv b 64 = b / 64 from Int.tdiv_eq_ediv_of_nonneg b0, show Int.tmod b 64 = b % 64 from Int.tmod_eq_emod_of_nonneg b0, w32_id (x := a * (M 824 7 0) + b / 64) (by omega) (by omega)]
  have c : 0 ≤ a * (M 824 7 0) + b / 64 ∧ a * (M 824 7 0) + b / 64 < M 827 (-1) 0 := ⟨q.1, q.2.1⟩
  by_cases e : v = 0
  · rw [if_pos e, if_pos c, if_pos c, if_pos e]
    rfl
  · rw [if_neg e, if_pos c, if_pos c, if_neg e]
    rfl
theorem lbV_t {x n k on : Int} (k0 : 0 ≤ k) (k1 : k < 64) : bt (lbV x n on) k = if k = n % 64 then decide (on ≠ 0) else bt x k := by
  unfold lbV
  by_cases e : on = 0
  · rw [if_pos e, bt_a (by omega) (by omega) k0 k1]
    by_cases g : k = n % 64
    · rw [if_pos g]
      simp [g, e]
    · rw [if_neg g]
      simp [g]
  · rw [if_neg e, bt_o (by omega) (by omega) k0 k1]
    by_cases g : k = n % 64
    · rw [if_pos g]
      simp [g, e]
    · rw [if_neg g]
      simp [g]
theorem alk_set (h : R_portn M K) (a0 : 0 ≤ a) (a1 : a < (M 824 3 0)) (b0 : 0 ≤ b) (b1 : b < (M 824 3 0)) (c0 : 0 ≤ c) (c1 : c < (M 824 3 0)) (d0 : 0 ≤ d) (d1 : d < (M 824 3 0)) : alk (qw M 827 (a * (M 824 7 0) + b / 64) 0 (lbV (M 827 (a * (M 824 7 0) + b / 64) 0) b v)) c d = if c = a ∧ d = b then decide (v ≠ 0) else alk M c d := by
  unfold alk
  show bt ((qw M 827 (a * (M 824 7 0) + b / 64) 0 (lbV (M 827 (a * (M 824 7 0) + b / 64) 0) b v)) 827 (c * (M 824 7 0) + d / 64) 0) (d % 64) = _
  by_cases e : c * (M 824 7 0) + d / 64 = a * (M 824 7 0) + b / 64
  · have u := lk_uq h c0 c1 d0 d1 a0 a1 b0 b1 e
    rw [e, qw_s, lbV_t (by omega) (by omega)]
    by_cases g : d % 64 = b % 64
    · rw [if_pos g, if_pos ⟨u.1, by omega⟩]
    · rw [if_neg g, if_neg (fun x => g (by rw [x.2]))]
  · rw [qw_i e, if_neg (fun x => e (by rw [x.1, x.2]))]
def smP (a b c d : Int) : Prop := (c = a ∧ d = b) ∨ (c = b ∧ d = a)
noncomputable def laS (M : qm) (a b v : Int) : qm := qw (qw M 827 (a * (M 824 7 0) + b / 64) 0 (lbV (M 827 (a * (M 824 7 0) + b / 64) 0) b v)) 827 (b * (M 824 7 0) + a / 64) 0 (lbV ((qw M 827 (a * (M 824 7 0) + b / 64) 0 (lbV (M 827 (a * (M 824 7 0) + b / 64) 0) b v)) 827 (b * (M 824 7 0) + a / 64) 0) a v)
theorem portn_l {i w : Int} (h : R_portn M K) (i0 : 0 ≤ i) : R_portn (qw M 827 i 0 w) K := by
  unfold R_portn at *
  rw [show (qw M 827 i 0 w) 827 (-1) 0 = M 827 (-1) 0 from qw_i (by omega)]
  exact h
theorem setAirlock_r (h : R_portn M K) (a0 : 0 ≤ a) (a1 : a < (M 824 3 0)) (b0 : 0 ≤ b) (b1 : b < (M 824 3 0)) : qf_X0_setAirlock 20000 a b v M = some ((if alk M a b = true then 1 else 0), laS M a b v) := by
  have q := lk_ix h a0 a1 b0 b1
  unfold qf_X0_setAirlock
  rw [isAirlock_r h a0 a1 b0 b1]
  refine qW_e (qW_bind (qW_some ?_))
  rw [setLockBit_r h a0 a1 b0 b1]
  refine qW_bind (qW_some ?_)
  (try dsimp only)
  rw [setLockBit_r (M := qw M 827 (a * (M 824 7 0) + b / 64) 0 (lbV (M 827 (a * (M 824 7 0) + b / 64) 0) b v)) (K := K) (portn_l h q.1) b0 b1 a0 a1]
  refine qW_bind (qW_some ?_)
  (try dsimp only)
  rw [if_pos (by split <;> decide)]
  exact qW_some rfl
theorem laS_t (h : R_portn M K) (a0 : 0 ≤ a) (a1 : a < (M 824 3 0)) (b0 : 0 ≤ b) (b1 : b < (M 824 3 0)) (c0 : 0 ≤ c) (c1 : c < (M 824 3 0)) (d0 : 0 ≤ d) (d1 : d < (M 824 3 0)) : alk (laS M a b v) c d = true ↔ (smP a b c d ∧ v ≠ 0) ∨ (¬ smP a b c d ∧ alk M c d = true) := by
  have q := lk_ix h a0 a1 b0 b1
  have e := alk_set (M := qw M 827 (a * (M 824 7 0) + b / 64) 0 (lbV (M 827 (a * (M 824 7 0) + b / 64) 0) b v)) (K := K) (a := b) (b := a) (c := c) (d := d) (v := v) (portn_l h q.1) b0 b1 a0 a1 c0 c1 d0 d1
  have e2 : alk (laS M a b v) c d = if c = b ∧ d = a then decide (v ≠ 0) else alk (qw M 827 (a * (M 824 7 0) + b / 64) 0 (lbV (M 827 (a * (M 824 7 0) + b / 64) 0) b v)) c d := e
  rw [e2, alk_set h a0 a1 b0 b1 c0 c1 d0 d1]
  unfold smP
  by_cases g1 : c = b ∧ d = a
  · rw [if_pos g1]
    constructor
    · intro x
      exact Or.inl ⟨Or.inr g1, of_decide_eq_true x⟩
    · rintro (x | x)
      · exact decide_eq_true x.2
      · exact absurd (Or.inr g1) x.1
  · rw [if_neg g1]
    by_cases g2 : c = a ∧ d = b
    · rw [if_pos g2]
      constructor
      · intro x
        exact Or.inl ⟨Or.inl g2, of_decide_eq_true x⟩
      · rintro (x | x)
        · exact decide_eq_true x.2
        · exact absurd (Or.inl g2) x.1
    · rw [if_neg g2]
      constructor
      · intro x
        exact Or.inr ⟨fun y => y.elim g2 g1, x⟩
      · rintro (x | x)
        · exact absurd x.1 (fun y => y.elim g2 g1)
        · exact x.2
theorem lockOf_r (h0 : 0 ≤ (K 2156 24 0)) (h1 : (K 2156 24 0) ≤ 4100) : qW (qf_X18_lockOf 20000 a b K) (fun k => (k = -1 ∧ ∀ j, 0 ≤ j → j < (K 2156 24 0) → ¬ lkE K j a b) ∨ (0 ≤ k ∧ k < (K 2156 24 0) ∧ lkE K k a b)) := by
  unfold qf_X18_lockOf
  refine qW_call (Q := fun o => ∃ k, o = .inr k ∧ ((k = -1 ∧ ∀ j, 0 ≤ j → j < (K 2156 24 0) → ¬ lkE K j a b) ∨ (0 ≤ k ∧ k < (K 2156 24 0) ∧ lkE K k a b))) ?_ ?_
  · unfold qf_X18_lockOf_L5
    refine qW_for (K 2156 24 0) (fun i s => ∃ k, s = (a, b, k, i) ∧ ((k = -1 ∧ ∀ j, 0 ≤ j → j < i → ¬ lkE K j a b) ∨ (0 ≤ k ∧ k < i ∧ lkE K k a b))) ?_ ?_ ⟨-1, rfl, Or.inl ⟨rfl, all_0⟩⟩ h0 (by omega)
    · rintro i _ i0 i1 ⟨k, rfl, hk⟩
      have e1 : w32 (i + 1) = i + 1 := w32_id (by omega) (by omega)
      have hr : 0 ≤ i ∧ i < 4100 := by omega
      unfold qf_X18_lockOf_L5_b qf_X18_lockOf_J36 qf_X18_lockOf_J58 qf_X18_lockOf_J63
      (try dsimp only)
      rw [if_neg (show ¬ (K 2156 24 0) ≤ i by omega), e1]
      simp only [if_pos hr]
      have no : ¬ lkE K i a b → ∃ k', (a, b, k, i + 1) = (a, b, k', i + 1) ∧ ((k' = -1 ∧ ∀ j, 0 ≤ j → j < i + 1 → ¬ lkE K j a b) ∨ (0 ≤ k' ∧ k' < i + 1 ∧ lkE K k' a b)) := fun h => ⟨k, rfl, by
        rcases hk with x | x
        · exact Or.inl ⟨x.1, all_s x.2 h⟩
        · exact Or.inr ⟨x.1, by omega, x.2.2⟩⟩
      have ye : lkE K i a b → ∃ k', (a, b, i, i + 1) = (a, b, k', i + 1) ∧ ((k' = -1 ∧ ∀ j, 0 ≤ j → j < i + 1 → ¬ lkE K j a b) ∨ (0 ≤ k' ∧ k' < i + 1 ∧ lkE K k' a b)) := fun h => ⟨i, rfl, Or.inr ⟨i0, by omega, h⟩⟩
      by_cases g1 : (K 2302 i 0) = a
      · rw [if_pos g1]
        by_cases g2 : (K 2303 i 0) = b
        · rw [if_pos g2]
          exact qW_some (ye (Or.inl ⟨g1, g2⟩))
        · rw [if_neg g2]
          by_cases g3 : (K 2302 i 0) = b
          · rw [if_pos g3]
            by_cases g4 : (K 2303 i 0) = a
            · rw [if_pos g4]
              exact qW_some (ye (Or.inr ⟨g3, g4⟩))
            · rw [if_neg g4]
              exact qW_some (no (fun x => x.elim (fun y => g2 y.2) (fun y => g4 y.2)))
          · rw [if_neg g3]
            exact qW_some (no (fun x => x.elim (fun y => g2 y.2) (fun y => g3 y.1)))
      · rw [if_neg g1]
        by_cases g3 : (K 2302 i 0) = b
        · rw [if_pos g3]
          by_cases g4 : (K 2303 i 0) = a
          · rw [if_pos g4]
            exact qW_some (ye (Or.inr ⟨g3, g4⟩))
          · rw [if_neg g4]
            exact qW_some (no (fun x => x.elim (fun y => g1 y.1) (fun y => g4 y.2)))
        · rw [if_neg g3]
          exact qW_some (no (fun x => x.elim (fun y => g1 y.1) (fun y => g3 y.1)))
    · rintro _ ⟨k, rfl, hk⟩
      unfold qf_X18_lockOf_L5_b
      (try dsimp only)
      rw [if_pos (Int.le_refl _)]
      exact qW_some ⟨k, rfl, hk⟩
  · rintro _ ⟨k, rfl, hk⟩
    exact qW_some hk
end AIR
