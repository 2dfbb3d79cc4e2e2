/-! ===== the reference joins its cells ===== -/
section JO
variable {M K E D D0 : qm} {n p k v z l x y c r a b t ch : Int} {G : Int → Int}
def op1 (M E : qm) (n c r : Int) : Prop := c < (E 2157 12 0) ∧ ¬ ∃ l, SHX M E n c r l
def op2 (M E : qm) (n c r : Int) : Prop := r < (E 2157 13 0) ∧ ¬ ∃ l, SHY M E n c r l
def CPR (M E : qm) (n : Int) (G : Int → Int) : Prop := ∀ r c, 0 ≤ r → r ≤ (E 2157 13 0) → 0 ≤ c → c ≤ (E 2157 12 0) → (op1 M E n c r → G (42 * r + c + 1) = G (42 * r + c)) ∧ (op2 M E n c r → G (42 * r + c + 42) = G (42 * r + c))
theorem SHX_o (h : ofr 2168 E D) : (∃ l, SHX M D n c r l) ↔ ∃ l, SHX M E n c r l := by
  unfold SHX
  rw [h _ c 0 (by decide), h _ (r - 1) 0 (by decide), h _ r 0 (by decide), h _ 13 0 (by decide)]
theorem SHY_o (h : ofr 2168 E D) : (∃ l, SHY M D n c r l) ↔ ∃ l, SHY M E n c r l := by
  unfold SHY
  rw [h _ c 0 (by decide), h _ (c - 1) 0 (by decide), h _ r 0 (by decide), h _ 12 0 (by decide)]
def LBI (M E D : qm) (n : Int) : Prop := (∀ k, 0 ≤ k → k < 1764 → 0 ≤ (D 2168 k 0) ∧ (D 2168 k 0) ≤ k) ∧ ∀ G, CPR M E n G → ∀ k, 0 ≤ k → k < 1764 → G (D 2168 k 0) = G k
def LOW (D0 D : qm) : Prop := ∃ k, 0 ≤ k ∧ k < 1764 ∧ (D 2168 k 0) < (D0 2168 k 0)
def PSS (M E D0 D : qm) (n ch : Int) (dn : Int → Int → Prop) : Prop := LBI M E D n ∧ ofr 2168 E D ∧ (∀ k, 0 ≤ k → k < 1764 → (D 2168 k 0) ≤ (D0 2168 k 0)) ∧ (∀ a b, dn a b → (D 2168 a 0) ≤ (D0 2168 b 0) ∧ (D 2168 b 0) ≤ (D0 2168 a 0) ∧ (ch = 0 → (D 2168 a 0) = (D 2168 b 0))) ∧ (ch = 0 ∨ ch = 1) ∧ (ch = 0 → ∀ k, 0 ≤ k → k < 1764 → (D 2168 k 0) = (D0 2168 k 0)) ∧ (ch = 1 → LOW D0 D)
theorem join_e (a0 : 0 ≤ a) (a1 : a < 1764) (b0 : 0 ≤ b) (b1 : b < 1764) (ne : a ≠ b) : ∃ m, qf_X16_join 20000 a b D = some (b01 ((D 2168 a 0) ≠ (D 2168 b 0)), qw (qw D 2168 a 0 m) 2168 b 0 m) ∧ m ≤ (D 2168 a 0) ∧ m ≤ (D 2168 b 0) ∧ (m = (D 2168 a 0) ∨ m = (D 2168 b 0)) := by
  have ca : 0 ≤ a ∧ a < 1764 := ⟨a0, a1⟩
  have cb : 0 ≤ b ∧ b < 1764 := ⟨b0, b1⟩
  have j51 : ∀ m t : Int, (t = 0 ∨ t = 1) → qf_X16_join_J51 20000 a b m t D = some (t, qw (qw D 2168 a 0 m) 2168 b 0 m) := by
    intro m t ht
    unfold qf_X16_join_J51
    rw [if_pos ca]
    refine qW_e (qW_bnd ?_)
    rw [if_pos cb]
    refine qW_bnd ?_
    rw [if_pos ht]
    exact qW_some rfl
  have j30 : ∀ m : Int, qf_X16_join_J30 20000 a b m D = some (b01 ((D 2168 a 0) ≠ (D 2168 b 0)), qw (qw D 2168 a 0 m) 2168 b 0 m) := by
    intro m
    unfold qf_X16_join_J30
    rw [if_pos ca, if_pos cb]
    by_cases g : (D 2168 a 0) = (D 2168 b 0)
    · rw [if_pos g, j51 m 0 (Or.inl rfl), b01_f (fun z => z g)]
    · rw [if_neg g, j51 m 1 (Or.inr rfl), b01_t g]
  unfold qf_X16_join
  rw [if_pos ca, if_pos cb]
  by_cases g : (D 2168 b 0) ≤ (D 2168 a 0)
  · rw [if_pos g, if_pos cb]
    exact ⟨_, j30 _, g, Int.le_refl _, Or.inr rfl⟩
  · rw [if_neg g, if_pos ca]
    exact ⟨_, j30 _, Int.le_refl _, by omega, Or.inl rfl⟩
theorem bO_01 (h : ch = 0 ∨ ch = 1) (h2 : t = 0 ∨ t = 1) : bO ch t = if ch = 0 then t else 1 := by
  rcases h with rfl | rfl <;> rcases h2 with rfl | rfl <;> decide
/-- one step is gone through -/
theorem pss_s {dn : Int → Int → Prop} (hd : ∀ x y, dn x y → 0 ≤ x ∧ x < 1764 ∧ 0 ≤ y ∧ y < 1764) (h : PSS M E D0 D n ch dn) (a0 : 0 ≤ a) (a1 : a < 1764) (b0 : 0 ≤ b) (b1 : b < 1764) (ne : a ≠ b) (hG : ∀ G, CPR M E n G → G b = G a) : ∃ F, qf_X16_join 20000 a b D = some (b01 ((D 2168 a 0) ≠ (D 2168 b 0)), F) ∧ PSS M E D0 F n (bO ch (b01 ((D 2168 a 0) ≠ (D 2168 b 0)))) (fun x y => dn x y ∨ (x = a ∧ y = b)) := by
  obtain ⟨m, e, ma, mb, me⟩ := join_e (D := D) a0 a1 b0 b1 ne
  obtain ⟨⟨h1, h1'⟩, h2, h3, h4, h5, h6, h7⟩ := h
  have ef : ∀ k, qw (qw D 2168 a 0 m) 2168 b 0 m 2168 k 0 = if k = b then m else if k = a then m else (D 2168 k 0) := by
    intro k
    simp only [qw_ap, false_and, true_and, and_true, and_false, and_self, if_false, if_true, reduceIte, Nat.reduceEqDiff, Int.reduceEq]
  have le : ∀ k, qw (qw D 2168 a 0 m) 2168 b 0 m 2168 k 0 ≤ (D 2168 k 0) := by
    intro k
    rw [ef]
    split
    · rename_i g
      rw [g]
      exact mb
    · split
      · rename_i g
        rw [g]
        exact ma
      · exact Int.le_refl _
  have fa : qw (qw D 2168 a 0 m) 2168 b 0 m 2168 a 0 = m := by
    rw [ef, if_neg ne, if_pos rfl]
  have fb : qw (qw D 2168 a 0 m) 2168 b 0 m 2168 b 0 = m := by
    rw [ef, if_pos rfl]
  have la := h3 a a0 a1
  have lb := h3 b b0 b1
  have t01 := b01_01 (p := (D 2168 a 0) ≠ (D 2168 b 0))
  have eo := bO_01 h5 t01
  refine ⟨_, e, ⟨fun k k0 k1 => ?_, fun G g k k0 k1 => ?_⟩, ofr_w (ofr_w h2), fun k k0 k1 => ?_, fun x y hxy => ?_, ?_, fun hc k k0 k1 => ?_, fun hc => ?_⟩
  · have := le k
    have q := h1 k k0 k1
    have qa := h1 a a0 a1
    have qb := h1 b b0 b1
    refine ⟨?_, by omega⟩
    rw [ef]
    split
    · omega
    · split <;> omega
  · rw [ef]
    have ga := h1' G g a a0 a1
    have gb := h1' G g b b0 b1
    have gm : G m = G a := by
      rcases me with e | e
      · rw [e]
        exact ga
      · rw [e, gb]
        exact hG G g
    split
    · rename_i gk
      rw [gk, gm]
      exact (hG G g).symm
    · split
      · rename_i gk
        rw [gk, gm]
      · exact h1' G g k k0 k1
  · have := le k
    have := h3 k k0 k1
    omega
  · rcases hxy with hxy | ⟨rfl, rfl⟩
    · have r := hd x y hxy
      have q := h4 x y hxy
      have lx := le x
      have ly := le y
      refine ⟨by omega, by omega, fun hc => ?_⟩
      rw [eo] at hc
      have c0 : ch = 0 := by
        split at hc
        · assumption
        · omega
      rw [if_pos c0] at hc
      have eq : (D 2168 a 0) = (D 2168 b 0) := by
        apply Classical.byContradiction
        intro z
        rw [b01_t z] at hc
        omega
      have same : ∀ k, qw (qw D 2168 a 0 m) 2168 b 0 m 2168 k 0 = (D 2168 k 0) := by
        intro k
        rw [ef]
        split
        · rename_i g
          rw [g]
          omega
        · split
          · rename_i g
            rw [g]
            omega
          · rfl
      rw [same, same]
      exact q.2.2 c0
    · rw [fa, fb]
      exact ⟨by omega, by omega, fun _ => rfl⟩
  · rw [eo]
    split
    · exact t01
    · exact Or.inr rfl
  · rw [eo] at hc
    have c0 : ch = 0 := by
      split at hc
      · assumption
      · omega
    rw [if_pos c0] at hc
    have eq : (D 2168 a 0) = (D 2168 b 0) := by
      apply Classical.byContradiction
      intro z
      rw [b01_t z] at hc
      omega
    rw [← h6 c0 k k0 k1, ef]
    split
    · rename_i g
      rw [g]
      omega
    · split
      · rename_i g
        rw [g]
        omega
      · rfl
  · rw [eo] at hc
    by_cases c0 : ch = 0
    · rw [if_pos c0] at hc
      have nq := b01_1.mp hc
      rcases me with e2 | e2
      · refine ⟨b, b0, b1, ?_⟩
        rw [fb]
        have := h6 c0 b b0 b1
        omega
      · refine ⟨a, a0, a1, ?_⟩
        rw [fa]
        have := h6 c0 a a0 a1
        omega
    · obtain ⟨k, k0, k1, k2⟩ := h7 (by omega)
      have := le k
      exact ⟨k, k0, k1, by omega⟩
end JO
