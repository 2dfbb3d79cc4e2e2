/-! ===== numbers of things: sums, one-to-one rows, walks ===== -/
section NU
variable {f g : Int → Int} {n m N c : Int} {P Q : Int → Prop}
theorem sI_add : sI (fun i => f i + g i) n = sI f n + sI g n := by
  unfold sI
  generalize n.toNat = k
  induction k with
  | zero => rfl
  | succ k ih => unfold sm; rw [ih]; omega
theorem sI_const : sI (fun _ => c) n = c * (n.toNat : Int) := by
  unfold sI
  generalize n.toNat = k
  induction k with
  | zero => unfold sm; omega
  | succ k ih =>
    unfold sm
    rw [ih, Int.natCast_add, Int.mul_add]
    omega
theorem sI_mul : sI (fun i => c * f i) n = c * sI f n := by
  unfold sI
  generalize n.toNat = k
  induction k with
  | zero => unfold sm; omega
  | succ k ih => unfold sm; rw [ih, Int.mul_add]
theorem sI_mulr : sI (fun i => f i * c) n = sI f n * c := by
  unfold sI
  generalize n.toNat = k
  induction k with
  | zero => unfold sm; omega
  | succ k ih => unfold sm; rw [ih, Int.add_mul]
theorem sI_swap {F : Int → Int → Int} : sI (fun i => sI (fun j => F i j) m) n = sI (fun j => sI (fun i => F i j) n) m := by
  have key : ∀ k : Nat, sm (fun i => sI (fun j => F i j) m) k = sI (fun j => sm (fun i => F i j) k) m := by
    intro k
    induction k with
    | zero =>
      unfold sm
      exact (sI_none (fun _ _ _ => rfl)).symm
    | succ k ih =>
      unfold sm
      rw [ih, ← sI_add]
  unfold sI at key ⊢
  exact key n.toNat
theorem sI_le (h : ∀ k, 0 ≤ k → k < n → f k ≤ g k) : sI f n ≤ sI g n := by
  have e : sI (fun k => g k - f k) n + sI f n = sI g n := by
    rw [← sI_add]
    exact sI_c (fun k _ _ => by omega)
  have p : 0 ≤ sI (fun k => g k - f k) n := sI_n (fun k a b => by have := h k a b; omega)
  omega
/-- one place of a sum of truths -/
theorem sI_one (h0 : 0 ≤ c) (h1 : c < n) : sI (fun i => if i = c then f i else 0) n = f c := by
  have q := sI_u (f := fun _ => 0) (g := fun i => if i = c then f i else 0) (c := c) (n := n) h0 h1 (fun k e => if_neg e)
  rw [q, sI_none (fun _ _ _ => rfl), if_pos rfl]
  omega
/-- a row of different numbers below N with P: no more than there are -/
theorem inj_le : ∀ (k : Nat) (P : Int → Prop) (q : Int → Int), (∀ i : Int, 0 ≤ i → i < k → 0 ≤ q i ∧ q i < N ∧ P (q i)) → (∀ i j : Int, 0 ≤ i → i < j → j < k → q i ≠ q j) → (k : Int) ≤ sI (fun i => b01 (P i)) N := by
  intro k
  induction k with
  | zero =>
    intro P q _ _
    exact sI_n (fun _ _ _ => b01_b.1)
  | succ k ih =>
    intro P q h hi
    have hk := h k (by omega) (by omega)
    have h2 := ih (fun i => P i ∧ i ≠ q k) q (fun i a b => by
      have p := h i a (by omega)
      exact ⟨p.1, p.2.1, p.2.2, hi i k a b (by omega)⟩) (fun i j a b d => hi i j a b (by omega))
    have h3 := sI_u (f := fun i => b01 (P i ∧ i ≠ q k)) (g := fun i => b01 (P i)) (c := q k) (n := N) hk.1 hk.2.1 (fun i e => b01_c ⟨fun z => ⟨z, e⟩, fun z => z.1⟩)
    (try dsimp only at h3)
    rw [b01_t hk.2.2, b01_f (fun z => z.2 rfl)] at h3
    omega
/-- a row of all numbers below N with P, each once: just as many -/
theorem inj_eq : ∀ (k : Nat) (P : Int → Prop) (q : Int → Int), (∀ i : Int, 0 ≤ i → i < k → 0 ≤ q i ∧ q i < N ∧ P (q i)) → (∀ i j : Int, 0 ≤ i → i < j → j < k → q i ≠ q j) → (∀ v, 0 ≤ v → v < N → P v → ∃ i : Int, 0 ≤ i ∧ i < k ∧ q i = v) → sI (fun i => b01 (P i)) N = k := by
  intro k
  induction k with
  | zero =>
    intro P q _ _ ha
    refine sI_none (fun v a b => b01_f (fun z => ?_))
    obtain ⟨i, i0, i1, _⟩ := ha v a b z
    omega
  | succ k ih =>
    intro P q h hi ha
    have hk := h k (by omega) (by omega)
    have h2 := ih (fun i => P i ∧ i ≠ q k) q (fun i a b => by
      have p := h i a (by omega)
      exact ⟨p.1, p.2.1, p.2.2, hi i k a b (by omega)⟩) (fun i j a b d => hi i j a b (by omega)) (fun v a b z => by
      obtain ⟨i, i0, i1, e⟩ := ha v a b z.1
      by_cases g : i = k
      · rw [g] at e
        exact absurd e.symm z.2
      · exact ⟨i, i0, by omega, e⟩)
    have h3 := sI_u (f := fun i => b01 (P i ∧ i ≠ q k)) (g := fun i => b01 (P i)) (c := q k) (n := N) hk.1 hk.2.1 (fun i e => b01_c ⟨fun z => ⟨z, e⟩, fun z => z.1⟩)
    (try dsimp only at h3)
    rw [b01_t hk.2.2, b01_f (fun z => z.2 rfl)] at h3
    omega
/-- weighted: a sum over a row of different numbers -/
theorem inj_sum : ∀ (k : Nat) (P : Int → Prop) (q : Int → Int), (∀ i : Int, 0 ≤ i → i < k → 0 ≤ q i ∧ q i < N ∧ ¬ P (q i)) → (∀ i j : Int, 0 ≤ i → i < j → j < k → q i ≠ q j) → sI (fun v => b01 (P v ∨ ∃ i : Int, 0 ≤ i ∧ i < k ∧ q i = v) * f v) N = sI (fun v => b01 (P v) * f v) N + sI (fun i => f (q i)) k := by
  intro k
  induction k with
  | zero =>
    intro P q _ _
    have e : sI (fun v => b01 (P v ∨ ∃ i : Int, 0 ≤ i ∧ i < (0 : Nat) ∧ q i = v) * f v) N = sI (fun v => b01 (P v) * f v) N := sI_c (fun v _ _ => by
      rw [b01_c (p := P v ∨ ∃ i : Int, 0 ≤ i ∧ i < (0 : Nat) ∧ q i = v) (q := P v) ⟨fun z => by
        rcases z with z | ⟨i, i0, i1, _⟩
        · exact z
        · omega, Or.inl⟩])
    rw [e]
    show _ = _ + sI _ 0
    rw [sI_0]
    omega
  | succ k ih =>
    intro P q h hi
    have h2 := ih P q (fun i a b => h i a (by omega)) (fun i j a b d => hi i j a b (by omega))
    have hk := h k (by omega) (by omega)
    have h3 := sI_u (f := fun v => b01 (P v ∨ ∃ i : Int, 0 ≤ i ∧ i < k ∧ q i = v) * f v) (g := fun v => b01 (P v ∨ ∃ i : Int, 0 ≤ i ∧ i < (k + 1 : Nat) ∧ q i = v) * f v) (c := q k) (n := N) hk.1 hk.2.1 (fun v e => by
      have e2 : (P v ∨ ∃ i : Int, 0 ≤ i ∧ i < (k + 1 : Nat) ∧ q i = v) ↔ (P v ∨ ∃ i : Int, 0 ≤ i ∧ i < k ∧ q i = v) := by
        constructor
        · rintro (z | ⟨i, i0, i1, z⟩)
          · exact Or.inl z
          · by_cases g : i = k
            · rw [g] at z
              exact absurd z.symm e
            · exact Or.inr ⟨i, i0, by omega, z⟩
        · rintro (z | ⟨i, i0, i1, z⟩)
          · exact Or.inl z
          · exact Or.inr ⟨i, i0, by omega, z⟩
      rw [b01_c e2])
    (try dsimp only at h3)
    rw [b01_t (Or.inr ⟨k, by omega, by omega, rfl⟩), b01_f (p := P (q k) ∨ ∃ i : Int, 0 ≤ i ∧ i < k ∧ q i = q k) (by
      rintro (z | ⟨i, i0, i1, z⟩)
      · exact hk.2.2 z
      · exact hi i k i0 i1 (by omega) z)] at h3
    have h4 := sI_s (f := fun i => f (q i)) (i := (k : Int)) (by omega)
    have ek : ((k + 1 : Nat) : Int) = (k : Int) + 1 := by omega
    rw [h3, h2, ek, h4]
    omega
/-- a walk among N things, of which some have been met, comes to one that has been met -/
theorem walk_n {st : Int → Int} {R : Int → Prop} (hN : 0 ≤ N) (hs : ∀ j, 0 ≤ j → 0 ≤ st j ∧ st j < N) : ∃ n : Int, 0 ≤ n ∧ n + sI (fun i => b01 (R i)) N ≤ N ∧ (∀ j, 0 ≤ j → j < n → ¬ (R (st j) ∨ ∃ i, 0 ≤ i ∧ i < j ∧ st i = st j)) ∧ (R (st n) ∨ ∃ i, 0 ≤ i ∧ i < n ∧ st i = st n) := by
  have all : sI (fun i => b01 (¬ R i)) N + sI (fun i => b01 (R i)) N = N := by
    rw [← sI_add]
    have e : sI (fun i => b01 (¬ R i) + b01 (R i)) N = sI (fun _ => 1) N := sI_c (fun k _ _ => by
      rcases b01_o (p := R k) with ⟨h1, h2⟩ | ⟨h1, h2⟩
      · rw [h1, b01_f (fun z => z h2)]
        omega
      · rw [h1, b01_t h2]
        omega)
    rw [e, sI_const]
    omega
  have bd : ∀ k : Nat, (∀ j : Int, 0 ≤ j → j < k → ¬ (R (st j) ∨ ∃ i, 0 ≤ i ∧ i < j ∧ st i = st j)) → (k : Int) ≤ sI (fun i => b01 (¬ R i)) N := by
    intro k hk
    refine inj_le k (fun i => ¬ R i) st (fun i a b => ⟨(hs i a).1, (hs i a).2, fun z => hk i a b (Or.inl z)⟩) (fun i j a b d z => hk j (by omega) d (Or.inr ⟨i, a, b, z⟩))
  have key : ∀ k : Nat, (∃ n : Int, 0 ≤ n ∧ n < k ∧ (∀ j, 0 ≤ j → j < n → ¬ (R (st j) ∨ ∃ i, 0 ≤ i ∧ i < j ∧ st i = st j)) ∧ (R (st n) ∨ ∃ i, 0 ≤ i ∧ i < n ∧ st i = st n)) ∨ (∀ j : Int, 0 ≤ j → j < k → ¬ (R (st j) ∨ ∃ i, 0 ≤ i ∧ i < j ∧ st i = st j)) := by
    intro k
    induction k with
    | zero => exact Or.inr (fun j a b => by omega)
    | succ k ih =>
      rcases ih with ⟨n, n0, n1, n2, n3⟩ | h
      · exact Or.inl ⟨n, n0, by omega, n2, n3⟩
      · by_cases g : R (st k) ∨ ∃ i, 0 ≤ i ∧ i < (k : Int) ∧ st i = st k
        · exact Or.inl ⟨k, by omega, by omega, h, g⟩
        · refine Or.inr (fun j a b => ?_)
          by_cases e : j = k
          · rw [e]
            exact g
          · exact h j a (by omega)
  rcases key (N.toNat + 1) with ⟨n, n0, n1, n2, n3⟩ | h
  · have := bd n.toNat (fun j a b => n2 j a (by omega))
    exact ⟨n, n0, by omega, n2, n3⟩
  · have := bd (N.toNat + 1) h
    have p : 0 ≤ sI (fun i => b01 (R i)) N := sI_n (fun _ _ _ => b01_b.1)
    omega
end NU
