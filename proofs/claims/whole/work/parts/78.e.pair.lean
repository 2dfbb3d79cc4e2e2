/-! ===== pairs of lines ===== -/
section PA
variable {f g : Int → Int} {n m N c k a b : Int} {P Q : Int → Prop}
theorem sI_app (ha : 0 ≤ a) (hb : 0 ≤ b) : sI f (a + b) = sI f a + sI (fun i => f (a + i)) b := by
  have key : ∀ k : Nat, sI f (a + k) = sI f a + sI (fun i => f (a + i)) k := by
    intro k
    induction k with
    | zero =>
      show sI f (a + 0) = sI f a + sI _ 0
      rw [sI_0, Int.add_zero, Int.add_zero]
    | succ k ih =>
      have e : ((k + 1 : Nat) : Int) = (k : Int) + 1 := by omega
      rw [e, show a + ((k : Int) + 1) = (a + k) + 1 by omega, sI_s (by omega), sI_s (f := fun i => f (a + i)) (by omega), ih]
      omega
  have q := key b.toNat
  rw [show ((b.toNat : Nat) : Int) = b by omega] at q
  exact q
theorem sI_pair {G : Int → Int → Int} (hk : 0 ≤ k) : sI (fun v => G (v / 20) (v % 20)) (20 * k) = sI (fun l => sI (fun u => G l u) 20) k := by
  have key : ∀ k : Nat, sI (fun v => G (v / 20) (v % 20)) (20 * k) = sI (fun l => sI (fun u => G l u) 20) k := by
    intro k
    induction k with
    | zero => rfl
    | succ k ih =>
      have e : ((k + 1 : Nat) : Int) = (k : Int) + 1 := by omega
      rw [e, show 20 * ((k : Int) + 1) = 20 * k + 20 by omega, sI_app (by omega) (by omega), ih, sI_s (f := fun l => sI (fun u => G l u) 20) (by omega)]
      have e2 : sI (fun i => G ((20 * (k : Int) + i) / 20) ((20 * (k : Int) + i) % 20)) 20 = sI (fun u => G k u) 20 := sI_c (fun i i0 i1 => by
        (try dsimp only)
        rw [show (20 * (k : Int) + i) / 20 = k by omega, show (20 * (k : Int) + i) % 20 = i by omega])
      rw [e2]
  have q := key k.toNat
  rw [show ((k.toNat : Nat) : Int) = k by omega] at q
  exact q
theorem b01_and {p q : Prop} : b01 (p ∧ q) = b01 p * b01 q := by
  rcases b01_o (p := p) with ⟨e, h⟩ | ⟨e, h⟩
  · rw [e, b01_c (p := p ∧ q) (q := q) ⟨fun z => z.2, fun z => ⟨h, z⟩⟩]
    omega
  · rw [e, b01_f (fun z => h z.1)]
    omega
theorem km_100 : ∀ k m : Fin 21, k.val + m.val ≤ 20 → k.val * m.val ≤ 100 ∧ 2 * (k.val * m.val) + (k.val + m.val) ≤ 220 := by decide
theorem km_le (k0 : 0 ≤ k) (m0 : 0 ≤ m) (h : k + m ≤ 20) : k * m ≤ 100 ∧ 2 * (k * m) + (k + m) ≤ 220 := by
  have q := km_100 ⟨k.toNat, by omega⟩ ⟨m.toNat, by omega⟩ (by (try dsimp only); omega)
  (try dsimp only at q)
  have e : ((k.toNat * m.toNat : Nat) : Int) = k * m := by
    rw [Int.natCast_mul, show ((k.toNat : Nat) : Int) = k by omega, show ((m.toNat : Nat) : Int) = m by omega]
  omega
/-- level lines times upright ones -/
theorem pairs_100 : sI (fun v => b01 (P (v / 20) ∧ Q (v % 20) ∧ ¬ P (v % 20))) 400 ≤ 100 := by
  have e := sI_pair (G := fun l u => b01 (P l ∧ Q u ∧ ¬ P u)) (k := 20) (by decide)
  (try dsimp only at e)
  rw [show (400 : Int) = 20 * 20 by decide, e]
  have e2 : sI (fun l => sI (fun u => b01 (P l ∧ Q u ∧ ¬ P u)) 20) 20 = sI (fun l => b01 (P l) * sI (fun u => b01 (Q u ∧ ¬ P u)) 20) 20 := sI_c (fun l _ _ => by
    rw [← sI_mul]
    exact sI_c (fun u _ _ => b01_and))
  rw [e2, sI_mulr]
  have h1 : sI (fun l => b01 (P l)) 20 + sI (fun u => b01 (Q u ∧ ¬ P u)) 20 ≤ 20 := by
    rw [← sI_add]
    refine sI_l (by decide) (fun l _ _ => ?_)
    (try dsimp only)
    rcases b01_o (p := P l) with ⟨q, h⟩ | ⟨q, h⟩
    · rw [q, b01_f (fun z => z.2 h)]
      omega
    · have := b01_b (p := Q l ∧ ¬ P l)
      omega
  exact (km_le (sI_n (fun _ _ _ => b01_b.1)) (sI_n (fun _ _ _ => b01_b.1)) h1).1
/-- a line with itself, or with one that stands across it -/
theorem pairs_220 : sI (fun v => b01 (Q (v / 20) ∧ Q (v % 20) ∧ (v / 20 = v % 20 ∨ (P (v / 20) ∧ ¬ P (v % 20)) ∨ (¬ P (v / 20) ∧ P (v % 20))))) 400 ≤ 220 := by
  have e := sI_pair (G := fun l u => b01 (Q l ∧ Q u ∧ (l = u ∨ (P l ∧ ¬ P u) ∨ (¬ P l ∧ P u)))) (k := 20) (by decide)
  (try dsimp only at e)
  rw [show (400 : Int) = 20 * 20 by decide, e]
  have row : ∀ l, 0 ≤ l → l < 20 → sI (fun u => b01 (Q l ∧ Q u ∧ (l = u ∨ (P l ∧ ¬ P u) ∨ (¬ P l ∧ P u)))) 20 = b01 (Q l) + b01 (Q l ∧ P l) * sI (fun u => b01 (Q u ∧ ¬ P u)) 20 + b01 (Q l ∧ ¬ P l) * sI (fun u => b01 (Q u ∧ P u)) 20 := by
    intro l l0 l1
    rw [← sI_mul, ← sI_mul]
    have one := sI_one (f := fun _ => b01 (Q l)) (c := l) (n := 20) l0 l1
    (try dsimp only at one)
    rw [← one, ← sI_add, ← sI_add]
    refine sI_c (fun u _ _ => ?_)
    (try dsimp only)
    rcases b01_o (p := Q l) with ⟨q1, h1⟩ | ⟨q1, h1⟩
    · by_cases eu : u = l
      · rw [if_pos eu, eu]
        rcases b01_o (p := P l) with ⟨q2, h2⟩ | ⟨q2, h2⟩
        · rw [b01_t ⟨h1, h1, Or.inl rfl⟩, q1, b01_f (p := Q l ∧ ¬ P l) (fun z => z.2 h2)]
          omega
        · rw [b01_t ⟨h1, h1, Or.inl rfl⟩, q1, b01_f (p := Q l ∧ P l) (fun z => h2 z.2)]
          omega
      · rw [if_neg eu]
        rcases b01_o (p := P l) with ⟨q2, h2⟩ | ⟨q2, h2⟩
        · rw [b01_t (p := Q l ∧ P l) ⟨h1, h2⟩, b01_f (p := Q l ∧ ¬ P l) (fun z => z.2 h2), b01_c (p := Q l ∧ Q u ∧ (l = u ∨ (P l ∧ ¬ P u) ∨ (¬ P l ∧ P u))) (q := Q u ∧ ¬ P u) ⟨fun z => ⟨z.2.1, by
            rcases z.2.2 with y | y | y
            · exact absurd y.symm eu
            · exact y.2
            · exact absurd h2 y.1⟩, fun z => ⟨h1, z.1, Or.inr (Or.inl ⟨h2, z.2⟩)⟩⟩]
          omega
        · rw [b01_f (p := Q l ∧ P l) (fun z => h2 z.2), b01_t (p := Q l ∧ ¬ P l) ⟨h1, h2⟩, b01_c (p := Q l ∧ Q u ∧ (l = u ∨ (P l ∧ ¬ P u) ∨ (¬ P l ∧ P u))) (q := Q u ∧ P u) ⟨fun z => ⟨z.2.1, by
            rcases z.2.2 with y | y | y
            · exact absurd y.symm eu
            · exact absurd y.1 h2
            · exact y.2⟩, fun z => ⟨h1, z.1, Or.inr (Or.inr ⟨h2, z.2⟩)⟩⟩]
          omega
    · rw [b01_f (fun z => h1 z.1), b01_f (p := Q l ∧ P l) (fun z => h1 z.1), b01_f (p := Q l ∧ ¬ P l) (fun z => h1 z.1), q1]
      split <;> omega
  rw [sI_c row, sI_add, sI_add, sI_mulr, sI_mulr]
  have h1 : sI (fun u => b01 (Q u ∧ P u)) 20 + sI (fun u => b01 (Q u ∧ ¬ P u)) 20 = sI (fun u => b01 (Q u)) 20 := by
    rw [← sI_add]
    refine sI_c (fun l _ _ => ?_)
    (try dsimp only)
    rcases b01_o (p := P l) with ⟨q, h⟩ | ⟨q, h⟩
    · rw [b01_f (p := Q l ∧ ¬ P l) (fun z => z.2 h), b01_c (p := Q l ∧ P l) (q := Q l) ⟨fun z => z.1, fun z => ⟨z, h⟩⟩]
      omega
    · rw [b01_f (p := Q l ∧ P l) (fun z => h z.2), b01_c (p := Q l ∧ ¬ P l) (q := Q l) ⟨fun z => z.1, fun z => ⟨z, h⟩⟩]
      omega
  have h2 : sI (fun u => b01 (Q u)) 20 ≤ 20 := sI_l (by decide) (fun _ _ _ => b01_b.2)
  have h3 := km_le (k := sI (fun u => b01 (Q u ∧ P u)) 20) (m := sI (fun u => b01 (Q u ∧ ¬ P u)) 20) (sI_n (fun _ _ _ => b01_b.1)) (sI_n (fun _ _ _ => b01_b.1)) (by omega)
  have h4 : sI (fun u => b01 (Q u ∧ ¬ P u)) 20 * sI (fun u => b01 (Q u ∧ P u)) 20 = sI (fun u => b01 (Q u ∧ P u)) 20 * sI (fun u => b01 (Q u ∧ ¬ P u)) 20 := Int.mul_comm _ _
  omega
end PA
