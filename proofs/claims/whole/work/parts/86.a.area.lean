/-! ===== how many units ===== -/
section AR
variable {a b c d k n : Int} {P Q : Int → Int → Prop}
noncomputable def cnt2 (P : Int → Int → Prop) : Int := sI (fun x => sI (fun y => b01 (P x y)) 24) 24
theorem cnt2_c (h : ∀ x y, 0 ≤ x → x < 24 → 0 ≤ y → y < 24 → (P x y ↔ Q x y)) : cnt2 P = cnt2 Q := sI_c (fun x x0 x1 => sI_c (fun y y0 y1 => b01_c (h x y x0 x1 y0 y1)))
theorem cnt2_b : 0 ≤ cnt2 P ∧ cnt2 P ≤ 576 := by
  unfold cnt2
  refine ⟨sI_n (fun x _ _ => sI_n (fun y _ _ => b01_b.1)), ?_⟩
  have q := sI_le (f := fun x => sI (fun y => b01 (P x y)) 24) (g := fun _ => 24) (n := 24) (fun x _ _ => sI_l (by decide) (fun _ _ _ => b01_b.2))
  rw [sI_const] at q
  omega
theorem cnt2_0 (h : ∀ x y, 0 ≤ x → x < 24 → 0 ≤ y → y < 24 → ¬ P x y) : cnt2 P = 0 := sI_none (fun x x0 x1 => sI_none (fun y y0 y1 => b01_f (h x y x0 x1 y0 y1)))
/-- two that have nothing in common -/
theorem cnt2_add (h : ∀ x y, 0 ≤ x → x < 24 → 0 ≤ y → y < 24 → P x y → Q x y → False) : cnt2 (fun x y => P x y ∨ Q x y) = cnt2 P + cnt2 Q := by
  unfold cnt2
  rw [← sI_add]
  refine sI_c (fun x x0 x1 => ?_)
  (try dsimp only)
  rw [← sI_add]
  refine sI_c (fun y y0 y1 => ?_)
  (try dsimp only)
  have hh := h x y x0 x1 y0 y1
  rcases b01_o (p := P x y) with ⟨e, p⟩ | ⟨e, p⟩
  · rw [e, b01_t (Or.inl p), b01_f (fun z => hh p z)]
    omega
  · rw [e, b01_c (p := P x y ∨ Q x y) (q := Q x y) ⟨fun z => by
      rcases z with z | z
      · exact absurd z p
      · exact z, Or.inr⟩]
    omega
/-- numbers from a to b -/
theorem seg (a0 : 0 ≤ a) (b1 : b ≤ n) (n0 : 0 ≤ n) : sI (fun x => b01 (a ≤ x ∧ x < b)) n = if a < b then b - a else 0 := by
  have key : ∀ k : Nat, sI (fun x => b01 (a ≤ x ∧ x < b)) k = if a < min b k then min b k - a else 0 := by
    intro k
    induction k with
    | zero =>
      show sI _ 0 = _
      rw [sI_0]
      split <;> omega
    | succ k ih =>
      rw [show ((k + 1 : Nat) : Int) = (k : Int) + 1 by omega, sI_s (by omega), ih]
      (try dsimp only)
      by_cases g : a ≤ (k : Int) ∧ (k : Int) < b
      · rw [b01_t g]
        split <;> split <;> omega
      · rw [b01_f g]
        split <;> split <;> omega
  have q := key n.toNat
  rw [show ((n.toNat : Nat) : Int) = n by omega] at q
  rw [q]
  split <;> split <;> omega
/-- a rectangle -/
theorem rect (a0 : 0 ≤ a) (b1 : b ≤ 24) (c0 : 0 ≤ c) (d1 : d ≤ 24) : cnt2 (fun x y => (a ≤ x ∧ x < b) ∧ (c ≤ y ∧ y < d)) = (if a < b then b - a else 0) * (if c < d then d - c else 0) := by
  unfold cnt2
  have e : sI (fun x => sI (fun y => b01 ((a ≤ x ∧ x < b) ∧ (c ≤ y ∧ y < d))) 24) 24 = sI (fun x => b01 (a ≤ x ∧ x < b) * sI (fun y => b01 (c ≤ y ∧ y < d)) 24) 24 := sI_c (fun x x0 x1 => by
    (try dsimp only)
    rw [← sI_mul]
    exact sI_c (fun y y0 y1 => b01_and))
  rw [e, sI_mulr, seg a0 b1 (by decide), seg c0 d1 (by decide)]
theorem sI_cells {G : Int → Int → Int} (hk : 0 ≤ k) : sI (fun v => G (v / 24) (v % 24)) (24 * k) = sI (fun l => sI (fun u => G l u) 24) k := by
  have key : ∀ k : Nat, sI (fun v => G (v / 24) (v % 24)) (24 * k) = sI (fun l => sI (fun u => G l u) 24) k := by
    intro k
    induction k with
    | zero => rfl
    | succ k ih =>
      have e : ((k + 1 : Nat) : Int) = (k : Int) + 1 := by omega
      rw [e, show 24 * ((k : Int) + 1) = 24 * k + 24 by omega, sI_app (by omega) (by omega), ih, sI_s (f := fun l => sI (fun u => G l u) 24) (by omega)]
      have e2 : sI (fun i => G ((24 * (k : Int) + i) / 24) ((24 * (k : Int) + i) % 24)) 24 = sI (fun u => G k u) 24 := sI_c (fun i i0 i1 => by
        (try dsimp only)
        rw [show (24 * (k : Int) + i) / 24 = k by omega, show (24 * (k : Int) + i) % 24 = i by omega])
      rw [e2]
  have q := key k.toNat
  rw [show ((k.toNat : Nat) : Int) = k by omega] at q
  exact q
theorem cells_cnt2 {R : Int → Prop} : sI (fun v => b01 (R v)) 576 = cnt2 (fun x y => R (24 * x + y)) := by
  have q := sI_cells (G := fun x y => b01 (R (24 * x + y))) (k := 24) (by decide)
  unfold cnt2
  rw [← q]
  refine sI_c (fun v v0 v1 => ?_)
  (try dsimp only)
  rw [show 24 * (v / 24) + v % 24 = v by omega]
end AR
