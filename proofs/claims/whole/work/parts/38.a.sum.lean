/-! ===== sums over 0 .. n - 1; loops that sum, that look for one ===== -/
def sm (f : Int → Int) : Nat → Int
  | 0 => 0
  | n + 1 => sm f n + f n
def sI (f : Int → Int) (n : Int) : Int := sm f n.toNat
section SUM
variable {f g : Int → Int} {n i c : Int}
theorem sI_z (h : n ≤ 0) : sI f n = 0 := by
  unfold sI
  rw [show n.toNat = 0 by omega]
  rfl
theorem sI_0 : sI f 0 = 0 := rfl
theorem sI_s (h : 0 ≤ i) : sI f (i + 1) = sI f i + f i := by
  unfold sI
  rw [show (i + 1).toNat = i.toNat + 1 by omega]
  unfold sm
  rw [show ((i.toNat : Nat) : Int) = i by omega]
  cases i.toNat <;> rfl
theorem sm_c : ∀ (n : Nat), (∀ k : Int, 0 ≤ k → k < n → f k = g k) → sm f n = sm g n := by
  intro n
  induction n with
  | zero => intro _; rfl
  | succ n ih =>
    intro h
    unfold sm
    rw [ih (fun k h0 h1 => h k h0 (by omega)), h n (by omega) (by omega)]
theorem sI_c (h : ∀ k, 0 ≤ k → k < n → f k = g k) : sI f n = sI g n := by
  unfold sI
  exact sm_c _ (fun k h0 h1 => h k h0 (by omega))
theorem sm_u : ∀ (n : Nat), 0 ≤ c → c < n → (∀ k, k ≠ c → g k = f k) → sm g n = sm f n + (g c - f c) := by
  intro n
  induction n with
  | zero => intro h0 h1 _; omega
  | succ n ih =>
    intro h0 h1 h
    unfold sm
    by_cases e : c = n
    · subst e
      rw [sm_c (f := g) (g := f) n (fun k h2 h3 => h k (by omega))]
      omega
    · rw [ih h0 (by omega) h, h n (by omega)]
      omega
theorem sI_u (h0 : 0 ≤ c) (h1 : c < n) (h : ∀ k, k ≠ c → g k = f k) : sI g n = sI f n + (g c - f c) := by
  unfold sI
  exact sm_u _ h0 (by omega) h
theorem sm_n : ∀ (n : Nat), (∀ k : Int, 0 ≤ k → k < n → 0 ≤ f k) → 0 ≤ sm f n := by
  intro n
  induction n with
  | zero => intro _; exact Int.le_refl _
  | succ n ih =>
    intro h
    unfold sm
    have h1 := ih (fun k h0 h1 => h k h0 (by omega))
    have h2 := h n (by omega) (by omega)
    omega
theorem sI_n (h : ∀ k, 0 ≤ k → k < n → 0 ≤ f k) : 0 ≤ sI f n := by
  unfold sI
  exact sm_n _ (fun k h0 h1 => h k h0 (by omega))
theorem sm_l {b : Int} : ∀ (n : Nat), (∀ k : Int, 0 ≤ k → k < n → f k ≤ b) → sm f n ≤ b * n := by
  intro n
  induction n with
  | zero => intro _; simp [sm]
  | succ n ih =>
    intro h
    unfold sm
    have h1 := ih (fun k h0 h1 => h k h0 (by omega))
    have h2 := h n (by omega) (by omega)
    have h3 : b * ((n + 1 : Nat) : Int) = b * n + b := by
      rw [Int.natCast_add, Int.mul_add]
      simp
    omega
theorem sI_l (h0 : 0 ≤ n) (h : ∀ k, 0 ≤ k → k < n → f k ≤ 1) : sI f n ≤ n := by
  unfold sI
  have h1 := sm_l (b := 1) n.toNat (fun k h0 h1 => h k h0 (by omega))
  omega
theorem sI_p (h0 : 0 ≤ c) (h1 : c < n) (h : ∀ k, 0 ≤ k → k < n → 0 ≤ f k) : f c ≤ sI f n := by
  have h2 := sI_u (f := f) (g := fun k => if k = c then 0 else f k) h0 h1 (fun k e => if_neg e)
  have h3 : 0 ≤ sI (fun k => if k = c then 0 else f k) n := sI_n (fun k a b => by
    show 0 ≤ (if k = c then 0 else f k)
    by_cases e : k = c
    · rw [if_pos e]; omega
    · rw [if_neg e]; exact h k a b)
  rw [if_pos rfl] at h2
  omega
end SUM
