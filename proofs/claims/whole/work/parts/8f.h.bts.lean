/-! ===== the giving: a set's members ===== -/
section GVh
variable {M K A W Z X Y : qm} {a b c d i j k p q v w T x y : Int} {m n s r : Nat} {l t u pre x1 x2 : List Int} {B : Int × List Int}
theorem bit_sub_all : ((List.range 64).all (fun x => (List.range 6).all (fun k => (List.range 6).all (fun j => !(bitN x k) || (bitN (x - 2 ^ k) j == (bitN x j && j != k)))))) = true := by decide +kernel
theorem bit_sub (hn : n < 64) (hm : m < 6) (hr : r < 6) (h : bitN n m = true) : bitN (n - 2 ^ m) r = (bitN n r && r != m) := by
  have q := all_2 (f := fun x k => (List.range 6).all (fun j => !(bitN x k) || (bitN (x - 2 ^ k) j == (bitN x j && j != k)))) bit_sub_all hn hm
  rw [List.all_eq_true] at q
  have q1 := q r (List.mem_range.mpr hr)
  rw [h] at q1
  simpa using q1
theorem bts_ext {x x' : Nat} : ∀ (m i : Nat), (∀ j, i ≤ j → j < i + m → bitN x j = bitN x' j) → bts x m i = bts x' m i := by
  intro m
  induction m with
  | zero => exact fun _ _ => rfl
  | succ m ih =>
    intro i h
    have h1 := h i (Nat.le_refl _) (by omega)
    have h2 := ih (i + 1) (fun j j0 j1 => h j (by omega) (by omega))
    unfold bts
    rw [h1, h2]
theorem bts_in {x : Nat} : ∀ (m i : Nat) (y : Int), y ∈ bts x m i ↔ ∃ j : Nat, y = j ∧ i ≤ j ∧ j < i + m ∧ bitN x j = true := by
  intro m
  induction m with
  | zero =>
    intro i y
    refine ⟨fun h => (by cases h), fun ⟨j, _, j0, j1, _⟩ => (by omega)⟩
  | succ m ih =>
    intro i y
    have st : y ∈ bts x (m + 1) i ↔ (y = i ∧ bitN x i = true) ∨ y ∈ bts x m (i + 1) := by
      show y ∈ (if bitN x i then (i : Int) :: bts x m (i + 1) else bts x m (i + 1)) ↔ _
      by_cases g : bitN x i = true
      · rw [if_pos g, List.mem_cons]
        exact ⟨fun h => h.elim (fun z => Or.inl ⟨z, g⟩) Or.inr, fun h => h.elim (fun z => Or.inl z.1) Or.inr⟩
      · rw [if_neg g]
        exact ⟨Or.inr, fun h => h.elim (fun z => absurd z.2 g) id⟩
    rw [st, ih]
    constructor
    · rintro (⟨h1, h2⟩ | ⟨j, j1, j2, j3, j4⟩)
      · exact ⟨i, h1, Nat.le_refl _, by omega, h2⟩
      · exact ⟨j, j1, by omega, by omega, j4⟩
    · rintro ⟨j, j1, j2, j3, j4⟩
      by_cases e : j = i
      · rw [e] at j1 j4
        exact Or.inl ⟨j1, j4⟩
      · exact Or.inr ⟨j, j1, by omega, by omega, j4⟩
theorem bts_pw {x : Nat} : ∀ (m i : Nat), (bts x m i).Pairwise (· < ·) := by
  intro m
  induction m with
  | zero => exact fun _ => List.Pairwise.nil
  | succ m ih =>
    intro i
    show (if bitN x i then (i : Int) :: bts x m (i + 1) else bts x m (i + 1)).Pairwise (· < ·)
    by_cases g : bitN x i = true
    · rw [if_pos g, List.pairwise_cons]
      refine ⟨fun y hy => ?_, ih (i + 1)⟩
      obtain ⟨j, j1, j2, _, _⟩ := (bts_in m (i + 1) y).mp hy
      omega
    · rw [if_neg g]
      exact ih (i + 1)
theorem bts_len {x : Nat} : ∀ (m i : Nat), (bts x m i).length ≤ m := by
  intro m
  induction m with
  | zero => exact fun _ => Nat.le_refl _
  | succ m ih =>
    intro i
    show (if bitN x i then (i : Int) :: bts x m (i + 1) else bts x m (i + 1)).length ≤ m + 1
    have := ih (i + 1)
    by_cases g : bitN x i = true
    · rw [if_pos g, List.length_cons]
      omega
    · rw [if_neg g]
      omega
/-- one bit less: one member less -/
theorem bts_er {x k : Nat} (hx : x < 64) (hk : k < 6) (h : bitN x k = true) : ∀ (m i : Nat), i + m ≤ 6 → bts (x - 2 ^ k) m i = (bts x m i).erase (k : Int) := by
  intro m
  induction m with
  | zero => exact fun _ _ => rfl
  | succ m ih =>
    intro i him
    have e := bit_sub (r := i) hx hk (by omega) h
    have r1 := ih (i + 1) (by omega)
    show (if bitN (x - 2 ^ k) i then (i : Int) :: bts (x - 2 ^ k) m (i + 1) else bts (x - 2 ^ k) m (i + 1)) = (if bitN x i then (i : Int) :: bts x m (i + 1) else bts x m (i + 1)).erase (k : Int)
    rw [e]
    by_cases gi : i = k
    · have e0 : (bitN x i && i != k) = false := by
        rw [gi]
        simp
      rw [e0, if_neg (by decide), gi, if_pos h, List.erase_cons_head]
      exact bts_ext m (k + 1) (fun j j0 j1 => by
        rw [bit_sub (r := j) hx hk (by omega) h]
        have : (j != k) = true := by
          simp
          omega
        rw [this, Bool.and_true])
    · have ne : (i != k) = true := by
        simp
        omega
      rw [ne, Bool.and_true]
      by_cases g : bitN x i = true
      · rw [if_pos g, if_pos g, r1]
        have : ¬ ((i : Int) == (k : Int)) = true := by
          simp
          omega
        rw [List.erase_cons_tail this]
      · rw [if_neg g, if_neg g]
        exact r1
end GVh
