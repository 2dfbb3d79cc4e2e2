/-! ===== keys in their order ===== -/
section EN
variable {a : Int → Int} {n m i j k pos q f κ B : Int} {S : Int → Prop}
def ENM (S : Int → Prop) (n : Int) (a : Int → Int) : Prop := 0 ≤ n ∧ (∀ i, 0 ≤ i → i < n → 0 ≤ a i ∧ a i < 2880 ∧ S (a i)) ∧ (∀ i j, 0 ≤ i → i < j → j < n → a i < a j) ∧ ∀ k, 0 ≤ k → k < 2880 → S k → ∃ i, 0 ≤ i ∧ i < n ∧ a i = k
theorem enm_ex (S : Int → Prop) : ∃ n a, ENM S n a := by
  have key : ∀ N : Nat, (N : Int) ≤ 2880 → ∃ n a, ENM (fun k => k < N ∧ S k) n a := by
    intro N
    induction N with
    | zero => exact fun _ => ⟨0, fun _ => 0, by decide, fun i a b => by omega, fun i j a b c => by omega, fun k k0 k1 z => by have := z.1; omega⟩
    | succ N ih =>
      intro hN
      obtain ⟨n, a, h0, h1, h2, h3⟩ := ih (by omega)
      by_cases g : S N
      · refine ⟨n + 1, fun i => if i = n then N else a i, by omega, fun i i0 i1 => ?_, fun i j i0 ij jn => ?_, fun k k0 k1 z => ?_⟩
        · (try dsimp only)
          by_cases e : i = n
          · rw [if_pos e]
            exact ⟨by omega, by omega, by omega, g⟩
          · rw [if_neg e]
            have := h1 i i0 (by omega)
            exact ⟨this.1, this.2.1, by omega, this.2.2.2⟩
        · (try dsimp only)
          rw [if_neg (by omega : ¬ i = n)]
          by_cases e : j = n
          · rw [if_pos e]
            exact (h1 i i0 (by omega)).2.2.1
          · rw [if_neg e]
            exact h2 i j i0 ij (by omega)
        · by_cases e : k = N
          · exact ⟨n, h0, by omega, by (try dsimp only); rw [if_pos rfl]; exact e.symm⟩
          · obtain ⟨i, i0, i1, ei⟩ := h3 k k0 k1 ⟨by have := z.1; omega, z.2⟩
            exact ⟨i, i0, by omega, by (try dsimp only); rw [if_neg (by omega)]; exact ei⟩
      · refine ⟨n, a, h0, fun i i0 i1 => ?_, h2, fun k k0 k1 z => ?_⟩
        · have := h1 i i0 i1
          exact ⟨this.1, this.2.1, by have := this.2.2.1; omega, this.2.2.2⟩
        · refine h3 k k0 k1 ⟨?_, z.2⟩
          have z1 := z.1
          by_cases e : k = N
          · rw [e] at z
            exact absurd z.2 g
          · omega
  obtain ⟨n, a, h0, h1, h2, h3⟩ := key 2880 (by decide)
  exact ⟨n, a, h0, fun i i0 i1 => ⟨(h1 i i0 i1).1, (h1 i i0 i1).2.1, (h1 i i0 i1).2.2.2⟩, h2, fun k k0 k1 z => h3 k k0 k1 ⟨k1, z⟩⟩
/-- how many are before pos -/
def TRK (n : Int) (a : Int → Int) (pos f : Int) : Prop := 0 ≤ f ∧ f ≤ n ∧ ∀ j, 0 ≤ j → j < n → (a j < pos ↔ j < f)
theorem trk_0 (h : ENM S n a) : TRK n a 0 0 := ⟨Int.le_refl 0, h.1, fun j j0 j1 => by
  have := (h.2.1 j j0 j1).1
  omega⟩
theorem trk_skip (h : ENM S n a) (ht : TRK n a pos f) (hq : pos ≤ q) (hn : ∀ k, pos ≤ k → k < q → ¬ S k) : TRK n a q f := by
  refine ⟨ht.1, ht.2.1, fun j j0 j1 => ?_⟩
  have z := ht.2.2 j j0 j1
  have s := (h.2.1 j j0 j1).2.2
  refine ⟨fun y => z.mp ?_, fun y => ?_⟩
  · apply Classical.byContradiction
    intro w
    exact hn (a j) (by omega) y s
  · have := z.mpr y
    omega
theorem trk_take (h : ENM S n a) (ht : TRK n a pos f) (k0 : 0 ≤ κ) (k1 : κ < 2880) (hp : pos ≤ κ) (hq : κ < q) (hs : S κ) (hn : ∀ k, pos ≤ k → k < q → S k → k = κ) : f < n ∧ a f = κ ∧ TRK n a q (f + 1) := by
  obtain ⟨i, i0, i1, ei⟩ := h.2.2.2 κ k0 k1 hs
  have z := ht.2.2 i i0 i1
  have fi : f ≤ i := by omega
  have ei2 : i = f := by
    apply Classical.byContradiction
    intro ne
    have lt := h.2.2.1 f i ht.1 (by omega) i1
    have zf := ht.2.2 f ht.1 (by omega)
    have y := hn (a f) (by omega) (by omega) (h.2.1 f ht.1 (by omega)).2.2
    omega
  rw [ei2] at ei i1
  refine ⟨i1, ei, by have := ht.1; omega, by omega, fun j j0 j1 => ?_⟩
  have zj := ht.2.2 j j0 j1
  have s := (h.2.1 j j0 j1).2.2
  refine ⟨fun y => ?_, fun y => ?_⟩
  · by_cases w : pos ≤ a j
    · have e := hn (a j) w y s
      apply Classical.byContradiction
      intro ne
      have lt := h.2.2.1 f j ht.1 (by omega) j1
      omega
    · omega
  · by_cases w : j = f
    · rw [w]
      omega
    · have := zj.mpr (by omega)
      omega
theorem trk_end (ht : TRK n a 2880 f) (h : ENM S n a) : f = n := by
  by_cases g : f < n
  · have := (ht.2.2 f ht.1 g).mp (h.2.1 f ht.1 g).2.1
    omega
  · have := ht.2.1
    omega
end EN
