/-! ===== the class's ways through doors ===== -/
section WY
variable {M K A B C D E' N : qm} {a b c d k n r s t u v x y i j S g l h : Int} {E : Int → Int → Prop} {dn dn' : Int → Int → Prop}
/-- by k steps from s -/
def RCN (E : Int → Int → Prop) (s : Int) : Nat → Int → Prop
  | 0, v => v = s
  | k + 1, v => ∃ u, RCN E s k u ∧ E u v
def RC (E : Int → Int → Prop) (s k v : Int) : Prop := 0 ≤ k ∧ RCN E s k.toNat v
theorem RC_0 : RC E s 0 v ↔ v = s := ⟨fun z => z.2, fun z => ⟨Int.le_refl 0, z⟩⟩
theorem RC_s (k0 : 0 ≤ k) : RC E s (k + 1) v ↔ ∃ u, RC E s k u ∧ E u v := by
  unfold RC
  rw [show (k + 1).toNat = k.toNat + 1 by omega]
  exact ⟨fun z => by obtain ⟨u, h1, h2⟩ := z.2; exact ⟨u, ⟨k0, h1⟩, h2⟩, fun ⟨u, h1, h2⟩ => ⟨by omega, u, h1.2, h2⟩⟩
/-- the least number of steps -/
def DK (E : Int → Int → Prop) (s v k : Int) : Prop := RC E s k v ∧ ∀ j, j < k → ¬ RC E s j v
theorem DK_one (h : DK E s v k) (h2 : DK E s v j) : k = j := by
  rcases Int.lt_trichotomy k j with g | g | g
  · exact absurd h.1 (h2.2 k g)
  · exact g
  · exact absurd h2.1 (h.2 j g)
theorem DK_ex (h : RC E s k v) : ∃ j, j ≤ k ∧ DK E s v j := by
  have key : ∀ n : Nat, (∃ j : Int, j < n ∧ DK E s v j) ∨ ∀ j : Int, j < n → ¬ RC E s j v := by
    intro n
    induction n with
    | zero => exact Or.inr (fun j h z => by have := z.1; omega)
    | succ n ih =>
      rcases ih with ⟨j, h1, h2⟩ | hn
      · exact Or.inl ⟨j, by omega, h2⟩
      · by_cases g : RC E s n v
        · exact Or.inl ⟨n, by omega, g, hn⟩
        · refine Or.inr (fun j hj => ?_)
          by_cases e : j = n
          · rw [e]
            exact g
          · exact hn j (by omega)
  have k0 := h.1
  rcases key (k.toNat + 1) with ⟨j, h1, h2⟩ | hn
  · exact ⟨j, by omega, h2⟩
  · exact absurd h (hn k (by omega))
theorem DK_pre (k0 : 0 ≤ k) (h : DK E s v (k + 1)) : ∃ u, DK E s u k ∧ E u v := by
  obtain ⟨u, h1, h2⟩ := (RC_s k0).mp h.1
  refine ⟨u, ⟨h1, fun j hj z => ?_⟩, h2⟩
  exact h.2 (j + 1) (by omega) ((RC_s z.1).mpr ⟨u, z, h2⟩)
theorem DK_nx (h : DK E s u k) (he : E u v) (hn : ∀ j, j ≤ k → ¬ DK E s v j) : DK E s v (k + 1) := by
  refine ⟨(RC_s h.1.1).mpr ⟨u, h.1, he⟩, fun j hj z => ?_⟩
  obtain ⟨i, i1, i2⟩ := DK_ex z
  exact hn i (by omega) i2
/-- in the middle of round r: edges in dn have been gone through -/
def BFI (E : Int → Int → Prop) (s S : Int) (M N : qm) (r g : Int) (dn : Int → Int → Prop) : Prop := ofr 725 M N ∧ (∀ v, -1 ≤ v → v < S → ((N 725 (v + 1) 0) = -1 ∨ (0 ≤ (N 725 (v + 1) 0) ∧ (N 725 (v + 1) 0) ≤ r + 1)) ∧ (∀ k, 0 ≤ k → k ≤ r → ((N 725 (v + 1) 0) = k ↔ DK E s v k)) ∧ ((N 725 (v + 1) 0) = r + 1 → DK E s v (r + 1))) ∧ (∀ u v, -1 ≤ u → u < S → -1 ≤ v → v < S → dn u v → (N 725 (u + 1) 0) = r → (N 725 (v + 1) 0) ≠ -1) ∧ ((g = 0 ∧ ∀ v, -1 ≤ v → v < S → (N 725 (v + 1) 0) ≠ r + 1) ∨ (g = 1 ∧ ∃ v, -1 ≤ v ∧ v < S ∧ (N 725 (v + 1) 0) = r + 1))
theorem BFI_m (h : BFI E s S M N r g dn) (hm : ∀ u v, -1 ≤ u → u < S → -1 ≤ v → v < S → dn' u v → dn u v ∨ (N 725 (u + 1) 0) ≠ r ∨ (N 725 (v + 1) 0) ≠ -1) : BFI E s S M N r g dn' := by
  obtain ⟨h1, h2, h3, h4⟩ := h
  refine ⟨h1, h2, fun u v a b c d e f => ?_, h4⟩
  rcases hm u v a b c d e with z | z | z
  · exact h3 u v a b c d z f
  · exact absurd f z
  · exact z
theorem BFI_s (r0 : 0 ≤ r) (h : BFI E s S M N r g dn) (u0 : -1 ≤ u) (u1 : u < S) (v0 : -1 ≤ v) (v1 : v < S) (he : E u v) (hu : (N 725 (u + 1) 0) = r) (hv : (N 725 (v + 1) 0) = -1) : BFI E s S M (qw N 725 (v + 1) 0 (r + 1)) r 1 (fun x y => dn x y ∨ (x = u ∧ y = v)) := by
  obtain ⟨h1, h2, h3, h4⟩ := h
  have ew : ∀ x, qw N 725 (v + 1) 0 (r + 1) 725 (x + 1) 0 = if x = v then r + 1 else (N 725 (x + 1) 0) := by
    intro x
    rw [qw_ap]
    by_cases g : x = v
    · rw [if_pos g, if_pos ⟨rfl, by omega, rfl⟩]
    · rw [if_neg g, if_neg (by omega)]
  have du := ((h2 u u0 u1).2.1 r r0 (Int.le_refl r)).mp hu
  have nv : ∀ j, j ≤ r → ¬ DK E s v j := by
    intro j hj z
    have j0 := z.1.1
    have := ((h2 v v0 v1).2.1 j j0 hj).mpr z
    omega
  have dv := DK_nx du he nv
  refine ⟨ofr_w h1, fun x x0 x1 => ?_, fun x y x0 x1 y0 y1 hd hx => ?_, Or.inr ⟨rfl, v, v0, v1, by rw [ew, if_pos rfl]⟩⟩
  · rw [ew]
    by_cases e : x = v
    · rw [if_pos e, e]
      refine ⟨Or.inr (by omega), fun k k0 k1 => ⟨fun z => by omega, fun z => absurd z (nv k k1)⟩, fun _ => dv⟩
    · rw [if_neg e]
      exact h2 x x0 x1
  · rw [ew] at hx ⊢
    by_cases e : y = v
    · rw [if_pos e]
      omega
    · rw [if_neg e]
      by_cases e2 : x = v
      · rw [if_pos e2] at hx
        omega
      · rw [if_neg e2] at hx
        rcases hd with z | ⟨_, z⟩
        · exact h3 x y x0 x1 y0 y1 z hx
        · exact absurd z e
/-- a round is over -/
theorem BFI_r (r0 : 0 ≤ r) (h : BFI E s S M N r g dn) (hd : ∀ u v, -1 ≤ u → u < S → -1 ≤ v → v < S → E u v → dn u v) (hE : ∀ u v, E u v → (-1 ≤ u ∧ u < S) ∧ -1 ≤ v ∧ v < S) : (∀ v, -1 ≤ v → v < S → ((N 725 (v + 1) 0) = -1 ∨ (0 ≤ (N 725 (v + 1) 0) ∧ (N 725 (v + 1) 0) ≤ r + 1)) ∧ ∀ k, 0 ≤ k → k ≤ r + 1 → ((N 725 (v + 1) 0) = k ↔ DK E s v k)) ∧ (g = 0 → ∀ v k, -1 ≤ v → v < S → (N 725 (v + 1) 0) = -1 → ¬ DK E s v k) := by
  obtain ⟨h1, h2, h3, h4⟩ := h
  have all : ∀ v, -1 ≤ v → v < S → ∀ k, 0 ≤ k → k ≤ r + 1 → ((N 725 (v + 1) 0) = k ↔ DK E s v k) := by
    intro v v0 v1 k k0 k1
    by_cases e : k = r + 1
    · rw [e]
      refine ⟨(h2 v v0 v1).2.2, fun z => ?_⟩
      obtain ⟨u, hu, he⟩ := DK_pre r0 z
      have b := hE u v he
      have wu := ((h2 u b.1.1 b.1.2).2.1 r r0 (Int.le_refl r)).mpr hu
      have n1 := h3 u v b.1.1 b.1.2 v0 v1 (hd u v b.1.1 b.1.2 v0 v1 he) wu
      rcases (h2 v v0 v1).1 with w | w
      · exact absurd w n1
      · apply Classical.byContradiction
        intro ne
        have w3 := ((h2 v v0 v1).2.1 (N 725 (v + 1) 0) w.1 (by omega)).mp rfl
        have := DK_one w3 z
        omega
    · exact (h2 v v0 v1).2.1 k k0 (by omega)
  refine ⟨fun v v0 v1 => ⟨(h2 v v0 v1).1, all v v0 v1⟩, fun g0 v k v0 v1 hv z => ?_⟩
  have k0 := z.1.1
  have none1 : ∀ v, -1 ≤ v → v < S → ¬ DK E s v (r + 1) := fun v v0 v1 z => by
    rcases h4 with ⟨_, w⟩ | ⟨w, _⟩
    · exact w v v0 v1 ((all v v0 v1 (r + 1) (by omega) (Int.le_refl _)).mpr z)
    · omega
  have more : ∀ n : Nat, ∀ v, -1 ≤ v → v < S → ¬ DK E s v (r + 1 + n) := by
    intro n
    induction n with
    | zero =>
      intro v v0 v1
      rw [show r + 1 + ((0 : Nat) : Int) = r + 1 by omega]
      exact none1 v v0 v1
    | succ n ih =>
      intro v v0 v1 z
      rw [show r + 1 + ((n + 1 : Nat) : Int) = r + 1 + n + 1 by omega] at z
      obtain ⟨u, hu, he⟩ := DK_pre (by omega) z
      have b := hE u v he
      exact ih u b.1.1 b.1.2 hu
  by_cases gk : k ≤ r
  · have := (all v v0 v1 k k0 (by omega)).mpr z
    omega
  · have := more (k - (r + 1)).toNat v v0 v1
    rw [show r + 1 + ((k - (r + 1)).toNat : Int) = k by omega] at this
    exact this z
end WY
