/-! ===== walking a plain function: it ends, and what holds then ===== -/
def qW {α : Type} (x : Option α) (T : α → Prop) : Prop := ∃ a, x = some a ∧ T a
section QW
variable {α β σ ρ : Type}
theorem qW_some {a : α} {T : α → Prop} (h : T a) : qW (some a) T := ⟨a, rfl, h⟩
theorem qW_bind {x : Option α} {f : α → Option β} {T : β → Prop} (h : qW x (fun a => qW (f a) T)) : qW (x.bind f) T := by
  obtain ⟨a, rfl, b, e, hb⟩ := h
  exact ⟨b, e, hb⟩
theorem qW_call {x : Option α} {f : α → Option β} {T : β → Prop} {Q : α → Prop} (h : qW x Q) (h2 : ∀ a, Q a → qW (f a) T) : qW (x.bind f) T := by
  obtain ⟨a, rfl, hq⟩ := h
  exact h2 a hq
theorem qW_eq {x : Option α} {f : α → Option β} {T : β → Prop} {a : α} (e : x = some a) (h : qW (f a) T) : qW (x.bind f) T := by
  rw [e]
  exact h
theorem qW_mono {x : Option α} {T Q : α → Prop} (h : qW x Q) (h2 : ∀ a, Q a → T a) : qW x T := by
  obtain ⟨a, e, hq⟩ := h
  exact ⟨a, e, h2 a hq⟩
theorem qW_ite {c : Prop} {d : Decidable c} {x y : Option α} {T : α → Prop} (h1 : c → qW x T) (h2 : ¬ c → qW y T) : qW (@ite _ c d x y) T := by
  by_cases h : c
  · rw [if_pos h]
    exact h1 h
  · rw [if_neg h]
    exact h2 h
theorem qW_pos {c : Prop} {d : Decidable c} {x y : Option α} {T : α → Prop} (h : c) (h1 : qW x T) : qW (@ite _ c d x y) T := by
  rw [if_pos h]
  exact h1
theorem qW_neg {c : Prop} {d : Decidable c} {x y : Option α} {T : α → Prop} (h : ¬ c) (h1 : qW y T) : qW (@ite _ c d x y) T := by
  rw [if_neg h]
  exact h1
theorem qW_bnd {M : qm} {Y : qm → Option α} {T : α → Prop} (h : qW (Y M) T) : qW (qbnd M Y) T := h
theorem qW_loop {f : σ → Option (ρ ⊕ σ)} {Q : ρ → Prop} (I : σ → Prop) (μ : σ → Nat) (h : ∀ s, I s → qW (f s) (fun o => match o with
    | .inl r => Q r
    | .inr s' => I s' ∧ μ s' < μ s)) : ∀ (n : Nat) (s : σ), I s → μ s < n → qW (qloop f n s) Q := by
  intro n
  induction n with
  | zero =>
    intro s _ h0
    exact absurd h0 (Nat.not_lt_zero _)
  | succ n ih =>
    intro s hs hn
    obtain ⟨o, e, ho⟩ := h s hs
    unfold qloop
    rw [e]
    cases o with
    | inl r => exact ⟨r, rfl, ho⟩
    | inr s' => exact ih s' ho.1 (by have := ho.2; omega)
theorem qW_get {x : Option α} {T : α → Prop} {a : α} (h : qW x T) (e : x = some a) : T a := by
  obtain ⟨b, e2, hb⟩ := h
  rw [e] at e2
  cases e2
  exact hb
theorem w32_id {x : Int} (h1 : -2147483648 ≤ x) (h2 : x < 2147483648) : w32 x = x := by
  unfold w32
  omega
theorem w64_id {x : Int} (h1 : -9223372036854775808 ≤ x) (h2 : x < 9223372036854775808) : w64 x = x := by
  unfold w64
  omega
variable {M : qm} {a b : Nat} {i j x y v : Int}
theorem qw_a (h : b ≠ a) : qw M a i j v b x y = M b x y := if_neg (fun q => h q.1)
theorem qw_s : qw M a i j v a i j = v := if_pos ⟨rfl, rfl, rfl⟩
theorem qw_i (h : x ≠ i) : qw M a i j v a x y = M a x y := if_neg (fun q => h q.2.1)
theorem qw_j (h : y ≠ j) : qw M a i j v a x y = M a x y := if_neg (fun q => h q.2.2)
end QW
theorem Fg_v {G : Nat} {M M' : qm} {a : Nat} {j x : Int} (h : Fg G M M') (e : ky a j = ky a 0) (hg : G.testBit (ky a 0) = false) : M' a j x = M a j x := h a j x (by rw [e]; exact hg)
