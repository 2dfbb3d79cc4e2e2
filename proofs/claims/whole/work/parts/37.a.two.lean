/-! ===== two walks at once ===== -/
section TWO
variable {α β γ δ σ τ ρ ω : Type}
theorem qW_and {x : Option α} {P : α → Prop} {Q : α → Prop} (h : qW x P) (h2 : qP x Q) : qW x (fun a => P a ∧ Q a) := by
  obtain ⟨a, e, p⟩ := h
  exact ⟨a, e, p, h2 a e⟩
theorem qW2_bind {x : Option α} {y : Option β} {f : α → Option γ} {g : β → Option δ} {T : γ → δ → Prop} (h : qW x (fun a => qW y (fun b => qW (f a) (fun r => qW (g b) (fun s => T r s))))) : qW (x.bind f) (fun r => qW (y.bind g) (fun s => T r s)) := by
  obtain ⟨a, rfl, b, rfl, r, e, s, e2, t⟩ := h
  exact ⟨r, e, s, e2, t⟩
theorem qW_swap {x : Option α} {y : Option β} {T : α → β → Prop} (h : qW y (fun b => qW x (fun a => T a b))) : qW x (fun a => qW y (fun b => T a b)) := by
  obtain ⟨b, e, a, e2, t⟩ := h
  exact ⟨a, e2, b, e, t⟩
theorem qW2_mono {x : Option α} {y : Option β} {S T : α → β → Prop} (h : qW x (fun a => qW y (fun b => S a b))) (h2 : ∀ a b, S a b → T a b) : qW x (fun a => qW y (fun b => T a b)) := by
  obtain ⟨a, e, b, e2, t⟩ := h
  exact ⟨a, e, b, e2, h2 a b t⟩
theorem qW2_and {x : Option α} {y : Option β} {S : α → β → Prop} {P : α → Prop} {Q : β → Prop} (h : qW x (fun a => qW y (fun b => S a b))) (h2 : qP x P) (h3 : qP y Q) : qW x (fun a => qW y (fun b => S a b ∧ P a ∧ Q b)) := by
  obtain ⟨a, e, b, e2, t⟩ := h
  exact ⟨a, e, b, e2, t, h2 a e, h3 b e2⟩
def qM2 (I : σ → τ → Prop) (d : σ → σ → Prop) (Q : ρ → ω → Prop) (s : σ) : ρ ⊕ σ → ω ⊕ τ → Prop
  | .inl r, .inl w => Q r w
  | .inr s', .inr t' => I s' t' ∧ d s' s
  | _, _ => False
theorem qsim {f : σ → Option (ρ ⊕ σ)} {g : τ → Option (ω ⊕ τ)} {Q : ρ → ω → Prop} (I : σ → τ → Prop) (μ : σ → Nat) (h : ∀ s t, I s t → qW (f s) (fun o => qW (g t) (fun p => qM2 I (fun a b => μ a < μ b) Q s o p))) : ∀ (n : Nat) (s : σ) (t : τ), I s t → μ s < n → qW (qloop f n s) (fun r => qW (qloop g n t) (fun w => Q r w)) := by
  intro n
  induction n with
  | zero =>
    intro s t _ h0
    exact absurd h0 (Nat.not_lt_zero _)
  | succ n ih =>
    intro s t hs hn
    obtain ⟨o, e, p, e2, ho⟩ := h s t hs
    unfold qloop
    rw [e, e2]
    rcases o with r | s' <;> rcases p with w | t'
    · exact ⟨r, rfl, w, rfl, ho⟩
    · exact ho.elim
    · exact ho.elim
    · obtain ⟨hi, hd⟩ := ho
      exact ih s' t' hi (by omega)
end TWO
