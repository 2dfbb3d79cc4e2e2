/-! ===== loops that count up; sums of zeros and ones ===== -/
section FOR
variable {α β σ ρ ω τ : Type}
theorem qW_for {f : σ → Option (ρ ⊕ σ)} {Q : ρ → Prop} (n : Int) (I : Int → σ → Prop) {s : σ} {N : Nat} (h : ∀ i s, 0 ≤ i → i < n → I i s → qW (f s) (fun o => match o with
    | .inl r => Q r
    | .inr s' => I (i + 1) s')) (he : ∀ s, I n s → qW (f s) (fun o => match o with
    | .inl r => Q r
    | .inr _ => False)) (h0 : I 0 s) (hn : 0 ≤ n) (hN : n < N) : qW (qloop f N s) Q := by
  have key : ∀ (N : Nat) (i : Int) (s : σ), 0 ≤ i → i ≤ n → n - i < N → I i s → qW (qloop f N s) Q := by
    intro N
    induction N with
    | zero => intro i s _ _ _ _; omega
    | succ N ih =>
      intro i s i0 i1 i2 hs
      by_cases e : i = n
      · subst e
        obtain ⟨o, e2, ho⟩ := he s hs
        unfold qloop
        rw [e2]
        cases o with
        | inl r => exact ⟨r, rfl, ho⟩
        | inr s' => exact ho.elim
      · obtain ⟨o, e2, ho⟩ := h i s i0 (by omega) hs
        unfold qloop
        rw [e2]
        cases o with
        | inl r => exact ⟨r, rfl, ho⟩
        | inr s' => exact ih (i + 1) s' (by omega) (by omega) (by omega) ho
  exact key N 0 s (Int.le_refl 0) hn (by omega) h0
/-- two loops side by side, index by index -/
theorem qW_for2 {f : σ → Option (ρ ⊕ σ)} {g : τ → Option (ω ⊕ τ)} {Q : ρ → ω → Prop} (n : Int) (I : Int → σ → τ → Prop) {s : σ} {t : τ} {N : Nat} (h : ∀ i s t, 0 ≤ i → i < n → I i s t → qW (f s) (fun o => qW (g t) (fun p => match o, p with
    | .inl r, .inl w => Q r w
    | .inr s', .inr t' => I (i + 1) s' t'
    | _, _ => False))) (he : ∀ s t, I n s t → qW (f s) (fun o => qW (g t) (fun p => match o, p with
    | .inl r, .inl w => Q r w
    | _, _ => False))) (h0 : I 0 s t) (hn : 0 ≤ n) (hN : n < N) : qW (qloop f N s) (fun r => qW (qloop g N t) (fun w => Q r w)) := by
  have key : ∀ (N : Nat) (i : Int) (s : σ) (t : τ), 0 ≤ i → i ≤ n → n - i < N → I i s t → qW (qloop f N s) (fun r => qW (qloop g N t) (fun w => Q r w)) := by
    intro N
    induction N with
    | zero => intro i s t _ _ _ _; omega
    | succ N ih =>
      intro i s t i0 i1 i2 hs
      by_cases e : i = n
      · subst e
        obtain ⟨o, e2, p, e3, ho⟩ := he s t hs
        unfold qloop
        rw [e2, e3]
        rcases o with r | s' <;> rcases p with w | t'
        · exact ⟨r, rfl, w, rfl, ho⟩
        · exact ho.elim
        · exact ho.elim
        · exact ho.elim
      · obtain ⟨o, e2, p, e3, ho⟩ := h i s t i0 (by omega) hs
        unfold qloop
        rw [e2, e3]
        rcases o with r | s' <;> rcases p with w | t'
        · exact ⟨r, rfl, w, rfl, ho⟩
        · exact ho.elim
        · exact ho.elim
        · exact ih (i + 1) s' t' (by omega) (by omega) (by omega) ho
  exact key N 0 s t (Int.le_refl 0) hn (by omega) h0
end FOR
theorem sI_b {g : Int → Int} {i : Int} (h0 : 0 ≤ i) (h : ∀ k, 0 ≤ k → k < i → 0 ≤ g k ∧ g k ≤ 1) : 0 ≤ sI g i ∧ sI g i ≤ i := ⟨sI_n (fun k a b => (h k a b).1), sI_l h0 (fun k a b => (h k a b).2)⟩
theorem ite01 {c : Prop} {d : Decidable c} : 0 ≤ (@ite _ c d (1 : Int) 0) ∧ (@ite _ c d (1 : Int) 0) ≤ 1 := by
  by_cases h : c
  · rw [if_pos h]; decide
  · rw [if_neg h]; decide
theorem sI_pos {g : Int → Int} {n : Int} (h : ∀ k, 0 ≤ k → k < n → 0 ≤ g k ∧ g k ≤ 1) (hs : 0 < sI g n) : ∃ k, 0 ≤ k ∧ k < n ∧ g k = 1 := by
  apply Classical.byContradiction
  intro x
  have e : sI g n = sI (fun _ => 0) n := sI_c (fun k a b => by
    have q := h k a b
    apply Classical.byContradiction
    intro y
    exact x ⟨k, a, b, by (try dsimp only at y); omega⟩)
  have z : sI (fun _ => 0) n ≤ 0 := by
    unfold sI
    have q := sm_l (f := fun _ => 0) (b := 0) n.toNat (fun _ _ _ => Int.le_refl 0)
    omega
  omega
theorem sI_none {g : Int → Int} {n : Int} (h : ∀ k, 0 ≤ k → k < n → g k = 0) : sI g n = 0 := by
  have e : sI g n = sI (fun _ => 0) n := sI_c h
  rw [e]
  unfold sI
  generalize n.toNat = m
  induction m with
  | zero => rfl
  | succ m ih => unfold sm; rw [ih]; rfl
/-! ===== a call on two states: the class's from M, the reference's from K ===== -/
def oK2 {β : Type} (c : Int → β → Prop) (F : Option (Int × qm)) (G : Option (β × qm)) (T : qm → qm → Prop) : Prop := qW F (fun r => qW G (fun s => s.2 2156 0 0 = r.1 ∧ (r.1 = 0 → c (r.2 2332 0 0) s.1) ∧ T r.2 s.2))
theorem qW_both {α β : Type} {x : Option α} {y : Option β} {P : α → Prop} {Q : β → Prop} {T : α → β → Prop} (h : qW x P) (h2 : qW y Q) (h3 : ∀ a b, P a → Q b → T a b) : qW x (fun a => qW y (fun b => T a b)) := by
  obtain ⟨a, e, p⟩ := h
  obtain ⟨b, e2, q⟩ := h2
  exact ⟨a, e, b, e2, h3 a b p q⟩
theorem qW_is {α β : Type} {x : Option α} {f : α → Option β} {T : β → Prop} (v : α) (h : qW x (fun r => r = v)) (h2 : qW (f v) T) : qW (x.bind f) T := by
  obtain ⟨a, rfl, rfl⟩ := h
  exact h2
/-- both sides ask the same -/
theorem ask_both {x y : Option Int} {p : Prop} (h : qW x (fun r => (p → r = 1) ∧ (¬ p → r = 0))) (h2 : qW y (fun r => (p → r = 1) ∧ (¬ p → r = 0))) : ∃ b : Int, x = some b ∧ y = some b ∧ ((b = 1 ∧ p) ∨ (b = 0 ∧ ¬ p)) := by
  obtain ⟨a, e, q⟩ := h
  obtain ⟨b, e2, q2⟩ := h2
  by_cases hp : p
  · exact ⟨1, by rw [e, q.1 hp], by rw [e2, q2.1 hp], Or.inl ⟨rfl, hp⟩⟩
  · exact ⟨0, by rw [e, q.2 hp], by rw [e2, q2.2 hp], Or.inr ⟨rfl, hp⟩⟩
theorem all_s {P : Int → Prop} {i : Int} (h : ∀ k, 0 ≤ k → k < i → P k) (hi : P i) : ∀ k, 0 ≤ k → k < i + 1 → P k := by
  intro k k0 k1
  by_cases e : k = i
  · rw [e]
    exact hi
  · exact h k k0 (by omega)
theorem all_0 {P : Int → Prop} : ∀ k, 0 ≤ k → k < 0 → P k := fun k a b => by omega
