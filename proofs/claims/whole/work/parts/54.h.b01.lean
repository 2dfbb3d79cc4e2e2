/-! ===== truth as 1 and 0 ===== -/
noncomputable def b01 (p : Prop) : Int := @ite Int p (Classical.propDecidable p) 1 0
section BO
variable {α β : Type} {p q : Prop} {T : α → Prop}
theorem b01_t (h : p) : b01 p = 1 := by unfold b01; exact if_pos h
theorem b01_f (h : ¬ p) : b01 p = 0 := by unfold b01; exact if_neg h
theorem b01_o : (b01 p = 1 ∧ p) ∨ (b01 p = 0 ∧ ¬ p) := by
  rcases Classical.em p with h | h
  · exact Or.inl ⟨b01_t h, h⟩
  · exact Or.inr ⟨b01_f h, h⟩
theorem b01_b : 0 ≤ b01 p ∧ b01 p ≤ 1 := by
  rcases b01_o (p := p) with h | h <;> omega
theorem b01_01 : b01 p = 0 ∨ b01 p = 1 := by
  rcases b01_o (p := p) with h | h <;> omega
theorem b01_c (h : p ↔ q) : b01 p = b01 q := by rw [propext h]
theorem b01_0 : b01 p = 0 ↔ ¬ p := by
  rcases b01_o (p := p) with h | h
  · exact ⟨fun x => by omega, fun x => absurd h.2 x⟩
  · exact ⟨fun _ => h.2, fun _ => h.1⟩
theorem b01_1 : b01 p = 1 ↔ p := by
  rcases b01_o (p := p) with h | h
  · exact ⟨fun _ => h.2, fun _ => h.1⟩
  · exact ⟨fun x => by omega, fun x => absurd x h.2⟩
theorem qW_e {x : Option α} {v : α} (h : qW x (fun r => r = v)) : x = some v := by
  obtain ⟨a, e, rfl⟩ := h
  exact e
theorem qW_v {x : Option α} {v : α} (h : x = some v) : qW x (fun r => r = v) := ⟨v, h, rfl⟩
theorem qW_b {x y : Option α} {d : Decidable (b01 p = 0)} (h0 : ¬ p → qW x T) (h1 : p → qW y T) : qW (@ite _ (b01 p = 0) d x y) T := by
  rcases b01_o (p := p) with h | h
  · rw [if_neg (by omega)]
    exact h1 h.2
  · rw [if_pos h.1]
    exact h0 h.2
end BO
