/-! ===== the script's numbers in a memory of the shape; a call's answer as a memory's ===== -/
section ARG
variable {L : Nat} {xs : Nat → Int32} {P : Nat → Nat} {S : zm_S}
theorem sh_arg {q : Nat} (hS : Sh L xs P S) (hL : L < 2147483648) (hq : q < L) : za_x S 0 0 (Int32.ofNat q) = some (xs q) := yx_i hS.2.1 (by have := hS.1; omega) hq hL
theorem sh_len (hS : Sh L xs P S) : za_n S 0 = some (Int32.ofNat L) := yx_n hS.2.1 (by have := hS.1; omega) (by decide)
theorem sh_argk {q k : Nat} (hS : Sh L xs P S) (hL : L < 2147483648) (hq : q + k < L) : za_x S 0 0 (Int32.ofNat q + Int32.ofNat k) = some (xs (q + k)) := by
  rw [← Int32.ofNat_add]
  exact sh_arg hS hL hq
/-- what runs on plain states runs on memories -/
theorem qs_ex {α β : Type} {ρ : α → β → Prop} {x : Option (α × zm_S)} {y : Option (β × qm)} {Q : β × qm → Prop} (h : qs x y (tO (rr L xs P ρ))) (hy : qW y Q) : ∃ a S' b M', x = some (a, S') ∧ y = some (b, M') ∧ ρ a b ∧ Sh L xs P S' ∧ qM P S' = M' ∧ Q (b, M') := by
  obtain ⟨⟨b, M'⟩, e, hQ⟩ := hy
  obtain ⟨⟨a, S'⟩, e2, h1, h2, h3⟩ := h _ e
  exact ⟨a, S', b, M', e2, e, h1, h2, h3, hQ⟩
end ARG
