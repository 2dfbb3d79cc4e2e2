/-! ===== rules for the calls' checks; what class and reference hold alike ===== -/
section RUL
variable {α β : Type} {M : qm} {T : β → Prop} {N : Nat} {a b c i j v x y : Int}
theorem qw_ap {a b : Nat} : qw M a i j v b x y = if b = a ∧ x = i ∧ y = j then v else M b x y := rfl
theorem qfl1_ap {a b : Nat} {lo hi : Int} : qfl1 M a lo hi v b x y = if b = a ∧ lo ≤ x ∧ x < hi ∧ y = 0 then v else M b x y := rfl
theorem qfl2_ap {a b : Nat} {lo hi : Int} : qfl2 M a i lo hi v b x y = if b = a ∧ x = i ∧ lo ≤ y ∧ y < hi then v else M b x y := rfl
theorem qcp1_ap {a b e : Nat} {s d n : Int} : qcp1 M a s e d n b x y = if b = e ∧ d ≤ x ∧ x < d + n ∧ y = 0 then M a (x - d + s) y else M b x y := rfl
theorem qcp2_ap {a b e : Nat} {s k d n : Int} : qcp2 M a i s e k d n b x y = if b = e ∧ x = k ∧ d ≤ y ∧ y < d + n then M a i (y - d + s) else M b x y := rfl
theorem qW_no {T : α → Prop} (h : False) : qW none T := h.elim
theorem qW_within {f : Int → Option β} (h0 : a < b ∨ c < a → qW (f 0) T) (h1 : b ≤ a → a ≤ c → qW (f 1) T) : qW ((qf_X11_isWithin N a b c M).bind f) T := by
  unfold qf_X11_isWithin
  by_cases h : a < b
  · rw [if_pos h]; exact h0 (Or.inl h)
  · rw [if_neg h]
    by_cases h2 : c < a
    · rw [if_pos h2]; exact h0 (Or.inr h2)
    · rw [if_neg h2]; exact h1 (by omega) (by omega)
theorem qW_isIn {f : Int → Option β} (h0 : a < 0 ∨ b ≤ a → qW (f 0) T) (h1 : 0 ≤ a → a < b → qW (f 1) T) : qW ((qf_X18_isIn N a b M).bind f) T := by
  unfold qf_X18_isIn
  by_cases h : a < 0
  · rw [if_pos h]; exact h0 (Or.inl h)
  · rw [if_neg h]
    by_cases h2 : b ≤ a
    · rw [if_pos h2]; exact h0 (Or.inr h2)
    · rw [if_neg h2]; exact h1 (by omega) (by omega)
theorem qW_na {f : Unit ⊕ String → Option β} (h0 : a = 0 → qW (f (.inr "java/lang/IllegalArgumentException")) T) (h1 : a ≠ 0 → qW (f (.inl ())) T) : qW ((qf_X11_needArgument N a M).bind f) T := by
  unfold qf_X11_needArgument
  by_cases h : a = 0
  · rw [if_pos h]; exact h0 h
  · rw [if_neg h]; exact h1 h
theorem qW_ns {f : Unit ⊕ String → Option β} (h0 : a = 0 → qW (f (.inr "java/lang/IllegalStateException")) T) (h1 : a ≠ 0 → qW (f (.inl ())) T) : qW ((qf_X11_needState N a M).bind f) T := by
  unfold qf_X11_needState
  by_cases h : a = 0
  · rw [if_pos h]; exact h0 h
  · rw [if_neg h]; exact h1 h
theorem qW_goes {f : Int × qm → Option β} (h1 : a = 0 → qW (f (0, qw M 2156 0 0 1)) T) (h2 : a ≠ 0 → b = 0 → qW (f (0, qw M 2156 0 0 2)) T) (h3 : a ≠ 0 → b ≠ 0 → qW (f (1, qw M 2156 0 0 0)) T) : qW ((qf_X18_goes N a b M).bind f) T := by
  unfold qf_X18_goes qf_X18_goes_J18
  by_cases h : a = 0
  · rw [if_pos h]; exact h1 h
  · rw [if_neg h]
    by_cases e : b = 0
    · rw [if_pos e]; exact h2 h e
    · rw [if_neg e]; exact h3 h e
theorem qW_stays {f : Int × qm → Option β} (hb : b = 0 ∨ b = 1) (h1 : b = 0 → qW (f (0, qw M 2156 0 0 1)) T) (h3 : b = 1 → qW (f (1, qw M 2156 0 0 0)) T) : qW ((qf_X18_stays N b M).bind f) T := by
  unfold qf_X18_stays
  rcases hb with rfl | rfl
  · exact h1 rfl
  · exact h3 rfl
end RUL
def oK {β : Type} (c : Int → β → Prop) (F : Option (Int × qm)) (G : qm → Option (β × qm)) (T : qm → Prop) : Prop := qW F (fun r => qW (G r.2) (fun s => s.2 2156 0 0 = r.1 ∧ (r.1 = 0 → c (s.2 2332 0 0) s.1) ∧ T s.2))
def cI (o b : Int) : Prop := o = b
def cB (o b : Int) : Prop := o = if b = 0 then 0 else 1
def cU (_ : Int) (_ : Unit) : Prop := True
