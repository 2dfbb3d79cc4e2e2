/-! ===== the law between two calls (wip/tools/q/genli.py) ===== -/
section LIc8j_c_make
variable {M K N W : qm} {n x v y z i1 i2 i3 i4 i5 x1 x2 x3 x4 x5 x6 day : Int}
theorem li_mk {β : Type} {c : Int → β → Prop} {F : Option (Int × qm)} {G : Option (β × qm)} {T T2 : qm → qm → Prop} {A B : Nat} {X : Int × qm → Prop} {Y : β × qm → Prop} (h : oK2 c F G T) (hF : qP F (fun r => Fg A M r.2)) (hG : qP G (fun r => Fg B K r.2)) (hX : qP F X) (hY : qP G Y) (k : ∀ M' K', T M' K' → Fg A M M' → Fg B K K' → (∃ r, X r ∧ r.2 = M') → (∃ s, Y s ∧ s.2 = K') → T2 M' K') : oK2 c F G T2 := by
  obtain ⟨r, e1, s, e2, h1, h2, h3⟩ := h
  exact ⟨r, e1, s, e2, h1, h2, k _ _ h3 (hF r e1) (hG s e2) ⟨r, hX r e1, rfl⟩ ⟨s, hY s e2, rfl⟩⟩
theorem bus_rls (ht : R_time M K) (h : BUS M K (30 * M 6 12 0)) : R_bnow M K ∧ R_bspn M K ∧ R_bspoilt M K ∧ R_bheard M K ∧ R_blatest M K := by
  have s_time := ht
  unfold R_time at s_time
  obtain ⟨⟨n1, n2, n3⟩, hst, hid, hon, hsp, hds, hlt, hli, hhr, hhd, hh1, hcn, hab, hsb, hib, hie, hms, hu1, hu2⟩ := h
  obtain ⟨u1, u2, u3⟩ := hsp
  obtain ⟨l1, l2, l3, l4, l5⟩ := hlt
  refine ⟨⟨by omega, n1, by omega⟩, ⟨hds.1, hds.2.2, by omega⟩, ⟨fun t t0 t1 => u1 t (by omega) (by omega), fun t t0 => u2 t (by omega), by rw [n1]; exact u3⟩, hhd, ⟨l1.1, l1.2, l2, l3, fun i i0 i1 => (l4 i i0 i1).1⟩⟩
end LIc8j_c_make
