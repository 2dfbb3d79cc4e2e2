/-! ===== both calls one behind the other, on memories, from both on plain states ===== -/
section CALL
variable {L : Nat} {xs : Nat → Int32} {P : Nat → Nat} {S : zm_S} {M : qm}
theorem ld_call {F : Option (Int32 × zm_S)} {G : zm_S → Option (Int32 × zm_S)} {f : Option (Int × qm)} {g : qm → Option (Int × qm)} {T : qm → qm → Prop} {mC mR : Nat} (hF : qs F f (tO (rr L xs P vi))) (hG : ∀ S1 M1, Sh L xs P S1 → qM P S1 = M1 → qs (G S1) (g M1) (tO (rr L xs P vi))) (hf : qP f (fun r => Fg mC M r.2)) (hg : ∀ M1, qP (g M1) (fun r => Fg mR M1 r.2)) (hm : mR.testBit (ky 2332 0) = false) (hop : ∀ K, Fg mC M K → oK2 cI f (g K) T) : ∃ v S1 u S2 M1 M2, F = some (v, S1) ∧ Sh L xs P S1 ∧ qM P S1 = M1 ∧ G S1 = some (u, S2) ∧ Sh L xs P S2 ∧ qM P S2 = M2 ∧ M2 2156 0 0 = v.toInt ∧ (v.toInt = 0 → M2 2332 0 0 = u.toInt) ∧ Fg mC M M1 ∧ Fg mR M1 M2 ∧ T M1 M2 := by
  obtain ⟨⟨b0, M0⟩, e0, -⟩ := hop M Fg_refl
  have f0 : Fg mC M M0 := hf _ e0
  obtain ⟨⟨b, M1⟩, e1, ⟨c, M2⟩, e2, h1, h2, h3⟩ := hop M0 f0
  have q : (b0, M0) = (b, M1) := Option.some.inj (e0.symm.trans e1)
  obtain ⟨rfl, rfl⟩ := Prod.mk.inj q
  obtain ⟨⟨v, S1⟩, a1, a2, a3, a4⟩ := hF _ e1
  obtain ⟨⟨u, S2⟩, c1, c2, c3, c4⟩ := hG S1 M0 a3 a4 _ e2
  have a5 : v.toInt = b0 := a2
  have c5 : u.toInt = c := c2
  have g0 : Fg mR M0 M2 := hg _ _ e2
  refine ⟨v, S1, u, S2, M0, M2, a1, a3, a4, c1, c3, c4, ?_, ?_, f0, g0, h3⟩
  · exact h1.trans a5.symm
  · intro hv
    have k := h2 (a5.symm.trans hv)
    have k2 : M0 2332 0 0 = c := k
    rw [g0 2332 0 0 hm, k2, c5]
end CALL
