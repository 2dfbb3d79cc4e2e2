/-! ===== both calls, answers of any kind; the law's looks behind them ===== -/
def bz (x : Int32) : Int32 := if x = 0 then 0 else 1
def bzi (x : Int32) : Int := if x = 0 then 0 else 1
theorem bz_i {x : Int32} : (bz x).toInt = bzi x := by
  unfold bz bzi
  by_cases h : x = 0
  · rw [if_pos h, if_pos h]; rfl
  · rw [if_neg h, if_neg h]; rfl
theorem bzi_o {x : Int32} : bzi x = 0 ∨ bzi x = 1 := by
  unfold bzi
  by_cases h : x = 0
  · rw [if_pos h]; exact Or.inl rfl
  · rw [if_neg h]; exact Or.inr rfl
theorem bz_if {α : Type} {f : Int32 → α} {x : Int32} {d : Decidable (x = 0)} : (@ite _ (x = 0) d (f 0) (f 1)) = f (bz x) := by
  unfold bz
  by_cases h : x = 0
  · rw [if_pos h, if_pos h]
  · rw [if_neg h, if_neg h]
section CALL
variable {L : Nat} {xs : Nat → Int32} {P : Nat → Nat} {S : zm_S} {M : qm} {γ β : Type}
theorem re_of {α δ : Type} {ρ : α → δ → Prop} {F : Option (α × zm_S)} {f : Option (δ × qm)} (h : qs F f (tO (rr L xs P ρ))) : qs F f (tO (re L xs ρ)) := by
  intro b hb
  obtain ⟨a, e, q⟩ := h b hb
  exact ⟨a, e, P, q⟩
theorem ld_callG {ρ : γ → β → Prop} {c : Int → β → Prop} {F : Option (Int32 × zm_S)} {G : zm_S → Option (γ × zm_S)} {f : Option (Int × qm)} {g : qm → Option (β × qm)} {T : qm → qm → Prop} {mC mR : Nat} (hF : qs F f (tO (re L xs vi))) (hG : ∀ P1 S1 M1, Sh L xs P1 S1 → qM P1 S1 = M1 → qs (G S1) (g M1) (tO (re L xs ρ))) (hf : qP f (fun r => Fg mC M r.2)) (hg : ∀ M1, qP (g M1) (fun r => Fg mR M1 r.2)) (hm : mR.testBit (ky 2332 0) = false) (hop : ∀ K, Fg mC M K → oK2 c f (g K) T) : ∃ v S1 u S2 M1 M2 b P1 P2, F = some (v, S1) ∧ Sh L xs P1 S1 ∧ qM P1 S1 = M1 ∧ G S1 = some (u, S2) ∧ Sh L xs P2 S2 ∧ qM P2 S2 = M2 ∧ M2 2156 0 0 = v.toInt ∧ (v.toInt = 0 → c (M2 2332 0 0) b) ∧ ρ u b ∧ Fg mC M M1 ∧ Fg mR M1 M2 ∧ T M1 M2 := by
  obtain ⟨⟨b0, M0⟩, e0, -⟩ := hop M Fg_refl
  have f0 : Fg mC M M0 := hf _ e0
  obtain ⟨⟨b, M1⟩, e1, ⟨d, M2⟩, e2, h1, h2, h3⟩ := hop M0 f0
  have q : (b0, M0) = (b, M1) := Option.some.inj (e0.symm.trans e1)
  obtain ⟨rfl, rfl⟩ := Prod.mk.inj q
  obtain ⟨⟨v, S1⟩, a1, P1, a2, a3, a4⟩ := hF _ e1
  obtain ⟨⟨u, S2⟩, c1, P2, c2, c3, c4⟩ := hG P1 S1 M0 a3 a4 _ e2
  have a5 : v.toInt = b0 := a2
  have g0 : Fg mR M0 M2 := hg _ _ e2
  refine ⟨v, S1, u, S2, M0, M2, d, P1, P2, a1, a3, a4, c1, c3, c4, ?_, ?_, c2, f0, g0, h3⟩
  · exact h1.trans a5.symm
  · intro hv
    have k := h2 (a5.symm.trans hv)
    have k2 : c (M0 2332 0 0) d := k
    rw [g0 2332 0 0 hm]
    exact k2
end CALL
section TAIL
variable {L : Nat} {xs : Nat → Int32} {P : Nat → Nat} {S : zm_S} {M : qm} {β : Type}
theorem ld_tailI {v u : Int32} {b : Int} {X : zm_S → Option β} (hS : Sh L xs P S) (hM : qM P S = M) (h0 : M 2156 0 0 = v.toInt) (hc : v.toInt = 0 → cI (M 2332 0 0) b) (hu : vi u b) : ∃ S3, Sh L xs P S3 ∧ qM P S3 = M ∧ ((zi S 2156 18).bind fun _ => (zf_X18_thrown 20000 2156 S).bind fun r => if r.1 = v then if v = 0 then (za_l r.2 2332 (0 : Int32)).bind fun w75 => if (lg_cmp w75 u.toInt64) = 0 then X r.2 else none else X r.2 else none) = X S3 := by
  have hu2 : u.toInt = b := hu
  exact ld_tail hS hM h0 (fun h => (show M 2332 0 0 = b from hc h).trans (hu2.symm.trans (p_64 rfl).symm))
theorem ld_tailL {v : Int32} {u : Int64} {b : Int} {X : zm_S → Option β} (hS : Sh L xs P S) (hM : qM P S = M) (h0 : M 2156 0 0 = v.toInt) (hc : v.toInt = 0 → cI (M 2332 0 0) b) (hu : vl u b) : ∃ S3, Sh L xs P S3 ∧ qM P S3 = M ∧ ((zi S 2156 18).bind fun _ => (zf_X18_thrown 20000 2156 S).bind fun r => if r.1 = v then if v = 0 then (za_l r.2 2332 (0 : Int32)).bind fun w75 => if (lg_cmp w75 u) = 0 then X r.2 else none else X r.2 else none) = X S3 := by
  have hu2 : u.toInt = b := hu
  exact ld_tail hS hM h0 (fun h => (show M 2332 0 0 = b from hc h).trans hu2.symm)
theorem ld_tailB {v u : Int32} {b : Int} {X : zm_S → Option β} (hS : Sh L xs P S) (hM : qM P S = M) (h0 : M 2156 0 0 = v.toInt) (hc : v.toInt = 0 → cB (M 2332 0 0) b) (hu : vi u b) : ∃ S3, Sh L xs P S3 ∧ qM P S3 = M ∧ ((zi S 2156 18).bind fun _ => (zf_X18_thrown 20000 2156 S).bind fun r => if r.1 = v then if v = 0 then (za_l r.2 2332 (0 : Int32)).bind fun w75 => if u = 0 then (if (lg_cmp w75 (0 : Int64)) = 0 then X r.2 else none) else (if (lg_cmp w75 (1 : Int64)) = 0 then X r.2 else none) else X r.2 else none) = X S3 := by
  have hu2 : u.toInt = b := hu
  by_cases hz : u = 0
  · simp only [if_pos hz]
    refine ld_tail hS hM h0 (fun h => ?_)
    have e : b = 0 := by rw [← hu2, hz]; rfl
    have q : M 2332 0 0 = if b = 0 then 0 else 1 := hc h
    rw [q, if_pos e]
    rfl
  · simp only [if_neg hz]
    refine ld_tail hS hM h0 (fun h => ?_)
    have e : ¬ b = 0 := fun x => hz (Int32.toInt_inj.mp (hu2.trans x))
    have q : M 2332 0 0 = if b = 0 then 0 else 1 := hc h
    rw [q, if_neg e]
    rfl
theorem ld_tailU {v : Int32} {X : zm_S → Option β} (hS : Sh L xs P S) (hM : qM P S = M) (h0 : M 2156 0 0 = v.toInt) : ∃ S3, Sh L xs P S3 ∧ qM P S3 = M ∧ ((zi S 2156 18).bind fun _ => (zf_X18_thrown 20000 2156 S).bind fun r => if r.1 = v then X r.2 else none) = X S3 := by
  have g : qs ((zi S 2156 18).bind fun _ => (zf_X18_thrown 20000 2156 S).bind fun r => if r.1 = v then X r.2 else none) ((qf_X18_thrown 20000 M).bind fun _ => some ()) (fun x _ => ∃ S3, Sh L xs P S3 ∧ qM P S3 = M ∧ x = X S3) := by
    refine qs_zi hS pl_2156 ts_2156 ?_
    intro b hb
    obtain ⟨⟨v1, S1⟩, e1, h1, h2, h3⟩ := qz_X18_thrown hS hM (M 2156 0 0) rfl
    have h4 : v1.toInt = M 2156 0 0 := h1
    have e2 : v1 = v := Int32.toInt_inj.mp (h4.trans h0)
    rw [e1]
    show ∃ S3, Sh L xs P S3 ∧ qM P S3 = M ∧ (if v1 = v then X S1 else none) = X S3
    exact ⟨S1, h2, h3, if_pos e2⟩
  exact g () rfl
end TAIL
