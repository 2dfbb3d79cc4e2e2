/-! ===== behind both answers: the law looks whether both threw alike and answered alike ===== -/
section TAIL
variable {L : Nat} {xs : Nat → Int32} {P : Nat → Nat} {S : zm_S} {M : qm} {β : Type}
theorem ld_tail {v : Int32} {u : Int64} {X : zm_S → Option β} (hS : Sh L xs P S) (hM : qM P S = M) (h0 : M 2156 0 0 = v.toInt) (hc : v.toInt = 0 → M 2332 0 0 = u.toInt) : ∃ S3, Sh L xs P S3 ∧ qM P S3 = M ∧ ((zi S 2156 18).bind fun _ => (zf_X18_thrown 20000 2156 S).bind fun r => if r.1 = v then if v = 0 then (za_l r.2 2332 (0 : Int32)).bind fun w75 => if (lg_cmp w75 u) = 0 then X r.2 else none else X r.2 else none) = X S3 := by
  have g : qs ((zi S 2156 18).bind fun _ => (zf_X18_thrown 20000 2156 S).bind fun r => if r.1 = v then if v = 0 then (za_l r.2 2332 (0 : Int32)).bind fun w75 => if (lg_cmp w75 u) = 0 then X r.2 else none else X r.2 else none) ((qf_X18_thrown 20000 M).bind fun _ => some ()) (fun x _ => ∃ S3, Sh L xs P S3 ∧ qM P S3 = M ∧ x = X S3) := by
    refine qs_zi hS pl_2156 ts_2156 ?_
    intro b hb
    obtain ⟨⟨v1, S1⟩, e1, h1, h2, h3⟩ := qz_X18_thrown hS hM (M 2156 0 0) rfl
    have h4 : v1.toInt = M 2156 0 0 := h1
    have e2 : v1 = v := Int32.toInt_inj.mp (h4.trans h0)
    rw [e1]
    show ∃ S3, Sh L xs P S3 ∧ qM P S3 = M ∧ (if v1 = v then if v = 0 then (za_l S1 2332 (0 : Int32)).bind fun w75 => if (lg_cmp w75 u) = 0 then X S1 else none else X S1 else none) = X S3
    refine ⟨S1, h2, h3, ?_⟩
    rw [if_pos e2]
    by_cases hv : v = 0
    · rw [if_pos hv]
      have h5 : v.toInt = 0 := by rw [hv]; rfl
      have q : qs ((za_l S1 2332 (0 : Int32)).bind fun w75 => if (lg_cmp w75 u) = 0 then X S1 else none) (some ()) (fun x _ => x = X S1) := by
        refine qs_xl h3 (pa_p h2 pl_2332 ts_2332) (i := 0) (by decide) (by decide) (fun w hw => ?_)
        intro _ _
        exact if_pos ((g_eq hw rfl).mpr (hc h5))
      exact q () rfl
    · rw [if_neg hv]
  exact g () rfl
end TAIL
