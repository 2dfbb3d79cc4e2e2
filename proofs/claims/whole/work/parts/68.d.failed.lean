/-! ===== the law's step for one call (failed): the pattern for all ===== -/
section LW
variable {L : Nat} {xs : Nat → Int32} {P : Nat → Nat} {S : zm_S}
theorem sh_zi (h : Sh L xs P S) : zi S 2156 18 = some () := by
  have q : qs ((zi S 2156 18).bind (fun _ => some ())) (some ()) (fun x _ => x = some ()) := qs_zi h pl_2156 ts_2156 (fun _ _ => rfl)
  have q2 := q () rfl
  cases e : zi S 2156 18 with
  | none =>
    rw [e] at q2
    cases q2
  | some u => rfl
theorem i32_r (x : Int32) : -2147483648 ≤ x.toInt ∧ x.toInt ≤ 2147483647 := by
  have h1 := Int32.le_toInt x
  have h2 := Int32.toInt_lt x
  omega
theorem lw_failed {M : qm} {k : Nat → Nat → Nat → Nat → Int32 → Nat → Nat → zm_S → Option ((Int32 × zm_S) ⊕ (Unit × zm_S))} {q rc rs : Nat} (hS : Sh L xs P S) (hM : qM P S = M) (hL : L < 2147483648) (hq : q + 7 ≤ L) (hr : 2 ≤ rc ∧ 12 ≤ rs) (h_built : R_built M M) (h_failed : R_failed M M) : ∃ S3 M1 M2, Sh L xs P S3 ∧ qM P S3 = M2 ∧ Fg 165263992197562149737978827008192759957101170741070304821162198818601447809077836456297302609928821211897803006255839576064 M M1 ∧ Fg 1461501637330902918203684832716283019655932542976 M1 M2 ∧ zf_L_law_J4562 20000 k 0 6 2156 2332 (Int32.ofNat q) rc rs S = k 0 6 2156 2332 (Int32.ofNat q + 7) (rc - 2) (rs - 12) S3 := by
  have fr0 : Fg 0 M M := Fg_refl
  obtain ⟨v, S1, u, S2, M1, M2, a1, a3, a4, c1, c3, c4, h0, hc, f0, g0, -⟩ := ld_call (qz_L_failed (i1 := xs (q + 1)) hS hM rfl) (fun S1 M1 s1 m1 => qz_X18_failed (i1 := xs (q + 1)) s1 m1 rfl) (fr_L_failed Fg_refl) (fun M1 => fr_X18_failed Fg_refl) rfl (fun K hK => op_failed (i32_r _) (R_built_x (fr0 6 11 0 rfl) (hK 2156 1 0 rfl) h_built) (R_failed_x (fun i j => Fg_v (a := 1138) (j := i) fr0 rfl rfl) (fun i j => Fg_v (a := 2251) (j := i) hK rfl rfl) h_failed))
  obtain ⟨S3, s1, s2, s3⟩ := ld_tail (v := v) (u := u.toInt64) (X := fun S3 => k 0 6 2156 2332 (Int32.ofNat q + 7) (rc - 2) (rs - 12) S3) c3 c4 h0 (fun h => (hc h).trans (p_64 rfl).symm)
  refine ⟨S3, M1, M2, s1, s2, f0, g0, ?_⟩
  unfold zf_L_law_J4562
  refine zb_to (sh_argk (k := 1) hS hL (by omega)) ?_
  rw [if_pos hr]
  refine zb_to a1 ?_
  refine zb_to (sh_argk (k := 1) a3 hL (by omega)) ?_
  refine zb_to (sh_zi a3) ?_
  refine zb_to c1 ?_
  exact s3
end LW
