/-! ===== the law's step for each of its calls (wip/tools/q/genlw.py): hop is what both calls do ===== -/
section LW
variable {L : Nat} {xs : Nat → Int32} {P : Nat → Nat} {S : zm_S}
theorem lx_line {M : qm} {k : Nat → Nat → Nat → Nat → Int32 → Nat → Nat → zm_S → Option ((Int32 × zm_S) ⊕ (Unit × zm_S))} {q rc rs : Nat} {T : qm → qm → Prop} (hS : Sh L xs P S) (hM : qM P S = M) (hL : L < 2147483648) (hq : q + 7 ≤ L) (hr : 3 ≤ rc ∧ 18 ≤ rs) (hop : ∀ K, Fg 165263992197562149737978827008192759957101170741070304821162198818601447809077836456297302609928821211897803006255839576204 M K → oK2 cI (qf_L_line 20000 (xs (q + 1)).toInt (xs (q + 2)).toInt (xs (q + 3)).toInt (xs (q + 4)).toInt M) (qf_X18_line 20000 (xs (q + 1)).toInt (xs (q + 2)).toInt (xs (q + 3)).toInt (xs (q + 4)).toInt K) T) : ∃ S3 P3 M1 M2, Sh L xs P3 S3 ∧ qM P3 S3 = M2 ∧ Fg 165263992197562149737978827008192759957101170741070304821162198818601447809077836456297302609928821211897803006255839576204 M M1 ∧ Fg 1520250543777229653268265574869478557604193505611305975808 M1 M2 ∧ T M1 M2 ∧ zf_L_law_J376 20000 k 0 6 2156 2332 (Int32.ofNat q) rc rs S = k 0 6 2156 2332 (Int32.ofNat q + 7) (rc - 3) (rs - 18) S3 := by
  obtain ⟨v, S1, u, S2, M1, M2, b, P1, P2, a1, a3, a4, c1, c3, c4, h0, hc, hu, f0, g0, hT⟩ := ld_callG (re_of (qz_L_line (i1 := (xs (q + 1))) (i2 := (xs (q + 2))) (i3 := (xs (q + 3))) (i4 := (xs (q + 4))) hS hM rfl rfl rfl rfl)) (fun P1 S1 M1 s1 m1 => (re_of (qz_X18_line (i1 := (xs (q + 1))) (i2 := (xs (q + 2))) (i3 := (xs (q + 3))) (i4 := (xs (q + 4))) s1 m1 rfl rfl rfl rfl))) (fr_L_line Fg_refl) (fun M1 => fr_X18_line Fg_refl) rfl hop
  obtain ⟨S3, s1, s2, s3⟩ := ld_tailI (v := v) (X := fun S3 => k 0 6 2156 2332 (Int32.ofNat q + 7) (rc - 3) (rs - 18) S3) c3 c4 h0 hc hu
  refine ⟨S3, P2, M1, M2, s1, s2, f0, g0, hT, ?_⟩
  unfold zf_L_law_J376
  refine zb_to (sh_argk (k := 1) hS hL (by omega)) ?_
  refine zb_to (sh_argk (k := 2) hS hL (by omega)) ?_
  refine zb_to (sh_argk (k := 3) hS hL (by omega)) ?_
  refine zb_to (sh_argk (k := 4) hS hL (by omega)) ?_
  rw [if_pos hr]
  refine zb_to a1 ?_
  refine zb_to (sh_argk (k := 1) a3 hL (by omega)) ?_
  refine zb_to (sh_argk (k := 2) a3 hL (by omega)) ?_
  refine zb_to (sh_argk (k := 3) a3 hL (by omega)) ?_
  refine zb_to (sh_argk (k := 4) a3 hL (by omega)) ?_
  refine zb_to (sh_zi a3) ?_
  refine zb_to c1 ?_
  exact s3

theorem lx_move {M : qm} {k : Nat → Nat → Nat → Nat → Int32 → Nat → Nat → zm_S → Option ((Int32 × zm_S) ⊕ (Unit × zm_S))} {q rc rs : Nat} {T : qm → qm → Prop} (hS : Sh L xs P S) (hM : qM P S = M) (hL : L < 2147483648) (hq : q + 7 ≤ L) (hr : 2 ≤ rc ∧ 12 ≤ rs) (hop : ∀ K, Fg 165263992197562149737978827008192759957101170741070304821162198818601447809077836456297302609928821211897803006255839576200 M K → oK2 cB (qf_L_move 20000 (xs (q + 1)).toInt (xs (q + 2)).toInt (xs (q + 3)).toInt M) (qf_X18_move 20000 (xs (q + 1)).toInt (xs (q + 2)).toInt (xs (q + 3)).toInt K) T) : ∃ S3 P3 M1 M2, Sh L xs P3 S3 ∧ qM P3 S3 = M2 ∧ Fg 165263992197562149737978827008192759957101170741070304821162198818601447809077836456297302609928821211897803006255839576200 M M1 ∧ Fg 147131546006039982490010157396264126134178996784950411264 M1 M2 ∧ T M1 M2 ∧ zf_L_law_J468 20000 k 0 6 2156 2332 (Int32.ofNat q) rc rs S = k 0 6 2156 2332 (Int32.ofNat q + 7) (rc - 2) (rs - 12) S3 := by
  obtain ⟨v, S1, u, S2, M1, M2, b, P1, P2, a1, a3, a4, c1, c3, c4, h0, hc, hu, f0, g0, hT⟩ := ld_callG (re_of (qz_L_move (i1 := (xs (q + 1))) (i2 := (xs (q + 2))) (i3 := (xs (q + 3))) hS hM rfl rfl rfl)) (fun P1 S1 M1 s1 m1 => (re_of (qz_X18_move (i1 := (xs (q + 1))) (i2 := (xs (q + 2))) (i3 := (xs (q + 3))) s1 m1 rfl rfl rfl))) (fr_L_move Fg_refl) (fun M1 => fr_X18_move Fg_refl) rfl hop
  obtain ⟨S3, s1, s2, s3⟩ := ld_tailB (v := v) (X := fun S3 => k 0 6 2156 2332 (Int32.ofNat q + 7) (rc - 2) (rs - 12) S3) c3 c4 h0 hc hu
  refine ⟨S3, P2, M1, M2, s1, s2, f0, g0, hT, ?_⟩
  unfold zf_L_law_J468
  refine zb_to (sh_argk (k := 1) hS hL (by omega)) ?_
  refine zb_to (sh_argk (k := 2) hS hL (by omega)) ?_
  refine zb_to (sh_argk (k := 3) hS hL (by omega)) ?_
  rw [if_pos hr]
  refine zb_to a1 ?_
  refine zb_to (sh_argk (k := 1) a3 hL (by omega)) ?_
  refine zb_to (sh_argk (k := 2) a3 hL (by omega)) ?_
  refine zb_to (sh_argk (k := 3) a3 hL (by omega)) ?_
  refine zb_to (sh_zi a3) ?_
  refine zb_to c1 ?_
  unfold zf_L_law_J546
  exact s3

theorem lx_door {M : qm} {k : Nat → Nat → Nat → Nat → Int32 → Nat → Nat → zm_S → Option ((Int32 × zm_S) ⊕ (Unit × zm_S))} {q rc rs : Nat} {T : qm → qm → Prop} (hS : Sh L xs P S) (hM : qM P S = M) (hL : L < 2147483648) (hq : q + 7 ≤ L) (hr : 3 ≤ rc ∧ 18 ≤ rs) (hop : ∀ K, Fg 165263992197562149737978827008192759957101170741070304821162198818601447809077836456297302609928821211897803006255839576112 M K → oK2 cI (qf_L_door 20000 (xs (q + 1)).toInt (xs (q + 2)).toInt (xs (q + 3)).toInt (xs (q + 4)).toInt M) (qf_X18_door 20000 (xs (q + 1)).toInt (xs (q + 2)).toInt (xs (q + 3)).toInt (xs (q + 4)).toInt K) T) : ∃ S3 P3 M1 M2, Sh L xs P3 S3 ∧ qM P3 S3 = M2 ∧ Fg 165263992197562149737978827008192759957101170741070304821162198818601447809077836456297302609928821211897803006255839576112 M M1 ∧ Fg 11769565755311528069523008086718059362908199478025997254656 M1 M2 ∧ T M1 M2 ∧ zf_L_law_J555 20000 k 0 6 2156 2332 (Int32.ofNat q) rc rs S = k 0 6 2156 2332 (Int32.ofNat q + 7) (rc - 3) (rs - 18) S3 := by
  obtain ⟨v, S1, u, S2, M1, M2, b, P1, P2, a1, a3, a4, c1, c3, c4, h0, hc, hu, f0, g0, hT⟩ := ld_callG (re_of (qz_L_door (i1 := (xs (q + 1))) (i2 := (xs (q + 2))) (i3 := (xs (q + 3))) (i4 := (xs (q + 4))) hS hM rfl rfl rfl rfl)) (fun P1 S1 M1 s1 m1 => (re_of (qz_X18_door (i1 := (xs (q + 1))) (i2 := (xs (q + 2))) (i3 := (xs (q + 3))) (i4 := (xs (q + 4))) s1 m1 rfl rfl rfl rfl))) (fr_L_door Fg_refl) (fun M1 => fr_X18_door Fg_refl) rfl hop
  obtain ⟨S3, s1, s2, s3⟩ := ld_tailI (v := v) (X := fun S3 => k 0 6 2156 2332 (Int32.ofNat q + 7) (rc - 3) (rs - 18) S3) c3 c4 h0 hc hu
  refine ⟨S3, P2, M1, M2, s1, s2, f0, g0, hT, ?_⟩
  unfold zf_L_law_J555
  refine zb_to (sh_argk (k := 1) hS hL (by omega)) ?_
  refine zb_to (sh_argk (k := 2) hS hL (by omega)) ?_
  refine zb_to (sh_argk (k := 3) hS hL (by omega)) ?_
  refine zb_to (sh_argk (k := 4) hS hL (by omega)) ?_
  rw [if_pos hr]
  refine zb_to a1 ?_
  refine zb_to (sh_argk (k := 1) a3 hL (by omega)) ?_
  refine zb_to (sh_argk (k := 2) a3 hL (by omega)) ?_
  refine zb_to (sh_argk (k := 3) a3 hL (by omega)) ?_
  refine zb_to (sh_argk (k := 4) a3 hL (by omega)) ?_
  refine zb_to (sh_zi a3) ?_
  refine zb_to c1 ?_
  exact s3

theorem lx_find {M : qm} {k : Nat → Nat → Nat → Nat → Int32 → Nat → Nat → zm_S → Option ((Int32 × zm_S) ⊕ (Unit × zm_S))} {q rc rs : Nat} {T : qm → qm → Prop} (hS : Sh L xs P S) (hM : qM P S = M) (hL : L < 2147483648) (hq : q + 7 ≤ L) (hr : 1 ≤ rc ∧ 6 ≤ rs) (hop : ∀ K, Fg 165263992197562149737978827008192759957101170741070304821162198818601447809077836456297302609928821211897803006255856353216 M K → oK2 cI (qf_L_find 20000 M) (qf_X18_find 20000 K) T) : ∃ S3 P3 M1 M2, Sh L xs P3 S3 ∧ qM P3 S3 = M2 ∧ Fg 165263992197562149737978827008192759957101170741070304821162198818601447809077836456297302609928821211897803006255856353216 M M1 ∧ Fg 3290996609472813769451984113552915374052560223390431664739975168 M1 M2 ∧ T M1 M2 ∧ zf_L_law_J647 20000 k 0 6 2156 2332 (Int32.ofNat q) rc rs S = k 0 6 2156 2332 (Int32.ofNat q + 7) (rc - 1) (rs - 6) S3 := by
  obtain ⟨v, S1, u, S2, M1, M2, b, P1, P2, a1, a3, a4, c1, c3, c4, h0, hc, hu, f0, g0, hT⟩ := ld_callG (qz_L_find  hS hM) (fun P1 S1 M1 s1 m1 => (qz_X18_find  s1 m1)) (fr_L_find Fg_refl) (fun M1 => fr_X18_find Fg_refl) rfl hop
  obtain ⟨S3, s1, s2, s3⟩ := ld_tailI (v := v) (X := fun S3 => k 0 6 2156 2332 (Int32.ofNat q + 7) (rc - 1) (rs - 6) S3) c3 c4 h0 hc hu
  refine ⟨S3, P2, M1, M2, s1, s2, f0, g0, hT, ?_⟩
  unfold zf_L_law_J647
  rw [if_pos hr]
  refine zb_to a1 ?_
  refine zb_to (sh_zi a3) ?_
  refine zb_to c1 ?_
  exact s3

theorem lx_count {M : qm} {k : Nat → Nat → Nat → Nat → Int32 → Nat → Nat → zm_S → Option ((Int32 × zm_S) ⊕ (Unit × zm_S))} {q rc rs : Nat} {T : qm → qm → Prop} (hS : Sh L xs P S) (hM : qM P S = M) (hL : L < 2147483648) (hq : q + 7 ≤ L) (hr : 2 ≤ rc ∧ 12 ≤ rs) (hop : ∀ K, Fg 165263992197562149737978827008192759957101170741070304821162198818601447809077836456297302609928821211897803006255839576064 M K → oK2 cI (qf_L_count 20000 (xs (q + 1)).toInt M) (qf_X18_count 20000 (xs (q + 1)).toInt K) T) : ∃ S3 P3 M1 M2, Sh L xs P3 S3 ∧ qM P3 S3 = M2 ∧ Fg 165263992197562149737978827008192759957101170741070304821162198818601447809077836456297302609928821211897803006255839576064 M M1 ∧ Fg 1461501637330902918203684832716283019655932542976 M1 M2 ∧ T M1 M2 ∧ zf_L_law_J691 20000 k 0 6 2156 2332 (Int32.ofNat q) rc rs S = k 0 6 2156 2332 (Int32.ofNat q + 7) (rc - 2) (rs - 12) S3 := by
  obtain ⟨v, S1, u, S2, M1, M2, b, P1, P2, a1, a3, a4, c1, c3, c4, h0, hc, hu, f0, g0, hT⟩ := ld_callG (re_of (qz_L_count (i1 := (xs (q + 1))) hS hM rfl)) (fun P1 S1 M1 s1 m1 => (re_of (qz_X18_count (i1 := (xs (q + 1))) s1 m1 rfl))) (fr_L_count Fg_refl) (fun M1 => fr_X18_count Fg_refl) rfl hop
  obtain ⟨S3, s1, s2, s3⟩ := ld_tailI (v := v) (X := fun S3 => k 0 6 2156 2332 (Int32.ofNat q + 7) (rc - 2) (rs - 12) S3) c3 c4 h0 hc hu
  refine ⟨S3, P2, M1, M2, s1, s2, f0, g0, hT, ?_⟩
  unfold zf_L_law_J691
  refine zb_to (sh_argk (k := 1) hS hL (by omega)) ?_
  rw [if_pos hr]
  refine zb_to a1 ?_
  refine zb_to (sh_argk (k := 1) a3 hL (by omega)) ?_
  refine zb_to (sh_zi a3) ?_
  refine zb_to c1 ?_
  exact s3

theorem lx_sides {M : qm} {k : Nat → Nat → Nat → Nat → Int32 → Nat → Nat → zm_S → Option ((Int32 × zm_S) ⊕ (Unit × zm_S))} {q rc rs : Nat} {T : qm → qm → Prop} (hS : Sh L xs P S) (hM : qM P S = M) (hL : L < 2147483648) (hq : q + 7 ≤ L) (hr : 2 ≤ rc ∧ 12 ≤ rs) (hop : ∀ K, Fg 165263992197562149737978827008192759957101170741070304821162198818601447809077836456297302609928821211897803006255839576064 M K → oK2 cI (qf_L_sides 20000 (xs (q + 1)).toInt (xs (q + 2)).toInt M) (qf_X18_sides 20000 (xs (q + 1)).toInt (xs (q + 2)).toInt K) T) : ∃ S3 P3 M1 M2, Sh L xs P3 S3 ∧ qM P3 S3 = M2 ∧ Fg 165263992197562149737978827008192759957101170741070304821162198818601447809077836456297302609928821211897803006255839576064 M M1 ∧ Fg 1461501637330902918203684832716283019655932542976 M1 M2 ∧ T M1 M2 ∧ zf_L_law_J747 20000 k 0 6 2156 2332 (Int32.ofNat q) rc rs S = k 0 6 2156 2332 (Int32.ofNat q + 7) (rc - 2) (rs - 12) S3 := by
  obtain ⟨v, S1, u, S2, M1, M2, b, P1, P2, a1, a3, a4, c1, c3, c4, h0, hc, hu, f0, g0, hT⟩ := ld_callG (re_of (qz_L_sides (i1 := (xs (q + 1))) (i2 := (xs (q + 2))) hS hM rfl rfl)) (fun P1 S1 M1 s1 m1 => (re_of (qz_X18_sides (i1 := (xs (q + 1))) (i2 := (xs (q + 2))) s1 m1 rfl rfl))) (fr_L_sides Fg_refl) (fun M1 => fr_X18_sides Fg_refl) rfl hop
  obtain ⟨S3, s1, s2, s3⟩ := ld_tailI (v := v) (X := fun S3 => k 0 6 2156 2332 (Int32.ofNat q + 7) (rc - 2) (rs - 12) S3) c3 c4 h0 hc hu
  refine ⟨S3, P2, M1, M2, s1, s2, f0, g0, hT, ?_⟩
  unfold zf_L_law_J747
  refine zb_to (sh_argk (k := 1) hS hL (by omega)) ?_
  refine zb_to (sh_argk (k := 2) hS hL (by omega)) ?_
  rw [if_pos hr]
  refine zb_to a1 ?_
  refine zb_to (sh_argk (k := 1) a3 hL (by omega)) ?_
  refine zb_to (sh_argk (k := 2) a3 hL (by omega)) ?_
  refine zb_to (sh_zi a3) ?_
  refine zb_to c1 ?_
  exact s3

theorem lx_side {M : qm} {k : Nat → Nat → Nat → Nat → Int32 → Nat → Nat → zm_S → Option ((Int32 × zm_S) ⊕ (Unit × zm_S))} {q rc rs : Nat} {T : qm → qm → Prop} (hS : Sh L xs P S) (hM : qM P S = M) (hL : L < 2147483648) (hq : q + 7 ≤ L) (hr : 2 ≤ rc ∧ 12 ≤ rs) (hop : ∀ K, Fg 165263992197562149737978827008192759957101170741070304821162198818601447809077836456297302609928821211897803006255839576064 M K → oK2 cI (qf_L_side 20000 (xs (q + 1)).toInt (xs (q + 2)).toInt (xs (q + 3)).toInt (xs (q + 4)).toInt M) (qf_X18_side 20000 (xs (q + 1)).toInt (xs (q + 2)).toInt (xs (q + 3)).toInt (xs (q + 4)).toInt K) T) : ∃ S3 P3 M1 M2, Sh L xs P3 S3 ∧ qM P3 S3 = M2 ∧ Fg 165263992197562149737978827008192759957101170741070304821162198818601447809077836456297302609928821211897803006255839576064 M M1 ∧ Fg 1461501637330902918203684832716283019655932542976 M1 M2 ∧ T M1 M2 ∧ zf_L_law_J815 20000 k 0 6 2156 2332 (Int32.ofNat q) rc rs S = k 0 6 2156 2332 (Int32.ofNat q + 7) (rc - 2) (rs - 12) S3 := by
  obtain ⟨v, S1, u, S2, M1, M2, b, P1, P2, a1, a3, a4, c1, c3, c4, h0, hc, hu, f0, g0, hT⟩ := ld_callG (re_of (qz_L_side (i1 := (xs (q + 1))) (i2 := (xs (q + 2))) (i3 := (xs (q + 3))) (i4 := (xs (q + 4))) hS hM rfl rfl rfl rfl)) (fun P1 S1 M1 s1 m1 => (re_of (qz_X18_side (i1 := (xs (q + 1))) (i2 := (xs (q + 2))) (i3 := (xs (q + 3))) (i4 := (xs (q + 4))) s1 m1 rfl rfl rfl rfl))) (fr_L_side Fg_refl) (fun M1 => fr_X18_side Fg_refl) rfl hop
  obtain ⟨S3, s1, s2, s3⟩ := ld_tailI (v := v) (X := fun S3 => k 0 6 2156 2332 (Int32.ofNat q + 7) (rc - 2) (rs - 12) S3) c3 c4 h0 hc hu
  refine ⟨S3, P2, M1, M2, s1, s2, f0, g0, hT, ?_⟩
  unfold zf_L_law_J815
  refine zb_to (sh_argk (k := 1) hS hL (by omega)) ?_
  refine zb_to (sh_argk (k := 2) hS hL (by omega)) ?_
  refine zb_to (sh_argk (k := 3) hS hL (by omega)) ?_
  refine zb_to (sh_argk (k := 4) hS hL (by omega)) ?_
  rw [if_pos hr]
  refine zb_to a1 ?_
  refine zb_to (sh_argk (k := 1) a3 hL (by omega)) ?_
  refine zb_to (sh_argk (k := 2) a3 hL (by omega)) ?_
  refine zb_to (sh_argk (k := 3) a3 hL (by omega)) ?_
  refine zb_to (sh_argk (k := 4) a3 hL (by omega)) ?_
  refine zb_to (sh_zi a3) ?_
  refine zb_to c1 ?_
  exact s3

theorem lx_size {M : qm} {k : Nat → Nat → Nat → Nat → Int32 → Nat → Nat → zm_S → Option ((Int32 × zm_S) ⊕ (Unit × zm_S))} {q rc rs : Nat} {T : qm → qm → Prop} (hS : Sh L xs P S) (hM : qM P S = M) (hL : L < 2147483648) (hq : q + 7 ≤ L) (hr : 2 ≤ rc ∧ 12 ≤ rs) (hop : ∀ K, Fg 165263992197562149737978827008192759957101170741070304821162198818601447809077836456297302609928821211897803006255839576064 M K → oK2 cI (qf_L_size 20000 (xs (q + 1)).toInt (xs (q + 2)).toInt M) (qf_X18_size 20000 (xs (q + 1)).toInt (xs (q + 2)).toInt K) T) : ∃ S3 P3 M1 M2, Sh L xs P3 S3 ∧ qM P3 S3 = M2 ∧ Fg 165263992197562149737978827008192759957101170741070304821162198818601447809077836456297302609928821211897803006255839576064 M M1 ∧ Fg 1461501637330902918203684832716283019655932542976 M1 M2 ∧ T M1 M2 ∧ zf_L_law_J907 20000 k 0 6 2156 2332 (Int32.ofNat q) rc rs S = k 0 6 2156 2332 (Int32.ofNat q + 7) (rc - 2) (rs - 12) S3 := by
  obtain ⟨v, S1, u, S2, M1, M2, b, P1, P2, a1, a3, a4, c1, c3, c4, h0, hc, hu, f0, g0, hT⟩ := ld_callG (re_of (qz_L_size (i1 := (xs (q + 1))) (i2 := (xs (q + 2))) hS hM rfl rfl)) (fun P1 S1 M1 s1 m1 => (re_of (qz_X18_size (i1 := (xs (q + 1))) (i2 := (xs (q + 2))) s1 m1 rfl rfl))) (fr_L_size Fg_refl) (fun M1 => fr_X18_size Fg_refl) rfl hop
  obtain ⟨S3, s1, s2, s3⟩ := ld_tailI (v := v) (X := fun S3 => k 0 6 2156 2332 (Int32.ofNat q + 7) (rc - 2) (rs - 12) S3) c3 c4 h0 hc hu
  refine ⟨S3, P2, M1, M2, s1, s2, f0, g0, hT, ?_⟩
  unfold zf_L_law_J907
  refine zb_to (sh_argk (k := 1) hS hL (by omega)) ?_
  refine zb_to (sh_argk (k := 2) hS hL (by omega)) ?_
  rw [if_pos hr]
  refine zb_to a1 ?_
  refine zb_to (sh_argk (k := 1) a3 hL (by omega)) ?_
  refine zb_to (sh_argk (k := 2) a3 hL (by omega)) ?_
  refine zb_to (sh_zi a3) ?_
  refine zb_to c1 ?_
  exact s3

theorem lx_at {M : qm} {k : Nat → Nat → Nat → Nat → Int32 → Nat → Nat → zm_S → Option ((Int32 × zm_S) ⊕ (Unit × zm_S))} {q rc rs : Nat} {T : qm → qm → Prop} (hS : Sh L xs P S) (hM : qM P S = M) (hL : L < 2147483648) (hq : q + 7 ≤ L) (hr : 2 ≤ rc ∧ 12 ≤ rs) (hop : ∀ K, Fg 165263992197562149737978827008192759957101170741070304821162198818601447809077836456297302609928821211897803006255839576064 M K → oK2 cI (qf_L_at 20000 (xs (q + 1)).toInt (xs (q + 2)).toInt M) (qf_X18_at 20000 (xs (q + 1)).toInt (xs (q + 2)).toInt K) T) : ∃ S3 P3 M1 M2, Sh L xs P3 S3 ∧ qM P3 S3 = M2 ∧ Fg 165263992197562149737978827008192759957101170741070304821162198818601447809077836456297302609928821211897803006255839576064 M M1 ∧ Fg 1461501637330902918203684832716283019655932542976 M1 M2 ∧ T M1 M2 ∧ zf_L_law_J975 20000 k 0 6 2156 2332 (Int32.ofNat q) rc rs S = k 0 6 2156 2332 (Int32.ofNat q + 7) (rc - 2) (rs - 12) S3 := by
  obtain ⟨v, S1, u, S2, M1, M2, b, P1, P2, a1, a3, a4, c1, c3, c4, h0, hc, hu, f0, g0, hT⟩ := ld_callG (re_of (qz_L_at (i1 := (xs (q + 1))) (i2 := (xs (q + 2))) hS hM rfl rfl)) (fun P1 S1 M1 s1 m1 => (re_of (qz_X18_at (i1 := (xs (q + 1))) (i2 := (xs (q + 2))) s1 m1 rfl rfl))) (fr_L_at Fg_refl) (fun M1 => fr_X18_at Fg_refl) rfl hop
  obtain ⟨S3, s1, s2, s3⟩ := ld_tailI (v := v) (X := fun S3 => k 0 6 2156 2332 (Int32.ofNat q + 7) (rc - 2) (rs - 12) S3) c3 c4 h0 hc hu
  refine ⟨S3, P2, M1, M2, s1, s2, f0, g0, hT, ?_⟩
  unfold zf_L_law_J975
  refine zb_to (sh_argk (k := 1) hS hL (by omega)) ?_
  refine zb_to (sh_argk (k := 2) hS hL (by omega)) ?_
  rw [if_pos hr]
  refine zb_to a1 ?_
  refine zb_to (sh_argk (k := 1) a3 hL (by omega)) ?_
  refine zb_to (sh_argk (k := 2) a3 hL (by omega)) ?_
  refine zb_to (sh_zi a3) ?_
  refine zb_to c1 ?_
  exact s3

theorem lx_between {M : qm} {k : Nat → Nat → Nat → Nat → Int32 → Nat → Nat → zm_S → Option ((Int32 × zm_S) ⊕ (Unit × zm_S))} {q rc rs : Nat} {T : qm → qm → Prop} (hS : Sh L xs P S) (hM : qM P S = M) (hL : L < 2147483648) (hq : q + 7 ≤ L) (hr : 2 ≤ rc ∧ 12 ≤ rs) (hop : ∀ K, Fg 165263992197562149737978827008192759957101170741070304821162198818601447809077836456297302609928821211897803006255839576064 M K → oK2 cI (qf_L_between 20000 (xs (q + 1)).toInt (xs (q + 2)).toInt M) (qf_X18_between 20000 (xs (q + 1)).toInt (xs (q + 2)).toInt K) T) : ∃ S3 P3 M1 M2, Sh L xs P3 S3 ∧ qM P3 S3 = M2 ∧ Fg 165263992197562149737978827008192759957101170741070304821162198818601447809077836456297302609928821211897803006255839576064 M M1 ∧ Fg 1461501637330902918203684832716283019655932542976 M1 M2 ∧ T M1 M2 ∧ zf_L_law_J1043 20000 k 0 6 2156 2332 (Int32.ofNat q) rc rs S = k 0 6 2156 2332 (Int32.ofNat q + 7) (rc - 2) (rs - 12) S3 := by
  obtain ⟨v, S1, u, S2, M1, M2, b, P1, P2, a1, a3, a4, c1, c3, c4, h0, hc, hu, f0, g0, hT⟩ := ld_callG (re_of (qz_L_between (i1 := (xs (q + 1))) (i2 := (xs (q + 2))) hS hM rfl rfl)) (fun P1 S1 M1 s1 m1 => (re_of (qz_X18_between (i1 := (xs (q + 1))) (i2 := (xs (q + 2))) s1 m1 rfl rfl))) (fr_L_between Fg_refl) (fun M1 => fr_X18_between Fg_refl) rfl hop
  obtain ⟨S3, s1, s2, s3⟩ := ld_tailI (v := v) (X := fun S3 => k 0 6 2156 2332 (Int32.ofNat q + 7) (rc - 2) (rs - 12) S3) c3 c4 h0 hc hu
  refine ⟨S3, P2, M1, M2, s1, s2, f0, g0, hT, ?_⟩
  unfold zf_L_law_J1043
  refine zb_to (sh_argk (k := 1) hS hL (by omega)) ?_
  refine zb_to (sh_argk (k := 2) hS hL (by omega)) ?_
  rw [if_pos hr]
  refine zb_to a1 ?_
  refine zb_to (sh_argk (k := 1) a3 hL (by omega)) ?_
  refine zb_to (sh_argk (k := 2) a3 hL (by omega)) ?_
  refine zb_to (sh_zi a3) ?_
  refine zb_to c1 ?_
  exact s3

theorem lx_way {M : qm} {k : Nat → Nat → Nat → Nat → Int32 → Nat → Nat → zm_S → Option ((Int32 × zm_S) ⊕ (Unit × zm_S))} {q rc rs : Nat} {T : qm → qm → Prop} (hS : Sh L xs P S) (hM : qM P S = M) (hL : L < 2147483648) (hq : q + 7 ≤ L) (hr : 2 ≤ rc ∧ 12 ≤ rs) (hop : ∀ K, Fg 165263992197562149737978827008192759957101170741070304821162198818601447809077836456297302609928821211897803006255843770368 M K → oK2 cI (qf_L_way 20000 (xs (q + 1)).toInt (xs (q + 2)).toInt M) (qf_X18_way 20000 (xs (q + 1)).toInt (xs (q + 2)).toInt K) T) : ∃ S3 P3 M1 M2, Sh L xs P3 S3 ∧ qM P3 S3 = M2 ∧ Fg 165263992197562149737978827008192759957101170741070304821162198818601447809077836456297302609928821211897803006255843770368 M M1 ∧ Fg 1645504557321207503656606513460268708667568581916599519281152000 M1 M2 ∧ T M1 M2 ∧ zf_L_law_J1111 20000 k 0 6 2156 2332 (Int32.ofNat q) rc rs S = k 0 6 2156 2332 (Int32.ofNat q + 7) (rc - 2) (rs - 12) S3 := by
  obtain ⟨v, S1, u, S2, M1, M2, b, P1, P2, a1, a3, a4, c1, c3, c4, h0, hc, hu, f0, g0, hT⟩ := ld_callG (re_of (qz_L_way (i1 := (xs (q + 1))) (i2 := (xs (q + 2))) hS hM rfl rfl)) (fun P1 S1 M1 s1 m1 => (re_of (qz_X18_way (i1 := (xs (q + 1))) (i2 := (xs (q + 2))) s1 m1 rfl rfl))) (fr_L_way Fg_refl) (fun M1 => fr_X18_way Fg_refl) rfl hop
  obtain ⟨S3, s1, s2, s3⟩ := ld_tailI (v := v) (X := fun S3 => k 0 6 2156 2332 (Int32.ofNat q + 7) (rc - 2) (rs - 12) S3) c3 c4 h0 hc hu
  refine ⟨S3, P2, M1, M2, s1, s2, f0, g0, hT, ?_⟩
  unfold zf_L_law_J1111
  refine zb_to (sh_argk (k := 1) hS hL (by omega)) ?_
  refine zb_to (sh_argk (k := 2) hS hL (by omega)) ?_
  rw [if_pos hr]
  refine zb_to a1 ?_
  refine zb_to (sh_argk (k := 1) a3 hL (by omega)) ?_
  refine zb_to (sh_argk (k := 2) a3 hL (by omega)) ?_
  refine zb_to (sh_zi a3) ?_
  refine zb_to c1 ?_
  exact s3

theorem lx_name {M : qm} {k : Nat → Nat → Nat → Nat → Int32 → Nat → Nat → zm_S → Option ((Int32 × zm_S) ⊕ (Unit × zm_S))} {q rc rs : Nat} {T : qm → qm → Prop} (hS : Sh L xs P S) (hM : qM P S = M) (hL : L < 2147483648) (hq : q + 7 ≤ L) (hr : 2 ≤ rc ∧ 12 ≤ rs) (hop : ∀ K, Fg 165263992197562149737978827008192759957101170741070304821162198818601447809077836456297302609928821211897803006255839608832 M K → oK2 cI (qf_L_name 20000 (xs (q + 1)).toInt (xs (q + 2)).toInt M) (qf_X18_name 20000 (xs (q + 1)).toInt (xs (q + 2)).toInt K) T) : ∃ S3 P3 M1 M2, Sh L xs P3 S3 ∧ qM P3 S3 = M2 ∧ Fg 165263992197562149737978827008192759957101170741070304821162198818601447809077836456297302609928821211897803006255839608832 M M1 ∧ Fg 803469022130956639408311949088784986093817779911052350193664 M1 M2 ∧ T M1 M2 ∧ zf_L_law_J1179 20000 k 0 6 2156 2332 (Int32.ofNat q) rc rs S = k 0 6 2156 2332 (Int32.ofNat q + 7) (rc - 2) (rs - 12) S3 := by
  obtain ⟨v, S1, u, S2, M1, M2, b, P1, P2, a1, a3, a4, c1, c3, c4, h0, hc, hu, f0, g0, hT⟩ := ld_callG (re_of (qz_L_name (i1 := (xs (q + 1))) (i2 := (xs (q + 2))) hS hM rfl rfl)) (fun P1 S1 M1 s1 m1 => (re_of (qz_X18_name (i1 := (xs (q + 1))) (i2 := (xs (q + 2))) s1 m1 rfl rfl))) (fr_L_name Fg_refl) (fun M1 => fr_X18_name Fg_refl) rfl hop
  obtain ⟨S3, s1, s2, s3⟩ := ld_tailI (v := v) (X := fun S3 => k 0 6 2156 2332 (Int32.ofNat q + 7) (rc - 2) (rs - 12) S3) c3 c4 h0 hc hu
  refine ⟨S3, P2, M1, M2, s1, s2, f0, g0, hT, ?_⟩
  unfold zf_L_law_J1179
  refine zb_to (sh_argk (k := 1) hS hL (by omega)) ?_
  refine zb_to (sh_argk (k := 2) hS hL (by omega)) ?_
  rw [if_pos hr]
  refine zb_to a1 ?_
  refine zb_to (sh_argk (k := 1) a3 hL (by omega)) ?_
  refine zb_to (sh_argk (k := 2) a3 hL (by omega)) ?_
  refine zb_to (sh_zi a3) ?_
  refine zb_to c1 ?_
  exact s3

theorem lx_nameOf {M : qm} {k : Nat → Nat → Nat → Nat → Int32 → Nat → Nat → zm_S → Option ((Int32 × zm_S) ⊕ (Unit × zm_S))} {q rc rs : Nat} {T : qm → qm → Prop} (hS : Sh L xs P S) (hM : qM P S = M) (hL : L < 2147483648) (hq : q + 7 ≤ L) (hr : 2 ≤ rc ∧ 12 ≤ rs) (hop : ∀ K, Fg 165263992197562149737978827008192759957101170741070304821162198818601447809077836456297302609928821211897803006255839576064 M K → oK2 cI (qf_L_nameOf 20000 (xs (q + 1)).toInt M) (qf_X18_nameOf 20000 (xs (q + 1)).toInt K) T) : ∃ S3 P3 M1 M2, Sh L xs P3 S3 ∧ qM P3 S3 = M2 ∧ Fg 165263992197562149737978827008192759957101170741070304821162198818601447809077836456297302609928821211897803006255839576064 M M1 ∧ Fg 1461501637330902918203684832716283019655932542976 M1 M2 ∧ T M1 M2 ∧ zf_L_law_J1247 20000 k 0 6 2156 2332 (Int32.ofNat q) rc rs S = k 0 6 2156 2332 (Int32.ofNat q + 7) (rc - 2) (rs - 12) S3 := by
  obtain ⟨v, S1, u, S2, M1, M2, b, P1, P2, a1, a3, a4, c1, c3, c4, h0, hc, hu, f0, g0, hT⟩ := ld_callG (re_of (qz_L_nameOf (i1 := (xs (q + 1))) hS hM rfl)) (fun P1 S1 M1 s1 m1 => (re_of (qz_X18_nameOf (i1 := (xs (q + 1))) s1 m1 rfl))) (fr_L_nameOf Fg_refl) (fun M1 => fr_X18_nameOf Fg_refl) rfl hop
  obtain ⟨S3, s1, s2, s3⟩ := ld_tailI (v := v) (X := fun S3 => k 0 6 2156 2332 (Int32.ofNat q + 7) (rc - 2) (rs - 12) S3) c3 c4 h0 hc hu
  refine ⟨S3, P2, M1, M2, s1, s2, f0, g0, hT, ?_⟩
  unfold zf_L_law_J1247
  refine zb_to (sh_argk (k := 1) hS hL (by omega)) ?_
  rw [if_pos hr]
  refine zb_to a1 ?_
  refine zb_to (sh_argk (k := 1) a3 hL (by omega)) ?_
  refine zb_to (sh_zi a3) ?_
  refine zb_to c1 ?_
  exact s3

theorem lx_say {M : qm} {k : Nat → Nat → Nat → Nat → Int32 → Nat → Nat → zm_S → Option ((Int32 × zm_S) ⊕ (Unit × zm_S))} {q rc rs : Nat} {T : qm → qm → Prop} (hS : Sh L xs P S) (hM : qM P S = M) (hL : L < 2147483648) (hq : q + 7 ≤ L) (hr : 2 ≤ rc ∧ 12 ≤ rs) (hop : ∀ K, Fg 165263992197562149737978827008192759957101170741070304821162198818601447809077836456297302609928821211897803006255990571008 M K → oK2 cI (qf_L_say 20000 ((((xs (q + 1))).toInt64 <<< (((32 : Int32)).toInt64 &&& 63)) ||| (((xs (q + 2))).toInt64 &&& (4294967295 : Int64))).toInt M) (qf_X18_say 20000 ((((xs (q + 1))).toInt64 <<< (((32 : Int32)).toInt64 &&& 63)) ||| (((xs (q + 2))).toInt64 &&& (4294967295 : Int64))).toInt K) T) : ∃ S3 P3 M1 M2, Sh L xs P3 S3 ∧ qM P3 S3 = M2 ∧ Fg 165263992197562149737978827008192759957101170741070304821162198818601447809077836456297302609928821211897803006255990571008 M M1 ∧ Fg 6901749637799678429848301673852721470070322622474834105341906853560320 M1 M2 ∧ T M1 M2 ∧ zf_L_law_J1303 20000 k 0 6 2156 2332 (Int32.ofNat q) rc rs S = k 0 6 2156 2332 (Int32.ofNat q + 7) (rc - 2) (rs - 12) S3 := by
  obtain ⟨v, S1, u, S2, M1, M2, b, P1, P2, a1, a3, a4, c1, c3, c4, h0, hc, hu, f0, g0, hT⟩ := ld_callG (re_of (qz_L_say (j1 := ((((xs (q + 1))).toInt64 <<< (((32 : Int32)).toInt64 &&& 63)) ||| (((xs (q + 2))).toInt64 &&& (4294967295 : Int64)))) hS hM rfl)) (fun P1 S1 M1 s1 m1 => (re_of (qz_X18_say (j1 := ((((xs (q + 1))).toInt64 <<< (((32 : Int32)).toInt64 &&& 63)) ||| (((xs (q + 2))).toInt64 &&& (4294967295 : Int64)))) s1 m1 rfl))) (fr_L_say Fg_refl) (fun M1 => fr_X18_say Fg_refl) rfl hop
  obtain ⟨S3, s1, s2, s3⟩ := ld_tailI (v := v) (X := fun S3 => k 0 6 2156 2332 (Int32.ofNat q + 7) (rc - 2) (rs - 12) S3) c3 c4 h0 hc hu
  refine ⟨S3, P2, M1, M2, s1, s2, f0, g0, hT, ?_⟩
  unfold zf_L_law_J1303
  refine zb_to (sh_argk (k := 1) hS hL (by omega)) ?_
  refine zb_to (sh_argk (k := 2) hS hL (by omega)) ?_
  rw [if_pos hr]
  refine zb_to a1 ?_
  refine zb_to (sh_argk (k := 1) a3 hL (by omega)) ?_
  refine zb_to (sh_argk (k := 2) a3 hL (by omega)) ?_
  refine zb_to (sh_zi a3) ?_
  refine zb_to c1 ?_
  exact s3

theorem lx_trim {M : qm} {k : Nat → Nat → Nat → Nat → Int32 → Nat → Nat → zm_S → Option ((Int32 × zm_S) ⊕ (Unit × zm_S))} {q rc rs : Nat} {T : qm → qm → Prop} (hS : Sh L xs P S) (hM : qM P S = M) (hL : L < 2147483648) (hq : q + 7 ≤ L) (hr : 1 ≤ rc ∧ 6 ≤ rs) (hop : ∀ K, Fg 165263992197562149737978827008192759957101170741070304821162198818601447809077836456297302609928821211897803006255856353280 M K → oK2 cI (qf_L_trim 20000 (xs (q + 1)).toInt M) (qf_X18_trim 20000 (xs (q + 1)).toInt K) T) : ∃ S3 P3 M1 M2, Sh L xs P3 S3 ∧ qM P3 S3 = M2 ∧ Fg 165263992197562149737978827008192759957101170741070304821162198818601447809077836456297302609928821211897803006255856353280 M M1 ∧ Fg 3291009114642413545811575696017619213650304447550179382629761024 M1 M2 ∧ T M1 M2 ∧ zf_L_law_J1391 20000 k 0 6 2156 2332 (Int32.ofNat q) rc rs S = k 0 6 2156 2332 (Int32.ofNat q + 7) (rc - 1) (rs - 6) S3 := by
  obtain ⟨v, S1, u, S2, M1, M2, b, P1, P2, a1, a3, a4, c1, c3, c4, h0, hc, hu, f0, g0, hT⟩ := ld_callG (re_of (qz_L_trim (i1 := (xs (q + 1))) hS hM rfl)) (fun P1 S1 M1 s1 m1 => (re_of (qz_X18_trim (i1 := (xs (q + 1))) s1 m1 rfl))) (fr_L_trim Fg_refl) (fun M1 => fr_X18_trim Fg_refl) rfl hop
  obtain ⟨S3, s1, s2, s3⟩ := ld_tailI (v := v) (X := fun S3 => k 0 6 2156 2332 (Int32.ofNat q + 7) (rc - 1) (rs - 6) S3) c3 c4 h0 hc hu
  refine ⟨S3, P2, M1, M2, s1, s2, f0, g0, hT, ?_⟩
  unfold zf_L_law_J1391
  refine zb_to (sh_argk (k := 1) hS hL (by omega)) ?_
  rw [if_pos hr]
  refine zb_to a1 ?_
  refine zb_to (sh_argk (k := 1) a3 hL (by omega)) ?_
  refine zb_to (sh_zi a3) ?_
  refine zb_to c1 ?_
  exact s3

theorem lx_fact {M : qm} {k : Nat → Nat → Nat → Nat → Int32 → Nat → Nat → zm_S → Option ((Int32 × zm_S) ⊕ (Unit × zm_S))} {q rc rs : Nat} {T : qm → qm → Prop} (hS : Sh L xs P S) (hM : qM P S = M) (hL : L < 2147483648) (hq : q + 7 ≤ L) (hr : 2 ≤ rc ∧ 12 ≤ rs) (hop : ∀ K, Fg 165263992197562149737978827008192759957101170741070304821162198818601447809077836456297302609928821211897803850749489184768 M K → oK2 cI (qf_L_fact 20000 ((((xs (q + 1))).toInt64 <<< (((32 : Int32)).toInt64 &&& 63)) ||| (((xs (q + 2))).toInt64 &&& (4294967295 : Int64))).toInt (xs (q + 3)).toInt M) (qf_X18_fact 20000 ((((xs (q + 1))).toInt64 <<< (((32 : Int32)).toInt64 &&& 63)) ||| (((xs (q + 2))).toInt64 &&& (4294967295 : Int64))).toInt (xs (q + 3)).toInt K) T) : ∃ S3 P3 M1 M2, Sh L xs P3 S3 ∧ qM P3 S3 = M2 ∧ Fg 165263992197562149737978827008192759957101170741070304821162198818601447809077836456297302609928821211897803850749489184768 M M1 ∧ Fg 41410484662761612009434165295176213847026877448798498148314254669774848 M1 M2 ∧ T M1 M2 ∧ zf_L_law_J1460 20000 k 0 6 2156 2332 (Int32.ofNat q) rc rs S = k 0 6 2156 2332 (Int32.ofNat q + 7) (rc - 2) (rs - 12) S3 := by
  obtain ⟨v, S1, u, S2, M1, M2, b, P1, P2, a1, a3, a4, c1, c3, c4, h0, hc, hu, f0, g0, hT⟩ := ld_callG (re_of (qz_L_fact (j1 := ((((xs (q + 1))).toInt64 <<< (((32 : Int32)).toInt64 &&& 63)) ||| (((xs (q + 2))).toInt64 &&& (4294967295 : Int64)))) (i3 := (xs (q + 3))) hS hM rfl rfl)) (fun P1 S1 M1 s1 m1 => (re_of (qz_X18_fact (j1 := ((((xs (q + 1))).toInt64 <<< (((32 : Int32)).toInt64 &&& 63)) ||| (((xs (q + 2))).toInt64 &&& (4294967295 : Int64)))) (i3 := (xs (q + 3))) s1 m1 rfl rfl))) (fr_L_fact Fg_refl) (fun M1 => fr_X18_fact Fg_refl) rfl hop
  obtain ⟨S3, s1, s2, s3⟩ := ld_tailL (v := v) (X := fun S3 => k 0 6 2156 2332 (Int32.ofNat q + 7) (rc - 2) (rs - 12) S3) c3 c4 h0 hc hu
  refine ⟨S3, P2, M1, M2, s1, s2, f0, g0, hT, ?_⟩
  unfold zf_L_law_J1460
  refine zb_to (sh_argk (k := 1) hS hL (by omega)) ?_
  refine zb_to (sh_argk (k := 2) hS hL (by omega)) ?_
  refine zb_to (sh_argk (k := 3) hS hL (by omega)) ?_
  rw [if_pos hr]
  refine zb_to a1 ?_
  refine zb_to (sh_argk (k := 1) a3 hL (by omega)) ?_
  refine zb_to (sh_argk (k := 2) a3 hL (by omega)) ?_
  refine zb_to (sh_argk (k := 3) a3 hL (by omega)) ?_
  refine zb_to (sh_zi a3) ?_
  refine zb_to c1 ?_
  exact s3

theorem lx_measure {M : qm} {k : Nat → Nat → Nat → Nat → Int32 → Nat → Nat → zm_S → Option ((Int32 × zm_S) ⊕ (Unit × zm_S))} {q rc rs : Nat} {T : qm → qm → Prop} (hS : Sh L xs P S) (hM : qM P S = M) (hL : L < 2147483648) (hq : q + 7 ≤ L) (hr : 2 ≤ rc ∧ 12 ≤ rs) (hop : ∀ K, Fg 165263992197562149737978827008192759957101170741070304821162198818601447809077836456297302609928821211897803850749489184768 M K → oK2 cI (qf_L_measure 20000 (xs (q + 1)).toInt (xs (q + 2)).toInt ((((xs (q + 3))).toInt64 <<< (((32 : Int32)).toInt64 &&& 63)) ||| (((xs (q + 4))).toInt64 &&& (4294967295 : Int64))).toInt M) (qf_X18_measure 20000 (xs (q + 1)).toInt (xs (q + 2)).toInt ((((xs (q + 3))).toInt64 <<< (((32 : Int32)).toInt64 &&& 63)) ||| (((xs (q + 4))).toInt64 &&& (4294967295 : Int64))).toInt K) T) : ∃ S3 P3 M1 M2, Sh L xs P3 S3 ∧ qM P3 S3 = M2 ∧ Fg 165263992197562149737978827008192759957101170741070304821162198818601447809077836456297302609928821211897803850749489184768 M M1 ∧ Fg 41410484662761612009434165295176213847026877448798498148314254669774848 M1 M2 ∧ T M1 M2 ∧ zf_L_law_J1559 20000 k 0 6 2156 2332 (Int32.ofNat q) rc rs S = k 0 6 2156 2332 (Int32.ofNat q + 7) (rc - 2) (rs - 12) S3 := by
  obtain ⟨v, S1, u, S2, M1, M2, b, P1, P2, a1, a3, a4, c1, c3, c4, h0, hc, hu, f0, g0, hT⟩ := ld_callG (re_of (qz_L_measure (i1 := (xs (q + 1))) (i2 := (xs (q + 2))) (j3 := ((((xs (q + 3))).toInt64 <<< (((32 : Int32)).toInt64 &&& 63)) ||| (((xs (q + 4))).toInt64 &&& (4294967295 : Int64)))) hS hM rfl rfl rfl)) (fun P1 S1 M1 s1 m1 => (re_of (qz_X18_measure (i1 := (xs (q + 1))) (i2 := (xs (q + 2))) (j3 := ((((xs (q + 3))).toInt64 <<< (((32 : Int32)).toInt64 &&& 63)) ||| (((xs (q + 4))).toInt64 &&& (4294967295 : Int64)))) s1 m1 rfl rfl rfl))) (fr_L_measure Fg_refl) (fun M1 => fr_X18_measure Fg_refl) rfl hop
  obtain ⟨S3, s1, s2, s3⟩ := ld_tailI (v := v) (X := fun S3 => k 0 6 2156 2332 (Int32.ofNat q + 7) (rc - 2) (rs - 12) S3) c3 c4 h0 hc hu
  refine ⟨S3, P2, M1, M2, s1, s2, f0, g0, hT, ?_⟩
  unfold zf_L_law_J1559
  refine zb_to (sh_argk (k := 1) hS hL (by omega)) ?_
  refine zb_to (sh_argk (k := 2) hS hL (by omega)) ?_
  refine zb_to (sh_argk (k := 3) hS hL (by omega)) ?_
  refine zb_to (sh_argk (k := 4) hS hL (by omega)) ?_
  rw [if_pos hr]
  refine zb_to a1 ?_
  refine zb_to (sh_argk (k := 1) a3 hL (by omega)) ?_
  refine zb_to (sh_argk (k := 2) a3 hL (by omega)) ?_
  refine zb_to (sh_argk (k := 3) a3 hL (by omega)) ?_
  refine zb_to (sh_argk (k := 4) a3 hL (by omega)) ?_
  refine zb_to (sh_zi a3) ?_
  refine zb_to c1 ?_
  exact s3

theorem lx_check {M : qm} {k : Nat → Nat → Nat → Nat → Int32 → Nat → Nat → zm_S → Option ((Int32 × zm_S) ⊕ (Unit × zm_S))} {q rc rs : Nat} {T : qm → qm → Prop} (hS : Sh L xs P S) (hM : qM P S = M) (hL : L < 2147483648) (hq : q + 7 ≤ L) (hr : 1 ≤ rc ∧ 6 ≤ rs) (hop : ∀ K, Fg 165263992197562149737978827008192759957101170741070304821162198818601447809077836456297302609928821211897803221657039405056 M K → oK2 cI (qf_L_check 20000 (xs (q + 1)).toInt M) (qf_X18_check 20000 (xs (q + 1)).toInt K) T) : ∃ S3 P3 M1 M2, Sh L xs P3 S3 ∧ qM P3 S3 = M2 ∧ Fg 165263992197562149737978827008192759957101170741070304821162198818601447809077836456297302609928821211897803221657039405056 M M1 ∧ Fg 50602506621425012944292866686856347539182119219052123678781609049626215710720 M1 M2 ∧ T M1 M2 ∧ zf_L_law_J1671 20000 k 0 6 2156 2332 (Int32.ofNat q) rc rs S = k 0 6 2156 2332 (Int32.ofNat q + 7) (rc - 1) (rs - 6) S3 := by
  obtain ⟨v, S1, u, S2, M1, M2, b, P1, P2, a1, a3, a4, c1, c3, c4, h0, hc, hu, f0, g0, hT⟩ := ld_callG (re_of (qz_L_check (i1 := (xs (q + 1))) hS hM rfl)) (fun P1 S1 M1 s1 m1 => (re_of (qz_X18_check (i1 := (xs (q + 1))) s1 m1 rfl))) (fr_L_check Fg_refl) (fun M1 => fr_X18_check Fg_refl) rfl hop
  obtain ⟨S3, s1, s2, s3⟩ := ld_tailI (v := v) (X := fun S3 => k 0 6 2156 2332 (Int32.ofNat q + 7) (rc - 1) (rs - 6) S3) c3 c4 h0 hc hu
  refine ⟨S3, P2, M1, M2, s1, s2, f0, g0, hT, ?_⟩
  unfold zf_L_law_J1671
  refine zb_to (sh_argk (k := 1) hS hL (by omega)) ?_
  rw [if_pos hr]
  refine zb_to a1 ?_
  refine zb_to (sh_argk (k := 1) a3 hL (by omega)) ?_
  refine zb_to (sh_zi a3) ?_
  refine zb_to c1 ?_
  exact s3

theorem lx_rule {M : qm} {k : Nat → Nat → Nat → Nat → Int32 → Nat → Nat → zm_S → Option ((Int32 × zm_S) ⊕ (Unit × zm_S))} {q rc rs : Nat} {T : qm → qm → Prop} (hS : Sh L xs P S) (hM : qM P S = M) (hL : L < 2147483648) (hq : q + 7 ≤ L) (hr : 2 ≤ rc ∧ 12 ≤ rs) (hop : ∀ K, Fg 165263992197562149737978827008192759957101170741070304821162198818601447809077836456297302609928821211897803006255839576064 M K → oK2 cI (qf_L_rule 20000 (xs (q + 1)).toInt (xs (q + 2)).toInt M) (qf_X18_rule 20000 (xs (q + 1)).toInt (xs (q + 2)).toInt K) T) : ∃ S3 P3 M1 M2, Sh L xs P3 S3 ∧ qM P3 S3 = M2 ∧ Fg 165263992197562149737978827008192759957101170741070304821162198818601447809077836456297302609928821211897803006255839576064 M M1 ∧ Fg 1461501637330902918203684832716283019655932542976 M1 M2 ∧ T M1 M2 ∧ zf_L_law_J1727 20000 k 0 6 2156 2332 (Int32.ofNat q) rc rs S = k 0 6 2156 2332 (Int32.ofNat q + 7) (rc - 2) (rs - 12) S3 := by
  obtain ⟨v, S1, u, S2, M1, M2, b, P1, P2, a1, a3, a4, c1, c3, c4, h0, hc, hu, f0, g0, hT⟩ := ld_callG (re_of (qz_L_rule (i1 := (xs (q + 1))) (i2 := (xs (q + 2))) hS hM rfl rfl)) (fun P1 S1 M1 s1 m1 => (re_of (qz_X18_rule (i1 := (xs (q + 1))) (i2 := (xs (q + 2))) s1 m1 rfl rfl))) (fr_L_rule Fg_refl) (fun M1 => fr_X18_rule Fg_refl) rfl hop
  obtain ⟨S3, s1, s2, s3⟩ := ld_tailL (v := v) (X := fun S3 => k 0 6 2156 2332 (Int32.ofNat q + 7) (rc - 2) (rs - 12) S3) c3 c4 h0 hc hu
  refine ⟨S3, P2, M1, M2, s1, s2, f0, g0, hT, ?_⟩
  unfold zf_L_law_J1727
  refine zb_to (sh_argk (k := 1) hS hL (by omega)) ?_
  refine zb_to (sh_argk (k := 2) hS hL (by omega)) ?_
  rw [if_pos hr]
  refine zb_to a1 ?_
  refine zb_to (sh_argk (k := 1) a3 hL (by omega)) ?_
  refine zb_to (sh_argk (k := 2) a3 hL (by omega)) ?_
  refine zb_to (sh_zi a3) ?_
  refine zb_to c1 ?_
  exact s3

theorem lx_portal {M : qm} {k : Nat → Nat → Nat → Nat → Int32 → Nat → Nat → zm_S → Option ((Int32 × zm_S) ⊕ (Unit × zm_S))} {q rc rs : Nat} {T : qm → qm → Prop} (hS : Sh L xs P S) (hM : qM P S = M) (hL : L < 2147483648) (hq : q + 7 ≤ L) (hr : 2 ≤ rc ∧ 12 ≤ rs) (hop : ∀ K, Fg 165263992197562149737978827008192759957101170741070304821162198818601447809077836456297302609928821211897803006255839576064 M K → oK2 cI (qf_L_portal 20000 (xs (q + 1)).toInt (xs (q + 2)).toInt M) (qf_X18_portal_ 20000 (xs (q + 1)).toInt (xs (q + 2)).toInt K) T) : ∃ S3 P3 M1 M2, Sh L xs P3 S3 ∧ qM P3 S3 = M2 ∧ Fg 165263992197562149737978827008192759957101170741070304821162198818601447809077836456297302609928821211897803006255839576064 M M1 ∧ Fg 1461501637330902918203684832716283019655932542976 M1 M2 ∧ T M1 M2 ∧ zf_L_law_J1850 20000 k 0 6 2156 2332 (Int32.ofNat q) rc rs S = k 0 6 2156 2332 (Int32.ofNat q + 7) (rc - 2) (rs - 12) S3 := by
  obtain ⟨v, S1, u, S2, M1, M2, b, P1, P2, a1, a3, a4, c1, c3, c4, h0, hc, hu, f0, g0, hT⟩ := ld_callG (re_of (qz_L_portal (i1 := (xs (q + 1))) (i2 := (xs (q + 2))) hS hM rfl rfl)) (fun P1 S1 M1 s1 m1 => (re_of (qz_X18_portal_ (i1 := (xs (q + 1))) (i2 := (xs (q + 2))) s1 m1 rfl rfl))) (fr_L_portal Fg_refl) (fun M1 => fr_X18_portal_ Fg_refl) rfl hop
  obtain ⟨S3, s1, s2, s3⟩ := ld_tailI (v := v) (X := fun S3 => k 0 6 2156 2332 (Int32.ofNat q + 7) (rc - 2) (rs - 12) S3) c3 c4 h0 hc hu
  refine ⟨S3, P2, M1, M2, s1, s2, f0, g0, hT, ?_⟩
  unfold zf_L_law_J1850
  refine zb_to (sh_argk (k := 1) hS hL (by omega)) ?_
  refine zb_to (sh_argk (k := 2) hS hL (by omega)) ?_
  rw [if_pos hr]
  refine zb_to a1 ?_
  refine zb_to (sh_argk (k := 1) a3 hL (by omega)) ?_
  refine zb_to (sh_argk (k := 2) a3 hL (by omega)) ?_
  refine zb_to (sh_zi a3) ?_
  refine zb_to c1 ?_
  exact s3

theorem lx_person {M : qm} {k : Nat → Nat → Nat → Nat → Int32 → Nat → Nat → zm_S → Option ((Int32 × zm_S) ⊕ (Unit × zm_S))} {q rc rs : Nat} {T : qm → qm → Prop} (hS : Sh L xs P S) (hM : qM P S = M) (hL : L < 2147483648) (hq : q + 7 ≤ L) (hr : 2 ≤ rc ∧ 12 ≤ rs) (hop : ∀ K, Fg 165263992197562149737978827008192759957101170741070304821162198818601447809077836456297302609928821211897877315649691189248 M K → oK2 cI (qf_L_person 20000 (xs (q + 1)).toInt (xs (q + 2)).toInt M) (qf_X18_person 20000 (xs (q + 1)).toInt (xs (q + 2)).toInt K) T) : ∃ S3 P3 M1 M2, Sh L xs P3 S3 ∧ qM P3 S3 = M2 ∧ Fg 165263992197562149737978827008192759957101170741070304821162198818601447809077836456297302609928821211897877315649691189248 M M1 ∧ Fg 38786349849575815474587180098578869839375368344364424063761601319899379975244075385294157858778897230196660043251712 M1 M2 ∧ T M1 M2 ∧ zf_L_law_J1918 20000 k 0 6 2156 2332 (Int32.ofNat q) rc rs S = k 0 6 2156 2332 (Int32.ofNat q + 7) (rc - 2) (rs - 12) S3 := by
  obtain ⟨v, S1, u, S2, M1, M2, b, P1, P2, a1, a3, a4, c1, c3, c4, h0, hc, hu, f0, g0, hT⟩ := ld_callG (re_of (qz_L_person (i1 := (xs (q + 1))) (i2 := (xs (q + 2))) hS hM rfl rfl)) (fun P1 S1 M1 s1 m1 => (re_of (qz_X18_person (i1 := (xs (q + 1))) (i2 := (xs (q + 2))) s1 m1 rfl rfl))) (fr_L_person Fg_refl) (fun M1 => fr_X18_person Fg_refl) rfl hop
  obtain ⟨S3, s1, s2, s3⟩ := ld_tailI (v := v) (X := fun S3 => k 0 6 2156 2332 (Int32.ofNat q + 7) (rc - 2) (rs - 12) S3) c3 c4 h0 hc hu
  refine ⟨S3, P2, M1, M2, s1, s2, f0, g0, hT, ?_⟩
  unfold zf_L_law_J1918
  refine zb_to (sh_argk (k := 1) hS hL (by omega)) ?_
  refine zb_to (sh_argk (k := 2) hS hL (by omega)) ?_
  rw [if_pos hr]
  refine zb_to a1 ?_
  refine zb_to (sh_argk (k := 1) a3 hL (by omega)) ?_
  refine zb_to (sh_argk (k := 2) a3 hL (by omega)) ?_
  refine zb_to (sh_zi a3) ?_
  refine zb_to c1 ?_
  exact s3

theorem lx_card {M : qm} {k : Nat → Nat → Nat → Nat → Int32 → Nat → Nat → zm_S → Option ((Int32 × zm_S) ⊕ (Unit × zm_S))} {q rc rs : Nat} {T : qm → qm → Prop} (hS : Sh L xs P S) (hM : qM P S = M) (hL : L < 2147483648) (hq : q + 7 ≤ L) (hr : 2 ≤ rc ∧ 12 ≤ rs) (hop : ∀ K, Fg 165263992197562149737978827008192759957101170741070304821162198818601447809077836456297302609928821214270515462736730652672 M K → oK2 cI (qf_L_card 20000 (xs (q + 1)).toInt (xs (q + 2)).toInt M) (qf_X18_card 20000 (xs (q + 1)).toInt (xs (q + 2)).toInt K) T) : ∃ S3 P3 M1 M2, Sh L xs P3 S3 ∧ qM P3 S3 = M2 ∧ Fg 165263992197562149737978827008192759957101170741070304821162198818601447809077836456297302609928821214270515462736730652672 M M1 ∧ Fg 141689614282234547247355428200116435243066742416593746217942063081668552312853498467416270014543927781756233705903357952 M1 M2 ∧ T M1 M2 ∧ zf_L_law_J1986 20000 k 0 6 2156 2332 (Int32.ofNat q) rc rs S = k 0 6 2156 2332 (Int32.ofNat q + 7) (rc - 2) (rs - 12) S3 := by
  obtain ⟨v, S1, u, S2, M1, M2, b, P1, P2, a1, a3, a4, c1, c3, c4, h0, hc, hu, f0, g0, hT⟩ := ld_callG (re_of (qz_L_card (i1 := (xs (q + 1))) (i2 := (xs (q + 2))) hS hM rfl rfl)) (fun P1 S1 M1 s1 m1 => (re_of (qz_X18_card (i1 := (xs (q + 1))) (i2 := (xs (q + 2))) s1 m1 rfl rfl))) (fr_L_card Fg_refl) (fun M1 => fr_X18_card Fg_refl) rfl hop
  obtain ⟨S3, s1, s2, s3⟩ := ld_tailI (v := v) (X := fun S3 => k 0 6 2156 2332 (Int32.ofNat q + 7) (rc - 2) (rs - 12) S3) c3 c4 h0 hc hu
  refine ⟨S3, P2, M1, M2, s1, s2, f0, g0, hT, ?_⟩
  unfold zf_L_law_J1986
  refine zb_to (sh_argk (k := 1) hS hL (by omega)) ?_
  refine zb_to (sh_argk (k := 2) hS hL (by omega)) ?_
  rw [if_pos hr]
  refine zb_to a1 ?_
  refine zb_to (sh_argk (k := 1) a3 hL (by omega)) ?_
  refine zb_to (sh_argk (k := 2) a3 hL (by omega)) ?_
  refine zb_to (sh_zi a3) ?_
  refine zb_to c1 ?_
  exact s3

theorem lx_right {M : qm} {k : Nat → Nat → Nat → Nat → Int32 → Nat → Nat → zm_S → Option ((Int32 × zm_S) ⊕ (Unit × zm_S))} {q rc rs : Nat} {T : qm → qm → Prop} (hS : Sh L xs P S) (hM : qM P S = M) (hL : L < 2147483648) (hq : q + 7 ≤ L) (hr : 3 ≤ rc ∧ 18 ≤ rs) (hop : ∀ K, Fg 165263992197562149737978827008192759957101170741070304821162198818601447809077836456297302609928821216634004547180766953472 M K → oK2 cI (qf_L_right 20000 (xs (q + 1)).toInt (xs (q + 2)).toInt (xs (q + 3)).toInt (xs (q + 4)).toInt (xs (q + 5)).toInt M) (qf_X18_right 20000 (xs (q + 1)).toInt (xs (q + 2)).toInt (xs (q + 3)).toInt (xs (q + 4)).toInt (xs (q + 5)).toInt K) T) : ∃ S3 P3 M1 M2, Sh L xs P3 S3 ∧ qM P3 S3 = M2 ∧ Fg 165263992197562149737978827008192759957101170741070304821162198818601447809077836456297302609928821216634004547180766953472 M M1 ∧ Fg 160760185281289475186098483608585944324725336223499022405229037089323668722467726758914304953566814636133157612577357824 M1 M2 ∧ T M1 M2 ∧ zf_L_law_J2054 20000 k 0 6 2156 2332 (Int32.ofNat q) rc rs S = k 0 6 2156 2332 (Int32.ofNat q + 7) (rc - 3) (rs - 18) S3 := by
  obtain ⟨v, S1, u, S2, M1, M2, b, P1, P2, a1, a3, a4, c1, c3, c4, h0, hc, hu, f0, g0, hT⟩ := ld_callG (re_of (qz_L_right (i1 := (xs (q + 1))) (i2 := (xs (q + 2))) (i3 := (xs (q + 3))) (i4 := (xs (q + 4))) (i5 := (xs (q + 5))) hS hM rfl rfl rfl rfl rfl)) (fun P1 S1 M1 s1 m1 => (re_of (qz_X18_right (i1 := (xs (q + 1))) (i2 := (xs (q + 2))) (i3 := (xs (q + 3))) (i4 := (xs (q + 4))) (i5 := (xs (q + 5))) s1 m1 rfl rfl rfl rfl rfl))) (fr_L_right Fg_refl) (fun M1 => fr_X18_right Fg_refl) rfl hop
  obtain ⟨S3, s1, s2, s3⟩ := ld_tailI (v := v) (X := fun S3 => k 0 6 2156 2332 (Int32.ofNat q + 7) (rc - 3) (rs - 18) S3) c3 c4 h0 hc hu
  refine ⟨S3, P2, M1, M2, s1, s2, f0, g0, hT, ?_⟩
  unfold zf_L_law_J2054
  refine zb_to (sh_argk (k := 1) hS hL (by omega)) ?_
  refine zb_to (sh_argk (k := 2) hS hL (by omega)) ?_
  refine zb_to (sh_argk (k := 3) hS hL (by omega)) ?_
  refine zb_to (sh_argk (k := 4) hS hL (by omega)) ?_
  refine zb_to (sh_argk (k := 5) hS hL (by omega)) ?_
  rw [if_pos hr]
  refine zb_to a1 ?_
  refine zb_to (sh_argk (k := 1) a3 hL (by omega)) ?_
  refine zb_to (sh_argk (k := 2) a3 hL (by omega)) ?_
  refine zb_to (sh_argk (k := 3) a3 hL (by omega)) ?_
  refine zb_to (sh_argk (k := 4) a3 hL (by omega)) ?_
  refine zb_to (sh_argk (k := 5) a3 hL (by omega)) ?_
  refine zb_to (sh_zi a3) ?_
  refine zb_to c1 ?_
  exact s3

theorem lx_end {M : qm} {k : Nat → Nat → Nat → Nat → Int32 → Nat → Nat → zm_S → Option ((Int32 × zm_S) ⊕ (Unit × zm_S))} {q rc rs : Nat} {T : qm → qm → Prop} (hS : Sh L xs P S) (hM : qM P S = M) (hL : L < 2147483648) (hq : q + 7 ≤ L) (hr : 2 ≤ rc ∧ 12 ≤ rs) (hop : ∀ K, Fg 165263992197562149737978827008192759957101170741070304821162198818601447809077836456297302609928821221370206088105694330880 M K → oK2 cI (qf_L_end 20000 (xs (q + 1)).toInt (xs (q + 2)).toInt M) (qf_X18_end 20000 (xs (q + 1)).toInt (xs (q + 2)).toInt K) T) : ∃ S3 P3 M1 M2, Sh L xs P3 S3 ∧ qM P3 S3 = M2 ∧ Fg 165263992197562149737978827008192759957101170741070304821162198818601447809077836456297302609928821221370206088105694330880 M M1 ∧ Fg 141216790207877813496808079718914711877405785545348160857926683560817416579385953584505768747826721109840038210654175232 M1 M2 ∧ T M1 M2 ∧ zf_L_law_J2158 20000 k 0 6 2156 2332 (Int32.ofNat q) rc rs S = k 0 6 2156 2332 (Int32.ofNat q + 7) (rc - 2) (rs - 12) S3 := by
  obtain ⟨v, S1, u, S2, M1, M2, b, P1, P2, a1, a3, a4, c1, c3, c4, h0, hc, hu, f0, g0, hT⟩ := ld_callG (re_of (qz_L_end (i1 := (xs (q + 1))) (i2 := (xs (q + 2))) hS hM rfl rfl)) (fun P1 S1 M1 s1 m1 => (re_of (qz_X18_end (i1 := (xs (q + 1))) (i2 := (xs (q + 2))) s1 m1 rfl rfl))) (fr_L_end Fg_refl) (fun M1 => fr_X18_end Fg_refl) rfl hop
  obtain ⟨S3, s1, s2, s3⟩ := ld_tailI (v := v) (X := fun S3 => k 0 6 2156 2332 (Int32.ofNat q + 7) (rc - 2) (rs - 12) S3) c3 c4 h0 hc hu
  refine ⟨S3, P2, M1, M2, s1, s2, f0, g0, hT, ?_⟩
  unfold zf_L_law_J2158
  refine zb_to (sh_argk (k := 1) hS hL (by omega)) ?_
  refine zb_to (sh_argk (k := 2) hS hL (by omega)) ?_
  rw [if_pos hr]
  refine zb_to a1 ?_
  refine zb_to (sh_argk (k := 1) a3 hL (by omega)) ?_
  refine zb_to (sh_argk (k := 2) a3 hL (by omega)) ?_
  refine zb_to (sh_zi a3) ?_
  refine zb_to c1 ?_
  exact s3

theorem lx_lost {M : qm} {k : Nat → Nat → Nat → Nat → Int32 → Nat → Nat → zm_S → Option ((Int32 × zm_S) ⊕ (Unit × zm_S))} {q rc rs : Nat} {T : qm → qm → Prop} (hS : Sh L xs P S) (hM : qM P S = M) (hL : L < 2147483648) (hq : q + 7 ≤ L) (hr : 2 ≤ rc ∧ 12 ≤ rs) (hop : ∀ K, Fg 165263992197562149737978827008192759957101170741070304821162198818601447809077836456297302609928821221370206088105694330880 M K → oK2 cI (qf_L_lost 20000 (xs (q + 1)).toInt (xs (q + 2)).toInt M) (qf_X18_lost 20000 (xs (q + 1)).toInt (xs (q + 2)).toInt K) T) : ∃ S3 P3 M1 M2, Sh L xs P3 S3 ∧ qM P3 S3 = M2 ∧ Fg 165263992197562149737978827008192759957101170741070304821162198818601447809077836456297302609928821221370206088105694330880 M M1 ∧ Fg 141216790207877813496808079718914711877405785545348160857926683560817416579385953584505768747826721109840038210654175232 M1 M2 ∧ T M1 M2 ∧ zf_L_law_J2226 20000 k 0 6 2156 2332 (Int32.ofNat q) rc rs S = k 0 6 2156 2332 (Int32.ofNat q + 7) (rc - 2) (rs - 12) S3 := by
  obtain ⟨v, S1, u, S2, M1, M2, b, P1, P2, a1, a3, a4, c1, c3, c4, h0, hc, hu, f0, g0, hT⟩ := ld_callG (re_of (qz_L_lost (i1 := (xs (q + 1))) (i2 := (xs (q + 2))) hS hM rfl rfl)) (fun P1 S1 M1 s1 m1 => (re_of (qz_X18_lost (i1 := (xs (q + 1))) (i2 := (xs (q + 2))) s1 m1 rfl rfl))) (fr_L_lost Fg_refl) (fun M1 => fr_X18_lost Fg_refl) rfl hop
  obtain ⟨S3, s1, s2, s3⟩ := ld_tailI (v := v) (X := fun S3 => k 0 6 2156 2332 (Int32.ofNat q + 7) (rc - 2) (rs - 12) S3) c3 c4 h0 hc hu
  refine ⟨S3, P2, M1, M2, s1, s2, f0, g0, hT, ?_⟩
  unfold zf_L_law_J2226
  refine zb_to (sh_argk (k := 1) hS hL (by omega)) ?_
  refine zb_to (sh_argk (k := 2) hS hL (by omega)) ?_
  rw [if_pos hr]
  refine zb_to a1 ?_
  refine zb_to (sh_argk (k := 1) a3 hL (by omega)) ?_
  refine zb_to (sh_argk (k := 2) a3 hL (by omega)) ?_
  refine zb_to (sh_zi a3) ?_
  refine zb_to c1 ?_
  exact s3

theorem lx_two {M : qm} {k : Nat → Nat → Nat → Nat → Int32 → Nat → Nat → zm_S → Option ((Int32 × zm_S) ⊕ (Unit × zm_S))} {q rc rs : Nat} {T : qm → qm → Prop} (hS : Sh L xs P S) (hM : qM P S = M) (hL : L < 2147483648) (hq : q + 7 ≤ L) (hr : 2 ≤ rc ∧ 12 ≤ rs) (hop : ∀ K, Fg 165263992197562149737978827008192759957101170741070304821162198818601447809077836456297302609928821212192950911435192401920 M K → oK2 cB (qf_L_two 20000 (xs (q + 1)).toInt (bzi (xs (q + 2))) M) (qf_X18_two 20000 (xs (q + 1)).toInt (bzi (xs (q + 2))) K) T) : ∃ S3 P3 M1 M2, Sh L xs P3 S3 ∧ qM P3 S3 = M2 ∧ Fg 165263992197562149737978827008192759957101170741070304821162198818601447809077836456297302609928821212192950911435192401920 M M1 ∧ Fg 601226901190101306339707032778070279008174732520529886901066490173747147760242679730391776302783807632107896832 M1 M2 ∧ T M1 M2 ∧ zf_L_law_J2294 20000 k 0 6 2156 2332 (Int32.ofNat q) rc rs S = k 0 6 2156 2332 (Int32.ofNat q + 7) (rc - 2) (rs - 12) S3 := by
  obtain ⟨v, S1, u, S2, M1, M2, b, P1, P2, a1, a3, a4, c1, c3, c4, h0, hc, hu, f0, g0, hT⟩ := ld_callG (re_of (qz_L_two (i1 := (xs (q + 1))) (i2 := (bz (xs (q + 2)))) hS hM rfl bz_i)) (fun P1 S1 M1 s1 m1 => (re_of (qz_X18_two (i1 := (xs (q + 1))) (i2 := (bz (xs (q + 2)))) s1 m1 rfl bz_i))) (fr_L_two Fg_refl) (fun M1 => fr_X18_two Fg_refl) rfl hop
  obtain ⟨S3, s1, s2, s3⟩ := ld_tailB (v := v) (X := fun S3 => k 0 6 2156 2332 (Int32.ofNat q + 7) (rc - 2) (rs - 12) S3) c3 c4 h0 hc hu
  refine ⟨S3, P2, M1, M2, s1, s2, f0, g0, hT, ?_⟩
  unfold zf_L_law_J2294
  refine zb_to (sh_argk (k := 1) hS hL (by omega)) ?_
  refine zb_to (sh_argk (k := 2) hS hL (by omega)) ?_
  refine (bz_if (f := (fun b => zf_L_law_J2315 20000 k 0 6 2156 2332 (Int32.ofNat q) 6 (xs (q + 1)) b rc rs S))).trans ?_
  show zf_L_law_J2315 20000 k 0 6 2156 2332 (Int32.ofNat q) 6 (xs (q + 1)) (bz (xs (q + 2))) rc rs S = _
  unfold zf_L_law_J2315
  rw [if_pos hr]
  refine zb_to a1 ?_
  refine zb_to (sh_argk (k := 1) a3 hL (by omega)) ?_
  refine zb_to (sh_argk (k := 2) a3 hL (by omega)) ?_
  refine (bz_if (f := (fun b => zf_L_law_J2342 20000 k 0 6 2156 2332 (Int32.ofNat q) v 2156 (xs (q + 1)) b (rc - 2) (rs - 12) S1))).trans ?_
  show zf_L_law_J2342 20000 k 0 6 2156 2332 (Int32.ofNat q) v 2156 (xs (q + 1)) (bz (xs (q + 2))) (rc - 2) (rs - 12) S1 = _
  unfold zf_L_law_J2342
  refine zb_to (sh_zi a3) ?_
  refine zb_to c1 ?_
  unfold zf_L_law_J2376
  exact s3

theorem lx_airlock {M : qm} {k : Nat → Nat → Nat → Nat → Int32 → Nat → Nat → zm_S → Option ((Int32 × zm_S) ⊕ (Unit × zm_S))} {q rc rs : Nat} {T : qm → qm → Prop} (hS : Sh L xs P S) (hM : qM P S = M) (hL : L < 2147483648) (hq : q + 7 ≤ L) (hr : 2 ≤ rc ∧ 12 ≤ rs) (hop : ∀ K, Fg 165263992197562149737978827008192759957101170741070304821162198818601447809077836456297302609928821213078394626973250879488 M K → oK2 cB (qf_L_airlock 20000 (xs (q + 1)).toInt (xs (q + 2)).toInt (bzi (xs (q + 3))) M) (qf_X18_airlock 20000 (xs (q + 1)).toInt (xs (q + 2)).toInt (bzi (xs (q + 3))) K) T) : ∃ S3 P3 M1 M2, Sh L xs P3 S3 ∧ qM P3 S3 = M2 ∧ Fg 165263992197562149737978827008192759957101170741070304821162198818601447809077836456297302609928821213078394626973250879488 M M1 ∧ Fg 461742260113997803268895001173557974278278194575766953140019063379234106041652733153232532154069944814348445679616 M1 M2 ∧ T M1 M2 ∧ zf_L_law_J2385 20000 k 0 6 2156 2332 (Int32.ofNat q) rc rs S = k 0 6 2156 2332 (Int32.ofNat q + 7) (rc - 2) (rs - 12) S3 := by
  obtain ⟨v, S1, u, S2, M1, M2, b, P1, P2, a1, a3, a4, c1, c3, c4, h0, hc, hu, f0, g0, hT⟩ := ld_callG (re_of (qz_L_airlock (i1 := (xs (q + 1))) (i2 := (xs (q + 2))) (i3 := (bz (xs (q + 3)))) hS hM rfl rfl bz_i)) (fun P1 S1 M1 s1 m1 => (re_of (qz_X18_airlock (i1 := (xs (q + 1))) (i2 := (xs (q + 2))) (i3 := (bz (xs (q + 3)))) s1 m1 rfl rfl bz_i))) (fr_L_airlock Fg_refl) (fun M1 => fr_X18_airlock Fg_refl) rfl hop
  obtain ⟨S3, s1, s2, s3⟩ := ld_tailB (v := v) (X := fun S3 => k 0 6 2156 2332 (Int32.ofNat q + 7) (rc - 2) (rs - 12) S3) c3 c4 h0 hc hu
  refine ⟨S3, P2, M1, M2, s1, s2, f0, g0, hT, ?_⟩
  unfold zf_L_law_J2385
  refine zb_to (sh_argk (k := 1) hS hL (by omega)) ?_
  refine zb_to (sh_argk (k := 2) hS hL (by omega)) ?_
  refine zb_to (sh_argk (k := 3) hS hL (by omega)) ?_
  refine (bz_if (f := (fun b => zf_L_law_J2412 20000 k 0 6 2156 2332 (Int32.ofNat q) 6 (xs (q + 1)) (xs (q + 2)) b rc rs S))).trans ?_
  show zf_L_law_J2412 20000 k 0 6 2156 2332 (Int32.ofNat q) 6 (xs (q + 1)) (xs (q + 2)) (bz (xs (q + 3))) rc rs S = _
  unfold zf_L_law_J2412
  rw [if_pos hr]
  refine zb_to a1 ?_
  refine zb_to (sh_argk (k := 1) a3 hL (by omega)) ?_
  refine zb_to (sh_argk (k := 2) a3 hL (by omega)) ?_
  refine zb_to (sh_argk (k := 3) a3 hL (by omega)) ?_
  refine (bz_if (f := (fun b => zf_L_law_J2445 20000 k 0 6 2156 2332 (Int32.ofNat q) v 2156 (xs (q + 1)) (xs (q + 2)) b (rc - 2) (rs - 12) S1))).trans ?_
  show zf_L_law_J2445 20000 k 0 6 2156 2332 (Int32.ofNat q) v 2156 (xs (q + 1)) (xs (q + 2)) (bz (xs (q + 3))) (rc - 2) (rs - 12) S1 = _
  unfold zf_L_law_J2445
  refine zb_to (sh_zi a3) ?_
  refine zb_to c1 ?_
  unfold zf_L_law_J2479
  exact s3

theorem lx_stands {M : qm} {k : Nat → Nat → Nat → Nat → Int32 → Nat → Nat → zm_S → Option ((Int32 × zm_S) ⊕ (Unit × zm_S))} {q rc rs : Nat} {T : qm → qm → Prop} (hS : Sh L xs P S) (hM : qM P S = M) (hL : L < 2147483648) (hq : q + 7 ≤ L) (hr : 2 ≤ rc ∧ 12 ≤ rs) (hop : ∀ K, Fg 165263992197562149737978827008192759957101170741070304821162198818601447809077836456297302609928821212192950911435192401920 M K → oK2 cI (qf_L_stands 20000 (xs (q + 1)).toInt (bzi (xs (q + 2))) M) (qf_X18_stands 20000 (xs (q + 1)).toInt (bzi (xs (q + 2))) K) T) : ∃ S3 P3 M1 M2, Sh L xs P3 S3 ∧ qM P3 S3 = M2 ∧ Fg 165263992197562149737978827008192759957101170741070304821162198818601447809077836456297302609928821212192950911435192401920 M M1 ∧ Fg 3607361407140607838038242196668421674049048395123179321406398933734974699906941487363926494235287747512984666112 M1 M2 ∧ T M1 M2 ∧ zf_L_law_J2488 20000 k 0 6 2156 2332 (Int32.ofNat q) rc rs S = k 0 6 2156 2332 (Int32.ofNat q + 7) (rc - 2) (rs - 12) S3 := by
  obtain ⟨v, S1, u, S2, M1, M2, b, P1, P2, a1, a3, a4, c1, c3, c4, h0, hc, hu, f0, g0, hT⟩ := ld_callG (re_of (qz_L_stands (i1 := (xs (q + 1))) (i2 := (bz (xs (q + 2)))) hS hM rfl bz_i)) (fun P1 S1 M1 s1 m1 => (re_of (qz_X18_stands (i1 := (xs (q + 1))) (i2 := (bz (xs (q + 2)))) s1 m1 rfl bz_i))) (fr_L_stands Fg_refl) (fun M1 => fr_X18_stands Fg_refl) rfl hop
  obtain ⟨S3, s1, s2, s3⟩ := ld_tailI (v := v) (X := fun S3 => k 0 6 2156 2332 (Int32.ofNat q + 7) (rc - 2) (rs - 12) S3) c3 c4 h0 hc hu
  refine ⟨S3, P2, M1, M2, s1, s2, f0, g0, hT, ?_⟩
  unfold zf_L_law_J2488
  refine zb_to (sh_argk (k := 1) hS hL (by omega)) ?_
  refine zb_to (sh_argk (k := 2) hS hL (by omega)) ?_
  refine (bz_if (f := (fun b => zf_L_law_J2509 20000 k 0 6 2156 2332 (Int32.ofNat q) 6 (xs (q + 1)) b rc rs S))).trans ?_
  show zf_L_law_J2509 20000 k 0 6 2156 2332 (Int32.ofNat q) 6 (xs (q + 1)) (bz (xs (q + 2))) rc rs S = _
  unfold zf_L_law_J2509
  rw [if_pos hr]
  refine zb_to a1 ?_
  refine zb_to (sh_argk (k := 1) a3 hL (by omega)) ?_
  refine zb_to (sh_argk (k := 2) a3 hL (by omega)) ?_
  refine (bz_if (f := (fun b => zf_L_law_J2536 20000 k 0 6 2156 2332 (Int32.ofNat q) v 2156 (xs (q + 1)) b (rc - 2) (rs - 12) S1))).trans ?_
  show zf_L_law_J2536 20000 k 0 6 2156 2332 (Int32.ofNat q) v 2156 (xs (q + 1)) (bz (xs (q + 2))) (rc - 2) (rs - 12) S1 = _
  unfold zf_L_law_J2536
  refine zb_to (sh_zi a3) ?_
  refine zb_to c1 ?_
  exact s3

theorem lx_off {M : qm} {k : Nat → Nat → Nat → Nat → Int32 → Nat → Nat → zm_S → Option ((Int32 × zm_S) ⊕ (Unit × zm_S))} {q rc rs : Nat} {T : qm → qm → Prop} (hS : Sh L xs P S) (hM : qM P S = M) (hL : L < 2147483648) (hq : q + 7 ≤ L) (hr : 2 ≤ rc ∧ 12 ≤ rs) (hop : ∀ K, Fg 165263992197562149737978827008192759957101170741070304821162198818601447809077836456297302609928821231119382388655230287872 M K → oK2 cI (qf_L_off 20000 (xs (q + 1)).toInt (bzi (xs (q + 2))) M) (qf_X18_off 20000 (xs (q + 1)).toInt (bzi (xs (q + 2))) K) T) : ∃ S3 P3 M1 M2, Sh L xs P3 S3 ∧ qM P3 S3 = M2 ∧ Fg 165263992197562149737978827008192759957101170741070304821162198818601447809077836456297302609928821231119382388655230287872 M M1 ∧ Fg 2420955317526026142907935506066036518916435758838062383297713556347627221720677158895803276392045679219147748639242190848 M1 M2 ∧ T M1 M2 ∧ zf_L_law_J2572 20000 k 0 6 2156 2332 (Int32.ofNat q) rc rs S = k 0 6 2156 2332 (Int32.ofNat q + 7) (rc - 2) (rs - 12) S3 := by
  obtain ⟨v, S1, u, S2, M1, M2, b, P1, P2, a1, a3, a4, c1, c3, c4, h0, hc, hu, f0, g0, hT⟩ := ld_callG (re_of (qz_L_off (i1 := (xs (q + 1))) (i2 := (bz (xs (q + 2)))) hS hM rfl bz_i)) (fun P1 S1 M1 s1 m1 => (re_of (qz_X18_off (i1 := (xs (q + 1))) (i2 := (bz (xs (q + 2)))) s1 m1 rfl bz_i))) (fr_L_off Fg_refl) (fun M1 => fr_X18_off Fg_refl) rfl hop
  obtain ⟨S3, s1, s2, s3⟩ := ld_tailI (v := v) (X := fun S3 => k 0 6 2156 2332 (Int32.ofNat q + 7) (rc - 2) (rs - 12) S3) c3 c4 h0 hc hu
  refine ⟨S3, P2, M1, M2, s1, s2, f0, g0, hT, ?_⟩
  unfold zf_L_law_J2572
  refine zb_to (sh_argk (k := 1) hS hL (by omega)) ?_
  refine zb_to (sh_argk (k := 2) hS hL (by omega)) ?_
  refine (bz_if (f := (fun b => zf_L_law_J2593 20000 k 0 6 2156 2332 (Int32.ofNat q) 6 (xs (q + 1)) b rc rs S))).trans ?_
  show zf_L_law_J2593 20000 k 0 6 2156 2332 (Int32.ofNat q) 6 (xs (q + 1)) (bz (xs (q + 2))) rc rs S = _
  unfold zf_L_law_J2593
  rw [if_pos hr]
  refine zb_to a1 ?_
  refine zb_to (sh_argk (k := 1) a3 hL (by omega)) ?_
  refine zb_to (sh_argk (k := 2) a3 hL (by omega)) ?_
  refine (bz_if (f := (fun b => zf_L_law_J2620 20000 k 0 6 2156 2332 (Int32.ofNat q) v 2156 (xs (q + 1)) b (rc - 2) (rs - 12) S1))).trans ?_
  show zf_L_law_J2620 20000 k 0 6 2156 2332 (Int32.ofNat q) v 2156 (xs (q + 1)) (bz (xs (q + 2))) (rc - 2) (rs - 12) S1 = _
  unfold zf_L_law_J2620
  refine zb_to (sh_zi a3) ?_
  refine zb_to c1 ?_
  exact s3

theorem lx_ask {M : qm} {k : Nat → Nat → Nat → Nat → Int32 → Nat → Nat → zm_S → Option ((Int32 × zm_S) ⊕ (Unit × zm_S))} {q rc rs : Nat} {T : qm → qm → Prop} (hS : Sh L xs P S) (hM : qM P S = M) (hL : L < 2147483648) (hq : q + 7 ≤ L) (hr : 2 ≤ rc ∧ 12 ≤ rs) (hop : ∀ K, Fg 165263992197562149737978827008192759957101170741070304821162198818601447809077836456297302609928821213004679708272450600960 M K → oK2 cI (qf_L_ask 20000 (xs (q + 1)).toInt (xs (q + 2)).toInt (xs (q + 3)).toInt M) (qf_X18_ask 20000 (xs (q + 1)).toInt (xs (q + 2)).toInt (xs (q + 3)).toInt K) T) : ∃ S3 P3 M1 M2, Sh L xs P3 S3 ∧ qM P3 S3 = M2 ∧ Fg 165263992197562149737978827008192759957101170741070304821162198818601447809077836456297302609928821213004679708272450600960 M M1 ∧ Fg 96186684559997167393451689931966795516843826407564453425980221130141347242164823311006887347575458346600093743841280 M1 M2 ∧ T M1 M2 ∧ zf_L_law_J2656 20000 k 0 6 2156 2332 (Int32.ofNat q) rc rs S = k 0 6 2156 2332 (Int32.ofNat q + 7) (rc - 2) (rs - 12) S3 := by
  obtain ⟨v, S1, u, S2, M1, M2, b, P1, P2, a1, a3, a4, c1, c3, c4, h0, hc, hu, f0, g0, hT⟩ := ld_callG (re_of (qz_L_ask (i1 := (xs (q + 1))) (i2 := (xs (q + 2))) (i3 := (xs (q + 3))) hS hM rfl rfl rfl)) (fun P1 S1 M1 s1 m1 => (re_of (qz_X18_ask (i1 := (xs (q + 1))) (i2 := (xs (q + 2))) (i3 := (xs (q + 3))) s1 m1 rfl rfl rfl))) (fr_L_ask Fg_refl) (fun M1 => fr_X18_ask Fg_refl) rfl hop
  obtain ⟨S3, s1, s2, s3⟩ := ld_tailI (v := v) (X := fun S3 => k 0 6 2156 2332 (Int32.ofNat q + 7) (rc - 2) (rs - 12) S3) c3 c4 h0 hc hu
  refine ⟨S3, P2, M1, M2, s1, s2, f0, g0, hT, ?_⟩
  unfold zf_L_law_J2656
  refine zb_to (sh_argk (k := 1) hS hL (by omega)) ?_
  refine zb_to (sh_argk (k := 2) hS hL (by omega)) ?_
  refine zb_to (sh_argk (k := 3) hS hL (by omega)) ?_
  rw [if_pos hr]
  refine zb_to a1 ?_
  refine zb_to (sh_argk (k := 1) a3 hL (by omega)) ?_
  refine zb_to (sh_argk (k := 2) a3 hL (by omega)) ?_
  refine zb_to (sh_argk (k := 3) a3 hL (by omega)) ?_
  refine zb_to (sh_zi a3) ?_
  refine zb_to c1 ?_
  exact s3

theorem lx_both {M : qm} {k : Nat → Nat → Nat → Nat → Int32 → Nat → Nat → zm_S → Option ((Int32 × zm_S) ⊕ (Unit × zm_S))} {q rc rs : Nat} {T : qm → qm → Prop} (hS : Sh L xs P S) (hM : qM P S = M) (hL : L < 2147483648) (hq : q + 7 ≤ L) (hr : 3 ≤ rc ∧ 18 ≤ rs) (hop : ∀ K, Fg 165263992197562149737978827008192759957101170741070304821162198818601447809077836456297302609928821213004679708272450600960 M K → oK2 cI (qf_L_both 20000 (xs (q + 1)).toInt (xs (q + 2)).toInt (xs (q + 3)).toInt (xs (q + 4)).toInt M) (qf_X18_both 20000 (xs (q + 1)).toInt (xs (q + 2)).toInt (xs (q + 3)).toInt (xs (q + 4)).toInt K) T) : ∃ S3 P3 M1 M2, Sh L xs P3 S3 ∧ qM P3 S3 = M2 ∧ Fg 165263992197562149737978827008192759957101170741070304821162198818601447809077836456297302609928821213004679708272450600960 M M1 ∧ Fg 96186684559997167393451689931966795516843826407564453425980221130141347242164823311006887347575458346600093743841280 M1 M2 ∧ T M1 M2 ∧ zf_L_law_J2736 20000 k 0 6 2156 2332 (Int32.ofNat q) rc rs S = k 0 6 2156 2332 (Int32.ofNat q + 7) (rc - 3) (rs - 18) S3 := by
  obtain ⟨v, S1, u, S2, M1, M2, b, P1, P2, a1, a3, a4, c1, c3, c4, h0, hc, hu, f0, g0, hT⟩ := ld_callG (re_of (qz_L_both (i1 := (xs (q + 1))) (i2 := (xs (q + 2))) (i3 := (xs (q + 3))) (i4 := (xs (q + 4))) hS hM rfl rfl rfl rfl)) (fun P1 S1 M1 s1 m1 => (re_of (qz_X18_both (i1 := (xs (q + 1))) (i2 := (xs (q + 2))) (i3 := (xs (q + 3))) (i4 := (xs (q + 4))) s1 m1 rfl rfl rfl rfl))) (fr_L_both Fg_refl) (fun M1 => fr_X18_both Fg_refl) rfl hop
  obtain ⟨S3, s1, s2, s3⟩ := ld_tailI (v := v) (X := fun S3 => k 0 6 2156 2332 (Int32.ofNat q + 7) (rc - 3) (rs - 18) S3) c3 c4 h0 hc hu
  refine ⟨S3, P2, M1, M2, s1, s2, f0, g0, hT, ?_⟩
  unfold zf_L_law_J2736
  refine zb_to (sh_argk (k := 1) hS hL (by omega)) ?_
  refine zb_to (sh_argk (k := 2) hS hL (by omega)) ?_
  refine zb_to (sh_argk (k := 3) hS hL (by omega)) ?_
  refine zb_to (sh_argk (k := 4) hS hL (by omega)) ?_
  rw [if_pos hr]
  refine zb_to a1 ?_
  refine zb_to (sh_argk (k := 1) a3 hL (by omega)) ?_
  refine zb_to (sh_argk (k := 2) a3 hL (by omega)) ?_
  refine zb_to (sh_argk (k := 3) a3 hL (by omega)) ?_
  refine zb_to (sh_argk (k := 4) a3 hL (by omega)) ?_
  refine zb_to (sh_zi a3) ?_
  refine zb_to c1 ?_
  exact s3

theorem lx_where {M : qm} {k : Nat → Nat → Nat → Nat → Int32 → Nat → Nat → zm_S → Option ((Int32 × zm_S) ⊕ (Unit × zm_S))} {q rc rs : Nat} {T : qm → qm → Prop} (hS : Sh L xs P S) (hM : qM P S = M) (hL : L < 2147483648) (hq : q + 7 ≤ L) (hr : 2 ≤ rc ∧ 12 ≤ rs) (hop : ∀ K, Fg 165263992197562149737978827008192759957101170741070304821162198818601447809077836456297302609928821211897803006255839576064 M K → oK2 cI (qf_L_where 20000 (xs (q + 1)).toInt (xs (q + 2)).toInt M) (qf_X18_where 20000 (xs (q + 1)).toInt (xs (q + 2)).toInt K) T) : ∃ S3 P3 M1 M2, Sh L xs P3 S3 ∧ qM P3 S3 = M2 ∧ Fg 165263992197562149737978827008192759957101170741070304821162198818601447809077836456297302609928821211897803006255839576064 M M1 ∧ Fg 1461501637330902918203684832716283019655932542976 M1 M2 ∧ T M1 M2 ∧ zf_L_law_J2828 20000 k 0 6 2156 2332 (Int32.ofNat q) rc rs S = k 0 6 2156 2332 (Int32.ofNat q + 7) (rc - 2) (rs - 12) S3 := by
  obtain ⟨v, S1, u, S2, M1, M2, b, P1, P2, a1, a3, a4, c1, c3, c4, h0, hc, hu, f0, g0, hT⟩ := ld_callG (re_of (qz_L_where (i1 := (xs (q + 1))) (i2 := (xs (q + 2))) hS hM rfl rfl)) (fun P1 S1 M1 s1 m1 => (re_of (qz_X18_where (i1 := (xs (q + 1))) (i2 := (xs (q + 2))) s1 m1 rfl rfl))) (fr_L_where Fg_refl) (fun M1 => fr_X18_where Fg_refl) rfl hop
  obtain ⟨S3, s1, s2, s3⟩ := ld_tailI (v := v) (X := fun S3 => k 0 6 2156 2332 (Int32.ofNat q + 7) (rc - 2) (rs - 12) S3) c3 c4 h0 hc hu
  refine ⟨S3, P2, M1, M2, s1, s2, f0, g0, hT, ?_⟩
  unfold zf_L_law_J2828
  refine zb_to (sh_argk (k := 1) hS hL (by omega)) ?_
  refine zb_to (sh_argk (k := 2) hS hL (by omega)) ?_
  rw [if_pos hr]
  refine zb_to a1 ?_
  refine zb_to (sh_argk (k := 1) a3 hL (by omega)) ?_
  refine zb_to (sh_argk (k := 2) a3 hL (by omega)) ?_
  refine zb_to (sh_zi a3) ?_
  refine zb_to c1 ?_
  exact s3

theorem lx_inside {M : qm} {k : Nat → Nat → Nat → Nat → Int32 → Nat → Nat → zm_S → Option ((Int32 × zm_S) ⊕ (Unit × zm_S))} {q rc rs : Nat} {T : qm → qm → Prop} (hS : Sh L xs P S) (hM : qM P S = M) (hL : L < 2147483648) (hq : q + 7 ≤ L) (hr : 2 ≤ rc ∧ 12 ≤ rs) (hop : ∀ K, Fg 165263992197562149737978827008192759957101170741070304821162198818601447809077836456297302609928821211897803006255839576064 M K → oK2 cI (qf_L_inside 20000 (xs (q + 1)).toInt M) (qf_X18_inside 20000 (xs (q + 1)).toInt K) T) : ∃ S3 P3 M1 M2, Sh L xs P3 S3 ∧ qM P3 S3 = M2 ∧ Fg 165263992197562149737978827008192759957101170741070304821162198818601447809077836456297302609928821211897803006255839576064 M M1 ∧ Fg 1461501637330902918203684832716283019655932542976 M1 M2 ∧ T M1 M2 ∧ zf_L_law_J2896 20000 k 0 6 2156 2332 (Int32.ofNat q) rc rs S = k 0 6 2156 2332 (Int32.ofNat q + 7) (rc - 2) (rs - 12) S3 := by
  obtain ⟨v, S1, u, S2, M1, M2, b, P1, P2, a1, a3, a4, c1, c3, c4, h0, hc, hu, f0, g0, hT⟩ := ld_callG (re_of (qz_L_inside (i1 := (xs (q + 1))) hS hM rfl)) (fun P1 S1 M1 s1 m1 => (re_of (qz_X18_inside (i1 := (xs (q + 1))) s1 m1 rfl))) (fr_L_inside Fg_refl) (fun M1 => fr_X18_inside Fg_refl) rfl hop
  obtain ⟨S3, s1, s2, s3⟩ := ld_tailI (v := v) (X := fun S3 => k 0 6 2156 2332 (Int32.ofNat q + 7) (rc - 2) (rs - 12) S3) c3 c4 h0 hc hu
  refine ⟨S3, P2, M1, M2, s1, s2, f0, g0, hT, ?_⟩
  unfold zf_L_law_J2896
  refine zb_to (sh_argk (k := 1) hS hL (by omega)) ?_
  rw [if_pos hr]
  refine zb_to a1 ?_
  refine zb_to (sh_argk (k := 1) a3 hL (by omega)) ?_
  refine zb_to (sh_zi a3) ?_
  refine zb_to c1 ?_
  exact s3

theorem lx_against {M : qm} {k : Nat → Nat → Nat → Nat → Int32 → Nat → Nat → zm_S → Option ((Int32 × zm_S) ⊕ (Unit × zm_S))} {q rc rs : Nat} {T : qm → qm → Prop} (hS : Sh L xs P S) (hM : qM P S = M) (hL : L < 2147483648) (hq : q + 7 ≤ L) (hr : 2 ≤ rc ∧ 12 ≤ rs) (hop : ∀ K, Fg 165263992197562149737978827008192759957101170741070304821162198818601447809077836456297302609928821211897803006255839576064 M K → oK2 cI (qf_L_against 20000 (xs (q + 1)).toInt (xs (q + 2)).toInt M) (qf_X18_against 20000 (xs (q + 1)).toInt (xs (q + 2)).toInt K) T) : ∃ S3 P3 M1 M2, Sh L xs P3 S3 ∧ qM P3 S3 = M2 ∧ Fg 165263992197562149737978827008192759957101170741070304821162198818601447809077836456297302609928821211897803006255839576064 M M1 ∧ Fg 1461501637330902918203684832716283019655932542976 M1 M2 ∧ T M1 M2 ∧ zf_L_law_J2952 20000 k 0 6 2156 2332 (Int32.ofNat q) rc rs S = k 0 6 2156 2332 (Int32.ofNat q + 7) (rc - 2) (rs - 12) S3 := by
  obtain ⟨v, S1, u, S2, M1, M2, b, P1, P2, a1, a3, a4, c1, c3, c4, h0, hc, hu, f0, g0, hT⟩ := ld_callG (re_of (qz_L_against (i1 := (xs (q + 1))) (i2 := (xs (q + 2))) hS hM rfl rfl)) (fun P1 S1 M1 s1 m1 => (re_of (qz_X18_against (i1 := (xs (q + 1))) (i2 := (xs (q + 2))) s1 m1 rfl rfl))) (fr_L_against Fg_refl) (fun M1 => fr_X18_against Fg_refl) rfl hop
  obtain ⟨S3, s1, s2, s3⟩ := ld_tailI (v := v) (X := fun S3 => k 0 6 2156 2332 (Int32.ofNat q + 7) (rc - 2) (rs - 12) S3) c3 c4 h0 hc hu
  refine ⟨S3, P2, M1, M2, s1, s2, f0, g0, hT, ?_⟩
  unfold zf_L_law_J2952
  refine zb_to (sh_argk (k := 1) hS hL (by omega)) ?_
  refine zb_to (sh_argk (k := 2) hS hL (by omega)) ?_
  rw [if_pos hr]
  refine zb_to a1 ?_
  refine zb_to (sh_argk (k := 1) a3 hL (by omega)) ?_
  refine zb_to (sh_argk (k := 2) a3 hL (by omega)) ?_
  refine zb_to (sh_zi a3) ?_
  refine zb_to c1 ?_
  exact s3

theorem lx_unit {M : qm} {k : Nat → Nat → Nat → Nat → Int32 → Nat → Nat → zm_S → Option ((Int32 × zm_S) ⊕ (Unit × zm_S))} {q rc rs : Nat} {T : qm → qm → Prop} (hS : Sh L xs P S) (hM : qM P S = M) (hL : L < 2147483648) (hq : q + 7 ≤ L) (hr : 2 ≤ rc ∧ 12 ≤ rs) (hop : ∀ K, Fg 165263992197562149737978827008192759957101170741070304821162198818601447809077836456297302609928840592489848703279796584448 M K → oK2 cI (qf_L_unit 20000 (xs (q + 1)).toInt M) (qf_X18_unit 20000 (xs (q + 1)).toInt K) T) : ∃ S3 P3 M1 M2, Sh L xs P3 S3 ∧ qM P3 S3 = M2 ∧ Fg 165263992197562149737978827008192759957101170741070304821162198818601447809077836456297302609928840592489848703279796584448 M M1 ∧ Fg 474515981694521768845793896565604507884337728062713235118529895547447661197000704 M1 M2 ∧ T M1 M2 ∧ zf_L_law_J3020 20000 k 0 6 2156 2332 (Int32.ofNat q) rc rs S = k 0 6 2156 2332 (Int32.ofNat q + 7) (rc - 2) (rs - 12) S3 := by
  obtain ⟨v, S1, u, S2, M1, M2, b, P1, P2, a1, a3, a4, c1, c3, c4, h0, hc, hu, f0, g0, hT⟩ := ld_callG (re_of (qz_L_unit (i1 := (xs (q + 1))) hS hM rfl)) (fun P1 S1 M1 s1 m1 => (re_of (qz_X18_unit (i1 := (xs (q + 1))) s1 m1 rfl))) (fr_L_unit Fg_refl) (fun M1 => fr_X18_unit Fg_refl) rfl hop
  obtain ⟨S3, s1, s2, s3⟩ := ld_tailI (v := v) (X := fun S3 => k 0 6 2156 2332 (Int32.ofNat q + 7) (rc - 2) (rs - 12) S3) c3 c4 h0 hc hu
  refine ⟨S3, P2, M1, M2, s1, s2, f0, g0, hT, ?_⟩
  unfold zf_L_law_J3020
  refine zb_to (sh_argk (k := 1) hS hL (by omega)) ?_
  rw [if_pos hr]
  refine zb_to a1 ?_
  refine zb_to (sh_argk (k := 1) a3 hL (by omega)) ?_
  refine zb_to (sh_zi a3) ?_
  refine zb_to c1 ?_
  exact s3

theorem lx_sentence {M : qm} {k : Nat → Nat → Nat → Nat → Int32 → Nat → Nat → zm_S → Option ((Int32 × zm_S) ⊕ (Unit × zm_S))} {q rc rs : Nat} {T : qm → qm → Prop} (hS : Sh L xs P S) (hM : qM P S = M) (hL : L < 2147483648) (hq : q + 7 ≤ L) (hr : 2 ≤ rc ∧ 12 ≤ rs) (hop : ∀ K, Fg 165263992197562149737978827008192759957101170741070304821162198818601447809077836456297302609928840668047712429194120003584 M K → oK2 cI (qf_L_sentence 20000 (xs (q + 1)).toInt (xs (q + 2)).toInt (xs (q + 3)).toInt (xs (q + 4)).toInt (xs (q + 5)).toInt M) (qf_X18_sentence 20000 (xs (q + 1)).toInt (xs (q + 2)).toInt (xs (q + 3)).toInt (xs (q + 4)).toInt (xs (q + 5)).toInt K) T) : ∃ S3 P3 M1 M2, Sh L xs P3 S3 ∧ qM P3 S3 = M2 ∧ Fg 165263992197562149737978827008192759957101170741070304821162198818601447809077836456297302609928840668047712429194120003584 M M1 ∧ Fg 1989293449797903107896243866815352088230436897964235006879075420203675041523555886956544 M1 M2 ∧ T M1 M2 ∧ zf_L_law_J3076 20000 k 0 6 2156 2332 (Int32.ofNat q) rc rs S = k 0 6 2156 2332 (Int32.ofNat q + 7) (rc - 2) (rs - 12) S3 := by
  obtain ⟨v, S1, u, S2, M1, M2, b, P1, P2, a1, a3, a4, c1, c3, c4, h0, hc, hu, f0, g0, hT⟩ := ld_callG (re_of (qz_L_sentence (i1 := (xs (q + 1))) (i2 := (xs (q + 2))) (i3 := (xs (q + 3))) (i4 := (xs (q + 4))) (i5 := (xs (q + 5))) hS hM rfl rfl rfl rfl rfl)) (fun P1 S1 M1 s1 m1 => (re_of (qz_X18_sentence (i1 := (xs (q + 1))) (i2 := (xs (q + 2))) (i3 := (xs (q + 3))) (i4 := (xs (q + 4))) (i5 := (xs (q + 5))) s1 m1 rfl rfl rfl rfl rfl))) (fr_L_sentence Fg_refl) (fun M1 => fr_X18_sentence Fg_refl) rfl hop
  obtain ⟨S3, s1, s2, s3⟩ := ld_tailI (v := v) (X := fun S3 => k 0 6 2156 2332 (Int32.ofNat q + 7) (rc - 2) (rs - 12) S3) c3 c4 h0 hc hu
  refine ⟨S3, P2, M1, M2, s1, s2, f0, g0, hT, ?_⟩
  unfold zf_L_law_J3076
  refine zb_to (sh_argk (k := 1) hS hL (by omega)) ?_
  refine zb_to (sh_argk (k := 2) hS hL (by omega)) ?_
  refine zb_to (sh_argk (k := 3) hS hL (by omega)) ?_
  refine zb_to (sh_argk (k := 4) hS hL (by omega)) ?_
  refine zb_to (sh_argk (k := 5) hS hL (by omega)) ?_
  rw [if_pos hr]
  refine zb_to a1 ?_
  refine zb_to (sh_argk (k := 1) a3 hL (by omega)) ?_
  refine zb_to (sh_argk (k := 2) a3 hL (by omega)) ?_
  refine zb_to (sh_argk (k := 3) a3 hL (by omega)) ?_
  refine zb_to (sh_argk (k := 4) a3 hL (by omega)) ?_
  refine zb_to (sh_argk (k := 5) a3 hL (by omega)) ?_
  refine zb_to (sh_zi a3) ?_
  refine zb_to c1 ?_
  exact s3

theorem lx_cutText {M : qm} {k : Nat → Nat → Nat → Nat → Int32 → Nat → Nat → zm_S → Option ((Int32 × zm_S) ⊕ (Unit × zm_S))} {q rc rs : Nat} {T : qm → qm → Prop} (hS : Sh L xs P S) (hM : qM P S = M) (hL : L < 2147483648) (hq : q + 7 ≤ L) (hr : 2 ≤ rc ∧ 12 ≤ rs) (hop : ∀ K, Fg 165263992197562149737978827008192759957101170741070304821162198818601447809077836456297302609928821249676734869213001285632 M K → oK2 cI (qf_L_cutText 20000 (xs (q + 1)).toInt M) (qf_X18_cutText 20000 (xs (q + 1)).toInt K) T) : ∃ S3 P3 M1 M2, Sh L xs P3 S3 ∧ qM P3 S3 = M2 ∧ Fg 165263992197562149737978827008192759957101170741070304821162198818601447809077836456297302609928821249676734869213001285632 M M1 ∧ Fg 231584178474632390847141970018837317343870872249484812911631451035482191822848 M1 M2 ∧ T M1 M2 ∧ zf_L_law_J3180 20000 k 0 6 2156 2332 (Int32.ofNat q) rc rs S = k 0 6 2156 2332 (Int32.ofNat q + 7) (rc - 2) (rs - 12) S3 := by
  obtain ⟨v, S1, u, S2, M1, M2, b, P1, P2, a1, a3, a4, c1, c3, c4, h0, hc, hu, f0, g0, hT⟩ := ld_callG (re_of (qz_L_cutText (i1 := (xs (q + 1))) hS hM rfl)) (fun P1 S1 M1 s1 m1 => (re_of (qz_X18_cutText (i1 := (xs (q + 1))) s1 m1 rfl))) (fr_L_cutText Fg_refl) (fun M1 => fr_X18_cutText Fg_refl) rfl hop
  obtain ⟨S3, s1, s2, s3⟩ := ld_tailI (v := v) (X := fun S3 => k 0 6 2156 2332 (Int32.ofNat q + 7) (rc - 2) (rs - 12) S3) c3 c4 h0 hc hu
  refine ⟨S3, P2, M1, M2, s1, s2, f0, g0, hT, ?_⟩
  unfold zf_L_law_J3180
  refine zb_to (sh_argk (k := 1) hS hL (by omega)) ?_
  rw [if_pos hr]
  refine zb_to a1 ?_
  refine zb_to (sh_argk (k := 1) a3 hL (by omega)) ?_
  refine zb_to (sh_zi a3) ?_
  refine zb_to c1 ?_
  exact s3

theorem lx_matrix {M : qm} {k : Nat → Nat → Nat → Nat → Int32 → Nat → Nat → zm_S → Option ((Int32 × zm_S) ⊕ (Unit × zm_S))} {q rc rs : Nat} {T : qm → qm → Prop} (hS : Sh L xs P S) (hM : qM P S = M) (hL : L < 2147483648) (hq : q + 7 ≤ L) (hr : 1 ≤ rc ∧ 6 ≤ rs) (hop : ∀ K, Fg 165263992197562149737978827008192759957101170741070304821162198818601447809077836794197692962421005422109768245174956195840 M K → oK2 cI (qf_L_matrix 20000 M) (qf_X18_matrix 20000 K) T) : ∃ S3 P3 M1 M2, Sh L xs P3 S3 ∧ qM P3 S3 = M2 ∧ Fg 165263992197562149737978827008192759957101170741070304821162198818601447809077836794197692962421005422109768245174956195840 M M1 ∧ Fg 248660683994317354410626446702703369957649016853768479250365002935508255682792685305856 M1 M2 ∧ T M1 M2 ∧ zf_L_law_J3236 20000 k 0 6 2156 2332 (Int32.ofNat q) rc rs S = k 0 6 2156 2332 (Int32.ofNat q + 7) (rc - 1) (rs - 6) S3 := by
  obtain ⟨v, S1, u, S2, M1, M2, b, P1, P2, a1, a3, a4, c1, c3, c4, h0, hc, hu, f0, g0, hT⟩ := ld_callG (re_of (qz_L_matrix  hS hM)) (fun P1 S1 M1 s1 m1 => (re_of (qz_X18_matrix  s1 m1))) (fr_L_matrix Fg_refl) (fun M1 => fr_X18_matrix Fg_refl) rfl hop
  obtain ⟨S3, s1, s2, s3⟩ := ld_tailI (v := v) (X := fun S3 => k 0 6 2156 2332 (Int32.ofNat q + 7) (rc - 1) (rs - 6) S3) c3 c4 h0 hc hu
  refine ⟨S3, P2, M1, M2, s1, s2, f0, g0, hT, ?_⟩
  unfold zf_L_law_J3236
  rw [if_pos hr]
  refine zb_to a1 ?_
  refine zb_to (sh_zi a3) ?_
  refine zb_to c1 ?_
  exact s3

theorem lx_signal {M : qm} {k : Nat → Nat → Nat → Nat → Int32 → Nat → Nat → zm_S → Option ((Int32 × zm_S) ⊕ (Unit × zm_S))} {q rc rs : Nat} {T : qm → qm → Prop} (hS : Sh L xs P S) (hM : qM P S = M) (hL : L < 2147483648) (hq : q + 7 ≤ L) (hr : 2 ≤ rc ∧ 12 ≤ rs) (hop : ∀ K, Fg 165263992197562149737978827008192759957101170741070304821162198818601447809077836457658432077612575065751301435982912421888 M K → oK2 cI (qf_L_signal 20000 (xs (q + 1)).toInt (xs (q + 2)).toInt M) (qf_X18_signal 20000 (xs (q + 1)).toInt (xs (q + 2)).toInt K) T) : ∃ S3 P3 M1 M2, Sh L xs P3 S3 ∧ qM P3 S3 = M2 ∧ Fg 165263992197562149737978827008192759957101170741070304821162198818601447809077836457658432077612575065751301435982912421888 M M1 ∧ Fg 59285549689505892056868344324449670322511563051726172473034999295071178308190208 M1 M2 ∧ T M1 M2 ∧ zf_L_law_J3280 20000 k 0 6 2156 2332 (Int32.ofNat q) rc rs S = k 0 6 2156 2332 (Int32.ofNat q + 7) (rc - 2) (rs - 12) S3 := by
  obtain ⟨v, S1, u, S2, M1, M2, b, P1, P2, a1, a3, a4, c1, c3, c4, h0, hc, hu, f0, g0, hT⟩ := ld_callG (re_of (qz_L_signal (i1 := (xs (q + 1))) (i2 := (xs (q + 2))) hS hM rfl rfl)) (fun P1 S1 M1 s1 m1 => (re_of (qz_X18_signal (i1 := (xs (q + 1))) (i2 := (xs (q + 2))) s1 m1 rfl rfl))) (fr_L_signal Fg_refl) (fun M1 => fr_X18_signal Fg_refl) rfl hop
  obtain ⟨S3, s1, s2, s3⟩ := ld_tailI (v := v) (X := fun S3 => k 0 6 2156 2332 (Int32.ofNat q + 7) (rc - 2) (rs - 12) S3) c3 c4 h0 hc hu
  refine ⟨S3, P2, M1, M2, s1, s2, f0, g0, hT, ?_⟩
  unfold zf_L_law_J3280
  refine zb_to (sh_argk (k := 1) hS hL (by omega)) ?_
  refine zb_to (sh_argk (k := 2) hS hL (by omega)) ?_
  rw [if_pos hr]
  refine zb_to a1 ?_
  refine zb_to (sh_argk (k := 1) a3 hL (by omega)) ?_
  refine zb_to (sh_argk (k := 2) a3 hL (by omega)) ?_
  refine zb_to (sh_zi a3) ?_
  refine zb_to c1 ?_
  exact s3

theorem lx_fault {M : qm} {k : Nat → Nat → Nat → Nat → Int32 → Nat → Nat → zm_S → Option ((Int32 × zm_S) ⊕ (Unit × zm_S))} {q rc rs : Nat} {T : qm → qm → Prop} (hS : Sh L xs P S) (hM : qM P S = M) (hL : L < 2147483648) (hq : q + 7 ≤ L) (hr : 2 ≤ rc ∧ 12 ≤ rs) (hop : ∀ K, Fg 165263992197562149737978827008192759957101170741070304821162198818601447809077836459019561545296328919604799865709985267712 M K → oK2 cB (qf_L_fault 20000 (xs (q + 1)).toInt (bzi (xs (q + 2))) M) (qf_X18_fault 20000 (xs (q + 1)).toInt (bzi (xs (q + 2))) K) T) : ∃ S3 P3 M1 M2, Sh L xs P3 S3 ∧ qM P3 S3 = M2 ∧ Fg 165263992197562149737978827008192759957101170741070304821162198818601447809077836459019561545296328919604799865709985267712 M M1 ∧ Fg 118571099379011784113736688648897879143385795200534141261237282307122700683837440 M1 M2 ∧ T M1 M2 ∧ zf_L_law_J3348 20000 k 0 6 2156 2332 (Int32.ofNat q) rc rs S = k 0 6 2156 2332 (Int32.ofNat q + 7) (rc - 2) (rs - 12) S3 := by
  obtain ⟨v, S1, u, S2, M1, M2, b, P1, P2, a1, a3, a4, c1, c3, c4, h0, hc, hu, f0, g0, hT⟩ := ld_callG (re_of (qz_L_fault (i1 := (xs (q + 1))) (i2 := (bz (xs (q + 2)))) hS hM rfl bz_i)) (fun P1 S1 M1 s1 m1 => (re_of (qz_X18_fault (i1 := (xs (q + 1))) (i2 := (bz (xs (q + 2)))) s1 m1 rfl bz_i))) (fr_L_fault Fg_refl) (fun M1 => fr_X18_fault Fg_refl) rfl hop
  obtain ⟨S3, s1, s2, s3⟩ := ld_tailB (v := v) (X := fun S3 => k 0 6 2156 2332 (Int32.ofNat q + 7) (rc - 2) (rs - 12) S3) c3 c4 h0 hc hu
  refine ⟨S3, P2, M1, M2, s1, s2, f0, g0, hT, ?_⟩
  unfold zf_L_law_J3348
  refine zb_to (sh_argk (k := 1) hS hL (by omega)) ?_
  refine zb_to (sh_argk (k := 2) hS hL (by omega)) ?_
  refine (bz_if (f := (fun b => zf_L_law_J3369 20000 k 0 6 2156 2332 (Int32.ofNat q) 6 (xs (q + 1)) b rc rs S))).trans ?_
  show zf_L_law_J3369 20000 k 0 6 2156 2332 (Int32.ofNat q) 6 (xs (q + 1)) (bz (xs (q + 2))) rc rs S = _
  unfold zf_L_law_J3369
  rw [if_pos hr]
  refine zb_to a1 ?_
  refine zb_to (sh_argk (k := 1) a3 hL (by omega)) ?_
  refine zb_to (sh_argk (k := 2) a3 hL (by omega)) ?_
  refine (bz_if (f := (fun b => zf_L_law_J3396 20000 k 0 6 2156 2332 (Int32.ofNat q) v 2156 (xs (q + 1)) b (rc - 2) (rs - 12) S1))).trans ?_
  show zf_L_law_J3396 20000 k 0 6 2156 2332 (Int32.ofNat q) v 2156 (xs (q + 1)) (bz (xs (q + 2))) (rc - 2) (rs - 12) S1 = _
  unfold zf_L_law_J3396
  refine zb_to (sh_zi a3) ?_
  refine zb_to c1 ?_
  unfold zf_L_law_J3430
  exact s3

theorem lx_disable {M : qm} {k : Nat → Nat → Nat → Nat → Int32 → Nat → Nat → zm_S → Option ((Int32 × zm_S) ⊕ (Unit × zm_S))} {q rc rs : Nat} {T : qm → qm → Prop} (hS : Sh L xs P S) (hM : qM P S = M) (hL : L < 2147483648) (hq : q + 7 ≤ L) (hr : 2 ≤ rc ∧ 12 ≤ rs) (hop : ∀ K, Fg 165263992197562149737978827008192759957101170741070304821162198818601447809077836461741820480663836627311796725164130959360 M K → oK2 cI (qf_L_disable 20000 (xs (q + 1)).toInt (xs (q + 2)).toInt M) (qf_X18_disable 20000 (xs (q + 1)).toInt (xs (q + 2)).toInt K) T) : ∃ S3 P3 M1 M2, Sh L xs P3 S3 ∧ qM P3 S3 = M2 ∧ Fg 165263992197562149737978827008192759957101170741070304821162198818601447809077836461741820480663836627311796725164130959360 M M1 ∧ Fg 237142198758023568227473377297794296785134259498150078837641848331225745435131904 M1 M2 ∧ T M1 M2 ∧ zf_L_law_J3439 20000 k 0 6 2156 2332 (Int32.ofNat q) rc rs S = k 0 6 2156 2332 (Int32.ofNat q + 7) (rc - 2) (rs - 12) S3 := by
  obtain ⟨v, S1, u, S2, M1, M2, b, P1, P2, a1, a3, a4, c1, c3, c4, h0, hc, hu, f0, g0, hT⟩ := ld_callG (re_of (qz_L_disable (i1 := (xs (q + 1))) (i2 := (xs (q + 2))) hS hM rfl rfl)) (fun P1 S1 M1 s1 m1 => (re_of (qz_X18_disable (i1 := (xs (q + 1))) (i2 := (xs (q + 2))) s1 m1 rfl rfl))) (fr_L_disable Fg_refl) (fun M1 => fr_X18_disable Fg_refl) rfl hop
  obtain ⟨S3, s1, s2, s3⟩ := ld_tailI (v := v) (X := fun S3 => k 0 6 2156 2332 (Int32.ofNat q + 7) (rc - 2) (rs - 12) S3) c3 c4 h0 hc hu
  refine ⟨S3, P2, M1, M2, s1, s2, f0, g0, hT, ?_⟩
  unfold zf_L_law_J3439
  refine zb_to (sh_argk (k := 1) hS hL (by omega)) ?_
  refine zb_to (sh_argk (k := 2) hS hL (by omega)) ?_
  rw [if_pos hr]
  refine zb_to a1 ?_
  refine zb_to (sh_argk (k := 1) a3 hL (by omega)) ?_
  refine zb_to (sh_argk (k := 2) a3 hL (by omega)) ?_
  refine zb_to (sh_zi a3) ?_
  refine zb_to c1 ?_
  exact s3

theorem lx_attend {M : qm} {k : Nat → Nat → Nat → Nat → Int32 → Nat → Nat → zm_S → Option ((Int32 × zm_S) ⊕ (Unit × zm_S))} {q rc rs : Nat} {T : qm → qm → Prop} (hS : Sh L xs P S) (hM : qM P S = M) (hL : L < 2147483648) (hq : q + 7 ≤ L) (hr : 2 ≤ rc ∧ 12 ≤ rs) (hop : ∀ K, Fg 165263992197562149737978827008192759957101170741070304821162198818601447809077838895441308699215727317366989077170379292672 M K → oK2 cI (qf_L_attend 20000 (xs (q + 1)).toInt M) (qf_X18_attend 20000 (xs (q + 1)).toInt K) T) : ∃ S3 P3 M1 M2, Sh L xs P3 S3 ∧ qM P3 S3 = M2 ∧ Fg 165263992197562149737978827008192759957101170741070304821162198818601447809077838895441308699215727317366989077170379292672 M M1 ∧ Fg 217578915929281655942979733564234117545411067611170529298406674723473562962639284338688 M1 M2 ∧ T M1 M2 ∧ zf_L_law_J3507 20000 k 0 6 2156 2332 (Int32.ofNat q) rc rs S = k 0 6 2156 2332 (Int32.ofNat q + 7) (rc - 2) (rs - 12) S3 := by
  obtain ⟨v, S1, u, S2, M1, M2, b, P1, P2, a1, a3, a4, c1, c3, c4, h0, hc, hu, f0, g0, hT⟩ := ld_callG (re_of (qz_L_attend (i1 := (xs (q + 1))) hS hM rfl)) (fun P1 S1 M1 s1 m1 => (re_of (qz_X18_attend (i1 := (xs (q + 1))) s1 m1 rfl))) (fr_L_attend Fg_refl) (fun M1 => fr_X18_attend Fg_refl) rfl hop
  obtain ⟨S3, s1, s2, s3⟩ := ld_tailI (v := v) (X := fun S3 => k 0 6 2156 2332 (Int32.ofNat q + 7) (rc - 2) (rs - 12) S3) c3 c4 h0 hc hu
  refine ⟨S3, P2, M1, M2, s1, s2, f0, g0, hT, ?_⟩
  unfold zf_L_law_J3507
  refine zb_to (sh_argk (k := 1) hS hL (by omega)) ?_
  rw [if_pos hr]
  refine zb_to a1 ?_
  refine zb_to (sh_argk (k := 1) a3 hL (by omega)) ?_
  refine zb_to (sh_zi a3) ?_
  refine zb_to c1 ?_
  exact s3

theorem lx_reset {M : qm} {k : Nat → Nat → Nat → Nat → Int32 → Nat → Nat → zm_S → Option ((Int32 × zm_S) ⊕ (Unit × zm_S))} {q rc rs : Nat} {T : qm → qm → Prop} (hS : Sh L xs P S) (hM : qM P S = M) (hL : L < 2147483648) (hq : q + 7 ≤ L) (hr : 1 ≤ rc ∧ 6 ≤ rs) (hop : ∀ K, Fg 165263992197562149737978827008192759957101170741070304821162198818601447809077856144356481783862527253286865928038689800192 M K → oK2 cI (qf_L_reset 20000 M) (qf_X18_reset 20000 K) T) : ∃ S3 P3 M1 M2, Sh L xs P3 S3 ∧ qM P3 S3 = M2 ∧ Fg 165263992197562149737978827008192759957101170741070304821162198818601447809077856144356481783862527253286865928038689800192 M M1 ∧ Fg 820219086980754465952565823917800687419089471522205460024956860453938791330145577425393067612962816 M1 M2 ∧ T M1 M2 ∧ zf_L_law_J3563 20000 k 0 6 2156 2332 (Int32.ofNat q) rc rs S = k 0 6 2156 2332 (Int32.ofNat q + 7) (rc - 1) (rs - 6) S3 := by
  obtain ⟨v, S1, u, S2, M1, M2, b, P1, P2, a1, a3, a4, c1, c3, c4, h0, hc, hu, f0, g0, hT⟩ := ld_callG (re_of (qz_L_reset  hS hM)) (fun P1 S1 M1 s1 m1 => (re_of (qz_X18_reset  s1 m1))) (fr_L_reset Fg_refl) (fun M1 => fr_X18_reset Fg_refl) rfl hop
  obtain ⟨S3, s1, s2, s3⟩ := ld_tailI (v := v) (X := fun S3 => k 0 6 2156 2332 (Int32.ofNat q + 7) (rc - 1) (rs - 6) S3) c3 c4 h0 hc hu
  refine ⟨S3, P2, M1, M2, s1, s2, f0, g0, hT, ?_⟩
  unfold zf_L_law_J3563
  rw [if_pos hr]
  refine zb_to a1 ?_
  refine zb_to (sh_zi a3) ?_
  refine zb_to c1 ?_
  exact s3

theorem lx_act {M : qm} {k : Nat → Nat → Nat → Nat → Int32 → Nat → Nat → zm_S → Option ((Int32 × zm_S) ⊕ (Unit × zm_S))} {q rc rs : Nat} {T : qm → qm → Prop} (hS : Sh L xs P S) (hM : qM P S = M) (hL : L < 2147483648) (hq : q + 7 ≤ L) (hr : 2 ≤ rc ∧ 12 ≤ rs) (hop : ∀ K, Fg 165263992197562149737978827008192759957101170741070304821162198818601447809077836456297302609928821211897803006255839576064 M K → oK2 cI (qf_L_act 20000 (xs (q + 1)).toInt (xs (q + 2)).toInt M) (qf_X18_act 20000 (xs (q + 1)).toInt (xs (q + 2)).toInt K) T) : ∃ S3 P3 M1 M2, Sh L xs P3 S3 ∧ qM P3 S3 = M2 ∧ Fg 165263992197562149737978827008192759957101170741070304821162198818601447809077836456297302609928821211897803006255839576064 M M1 ∧ Fg 1461501637330902918203684832716283019655932542976 M1 M2 ∧ T M1 M2 ∧ zf_L_law_J3607 20000 k 0 6 2156 2332 (Int32.ofNat q) rc rs S = k 0 6 2156 2332 (Int32.ofNat q + 7) (rc - 2) (rs - 12) S3 := by
  obtain ⟨v, S1, u, S2, M1, M2, b, P1, P2, a1, a3, a4, c1, c3, c4, h0, hc, hu, f0, g0, hT⟩ := ld_callG (re_of (qz_L_act (i1 := (xs (q + 1))) (i2 := (xs (q + 2))) hS hM rfl rfl)) (fun P1 S1 M1 s1 m1 => (re_of (qz_X18_act (i1 := (xs (q + 1))) (i2 := (xs (q + 2))) s1 m1 rfl rfl))) (fr_L_act Fg_refl) (fun M1 => fr_X18_act Fg_refl) rfl hop
  obtain ⟨S3, s1, s2, s3⟩ := ld_tailI (v := v) (X := fun S3 => k 0 6 2156 2332 (Int32.ofNat q + 7) (rc - 2) (rs - 12) S3) c3 c4 h0 hc hu
  refine ⟨S3, P2, M1, M2, s1, s2, f0, g0, hT, ?_⟩
  unfold zf_L_law_J3607
  refine zb_to (sh_argk (k := 1) hS hL (by omega)) ?_
  refine zb_to (sh_argk (k := 2) hS hL (by omega)) ?_
  rw [if_pos hr]
  refine zb_to a1 ?_
  refine zb_to (sh_argk (k := 1) a3 hL (by omega)) ?_
  refine zb_to (sh_argk (k := 2) a3 hL (by omega)) ?_
  refine zb_to (sh_zi a3) ?_
  refine zb_to c1 ?_
  exact s3

theorem lx_zone {M : qm} {k : Nat → Nat → Nat → Nat → Int32 → Nat → Nat → zm_S → Option ((Int32 × zm_S) ⊕ (Unit × zm_S))} {q rc rs : Nat} {T : qm → qm → Prop} (hS : Sh L xs P S) (hM : qM P S = M) (hL : L < 2147483648) (hq : q + 7 ≤ L) (hr : 2 ≤ rc ∧ 12 ≤ rs) (hop : ∀ K, Fg 165263992197562149737978827008192759957101170741070304821162198818601447809077836456297302609928821211897803006255839576064 M K → oK2 cI (qf_L_zone 20000 (xs (q + 1)).toInt (xs (q + 2)).toInt M) (qf_X18_zone 20000 (xs (q + 1)).toInt (xs (q + 2)).toInt K) T) : ∃ S3 P3 M1 M2, Sh L xs P3 S3 ∧ qM P3 S3 = M2 ∧ Fg 165263992197562149737978827008192759957101170741070304821162198818601447809077836456297302609928821211897803006255839576064 M M1 ∧ Fg 1461501637330902918203684832716283019655932542976 M1 M2 ∧ T M1 M2 ∧ zf_L_law_J3675 20000 k 0 6 2156 2332 (Int32.ofNat q) rc rs S = k 0 6 2156 2332 (Int32.ofNat q + 7) (rc - 2) (rs - 12) S3 := by
  obtain ⟨v, S1, u, S2, M1, M2, b, P1, P2, a1, a3, a4, c1, c3, c4, h0, hc, hu, f0, g0, hT⟩ := ld_callG (re_of (qz_L_zone (i1 := (xs (q + 1))) (i2 := (xs (q + 2))) hS hM rfl rfl)) (fun P1 S1 M1 s1 m1 => (re_of (qz_X18_zone (i1 := (xs (q + 1))) (i2 := (xs (q + 2))) s1 m1 rfl rfl))) (fr_L_zone Fg_refl) (fun M1 => fr_X18_zone Fg_refl) rfl hop
  obtain ⟨S3, s1, s2, s3⟩ := ld_tailI (v := v) (X := fun S3 => k 0 6 2156 2332 (Int32.ofNat q + 7) (rc - 2) (rs - 12) S3) c3 c4 h0 hc hu
  refine ⟨S3, P2, M1, M2, s1, s2, f0, g0, hT, ?_⟩
  unfold zf_L_law_J3675
  refine zb_to (sh_argk (k := 1) hS hL (by omega)) ?_
  refine zb_to (sh_argk (k := 2) hS hL (by omega)) ?_
  rw [if_pos hr]
  refine zb_to a1 ?_
  refine zb_to (sh_argk (k := 1) a3 hL (by omega)) ?_
  refine zb_to (sh_argk (k := 2) a3 hL (by omega)) ?_
  refine zb_to (sh_zi a3) ?_
  refine zb_to c1 ?_
  exact s3

theorem lx_event {M : qm} {k : Nat → Nat → Nat → Nat → Int32 → Nat → Nat → zm_S → Option ((Int32 × zm_S) ⊕ (Unit × zm_S))} {q rc rs : Nat} {T : qm → qm → Prop} (hS : Sh L xs P S) (hM : qM P S = M) (hL : L < 2147483648) (hq : q + 7 ≤ L) (hr : 2 ≤ rc ∧ 12 ≤ rs) (hop : ∀ K, Fg 165263992197562149737978827008192759957101170741070304821162198818601447809077836456297302609928821211897803006255839576064 M K → oK2 cI (qf_L_event 20000 (xs (q + 1)).toInt (xs (q + 2)).toInt M) (qf_X18_event 20000 (xs (q + 1)).toInt (xs (q + 2)).toInt K) T) : ∃ S3 P3 M1 M2, Sh L xs P3 S3 ∧ qM P3 S3 = M2 ∧ Fg 165263992197562149737978827008192759957101170741070304821162198818601447809077836456297302609928821211897803006255839576064 M M1 ∧ Fg 1461501637330902918203684832716283019655932542976 M1 M2 ∧ T M1 M2 ∧ zf_L_law_J3743 20000 k 0 6 2156 2332 (Int32.ofNat q) rc rs S = k 0 6 2156 2332 (Int32.ofNat q + 7) (rc - 2) (rs - 12) S3 := by
  obtain ⟨v, S1, u, S2, M1, M2, b, P1, P2, a1, a3, a4, c1, c3, c4, h0, hc, hu, f0, g0, hT⟩ := ld_callG (re_of (qz_L_event (i1 := (xs (q + 1))) (i2 := (xs (q + 2))) hS hM rfl rfl)) (fun P1 S1 M1 s1 m1 => (re_of (qz_X18_event (i1 := (xs (q + 1))) (i2 := (xs (q + 2))) s1 m1 rfl rfl))) (fr_L_event Fg_refl) (fun M1 => fr_X18_event Fg_refl) rfl hop
  obtain ⟨S3, s1, s2, s3⟩ := ld_tailI (v := v) (X := fun S3 => k 0 6 2156 2332 (Int32.ofNat q + 7) (rc - 2) (rs - 12) S3) c3 c4 h0 hc hu
  refine ⟨S3, P2, M1, M2, s1, s2, f0, g0, hT, ?_⟩
  unfold zf_L_law_J3743
  refine zb_to (sh_argk (k := 1) hS hL (by omega)) ?_
  refine zb_to (sh_argk (k := 2) hS hL (by omega)) ?_
  rw [if_pos hr]
  refine zb_to a1 ?_
  refine zb_to (sh_argk (k := 1) a3 hL (by omega)) ?_
  refine zb_to (sh_argk (k := 2) a3 hL (by omega)) ?_
  refine zb_to (sh_zi a3) ?_
  refine zb_to c1 ?_
  exact s3

theorem lx_block {M : qm} {k : Nat → Nat → Nat → Nat → Int32 → Nat → Nat → zm_S → Option ((Int32 × zm_S) ⊕ (Unit × zm_S))} {q rc rs : Nat} {T : qm → qm → Prop} (hS : Sh L xs P S) (hM : qM P S = M) (hL : L < 2147483648) (hq : q + 7 ≤ L) (hr : 2 ≤ rc ∧ 12 ≤ rs) (hop : ∀ K, Fg 165263992197562149737978827008192759957101170741070304821162198818601447809077836456297302620239314314095913970821920456704 M K → oK2 cI (qf_L_block 20000 (xs (q + 1)).toInt M) (qf_X18_block 20000 (xs (q + 1)).toInt K) T) : ∃ S3 P3 M1 M2, Sh L xs P3 S3 ∧ qM P3 S3 = M2 ∧ Fg 165263992197562149737978827008192759957101170741070304821162198818601447809077836456297302620239314314095913970821920456704 M M1 ∧ Fg 545066267105126159802298943968915640750101402775530429217666722359735525008756235516772352 M1 M2 ∧ T M1 M2 ∧ zf_L_law_J3811 20000 k 0 6 2156 2332 (Int32.ofNat q) rc rs S = k 0 6 2156 2332 (Int32.ofNat q + 7) (rc - 2) (rs - 12) S3 := by
  obtain ⟨v, S1, u, S2, M1, M2, b, P1, P2, a1, a3, a4, c1, c3, c4, h0, hc, hu, f0, g0, hT⟩ := ld_callG (re_of (qz_L_block (i1 := (xs (q + 1))) hS hM rfl)) (fun P1 S1 M1 s1 m1 => (re_of (qz_X18_block (i1 := (xs (q + 1))) s1 m1 rfl))) (fr_L_block Fg_refl) (fun M1 => fr_X18_block Fg_refl) rfl hop
  obtain ⟨S3, s1, s2, s3⟩ := ld_tailI (v := v) (X := fun S3 => k 0 6 2156 2332 (Int32.ofNat q + 7) (rc - 2) (rs - 12) S3) c3 c4 h0 hc hu
  refine ⟨S3, P2, M1, M2, s1, s2, f0, g0, hT, ?_⟩
  unfold zf_L_law_J3811
  refine zb_to (sh_argk (k := 1) hS hL (by omega)) ?_
  rw [if_pos hr]
  refine zb_to a1 ?_
  refine zb_to (sh_argk (k := 1) a3 hL (by omega)) ?_
  refine zb_to (sh_zi a3) ?_
  refine zb_to c1 ?_
  exact s3

theorem lx_wire {M : qm} {k : Nat → Nat → Nat → Nat → Int32 → Nat → Nat → zm_S → Option ((Int32 × zm_S) ⊕ (Unit × zm_S))} {q rc rs : Nat} {T : qm → qm → Prop} (hS : Sh L xs P S) (hM : qM P S = M) (hL : L < 2147483648) (hq : q + 7 ≤ L) (hr : 2 ≤ rc ∧ 12 ≤ rs) (hop : ∀ K, Fg 165263992197562149737978827008192759957101170741070304821162198818601447809077836456297302610087896506945974371580377038848 M K → oK2 cI (qf_L_wire 20000 (xs (q + 1)).toInt (xs (q + 2)).toInt (xs (q + 3)).toInt M) (qf_X18_wire 20000 (xs (q + 1)).toInt (xs (q + 2)).toInt (xs (q + 3)).toInt K) T) : ∃ S3 P3 M1 M2, Sh L xs P3 S3 ∧ qM P3 S3 = M2 ∧ Fg 165263992197562149737978827008192759957101170741070304821162198818601447809077836456297302610087896506945974371580377038848 M M1 ∧ Fg 509258994083621521567111422102344540262868559918121393561953316023428041223853832478392320 M1 M2 ∧ T M1 M2 ∧ zf_L_law_J3867 20000 k 0 6 2156 2332 (Int32.ofNat q) rc rs S = k 0 6 2156 2332 (Int32.ofNat q + 7) (rc - 2) (rs - 12) S3 := by
  obtain ⟨v, S1, u, S2, M1, M2, b, P1, P2, a1, a3, a4, c1, c3, c4, h0, hc, hu, f0, g0, hT⟩ := ld_callG (re_of (qz_L_wire (i1 := (xs (q + 1))) (i2 := (xs (q + 2))) (i3 := (xs (q + 3))) hS hM rfl rfl rfl)) (fun P1 S1 M1 s1 m1 => (re_of (qz_X18_wire (i1 := (xs (q + 1))) (i2 := (xs (q + 2))) (i3 := (xs (q + 3))) s1 m1 rfl rfl rfl))) (fr_L_wire Fg_refl) (fun M1 => fr_X18_wire Fg_refl) rfl hop
  obtain ⟨S3, s1, s2, s3⟩ := ld_tailI (v := v) (X := fun S3 => k 0 6 2156 2332 (Int32.ofNat q + 7) (rc - 2) (rs - 12) S3) c3 c4 h0 hc hu
  refine ⟨S3, P2, M1, M2, s1, s2, f0, g0, hT, ?_⟩
  unfold zf_L_law_J3867
  refine zb_to (sh_argk (k := 1) hS hL (by omega)) ?_
  refine zb_to (sh_argk (k := 2) hS hL (by omega)) ?_
  refine zb_to (sh_argk (k := 3) hS hL (by omega)) ?_
  rw [if_pos hr]
  refine zb_to a1 ?_
  refine zb_to (sh_argk (k := 1) a3 hL (by omega)) ?_
  refine zb_to (sh_argk (k := 2) a3 hL (by omega)) ?_
  refine zb_to (sh_argk (k := 3) a3 hL (by omega)) ?_
  refine zb_to (sh_zi a3) ?_
  refine zb_to c1 ?_
  exact s3

theorem lx_numbers {M : qm} {k : Nat → Nat → Nat → Nat → Int32 → Nat → Nat → zm_S → Option ((Int32 × zm_S) ⊕ (Unit × zm_S))} {q rc rs : Nat} {T : qm → qm → Prop} (hS : Sh L xs P S) (hM : qM P S = M) (hL : L < 2147483648) (hq : q + 7 ≤ L) (hr : 2 ≤ rc ∧ 12 ≤ rs) (hop : ∀ K, Fg 59421121885698253195157962752 M K → oK2 cU (qf_L_numbers 20000 (xs (q + 1)).toInt (xs (q + 2)).toInt (xs (q + 3)).toInt M) (qf_X18_numbers 20000 (xs (q + 1)).toInt (xs (q + 2)).toInt (xs (q + 3)).toInt K) T) : ∃ S3 P3 M1 M2, Sh L xs P3 S3 ∧ qM P3 S3 = M2 ∧ Fg 59421121885698253195157962752 M M1 ∧ Fg 190972122781358070587666783288379202598576623407818854400056370811805963135832472137236480 M1 M2 ∧ T M1 M2 ∧ zf_L_law_J3947 20000 k 0 6 2156 2332 (Int32.ofNat q) rc rs S = k 0 6 2156 2332 (Int32.ofNat q + 7) (rc - 2) (rs - 12) S3 := by
  obtain ⟨v, S1, u, S2, M1, M2, b, P1, P2, a1, a3, a4, c1, c3, c4, h0, hc, hu, f0, g0, hT⟩ := ld_callG (re_of (qz_L_numbers (i1 := (xs (q + 1))) (i2 := (xs (q + 2))) (i3 := (xs (q + 3))) hS hM rfl rfl rfl)) (fun P1 S1 M1 s1 m1 => (re_of (qz_X18_numbers (i1 := (xs (q + 1))) (i2 := (xs (q + 2))) (i3 := (xs (q + 3))) s1 m1 rfl rfl rfl))) (fr_L_numbers Fg_refl) (fun M1 => fr_X18_numbers Fg_refl) rfl hop
  obtain ⟨S3, s1, s2, s3⟩ := ld_tailU (v := v) (X := fun S3 => k 0 6 2156 2332 (Int32.ofNat q + 7) (rc - 2) (rs - 12) S3) c3 c4 h0
  refine ⟨S3, P2, M1, M2, s1, s2, f0, g0, hT, ?_⟩
  unfold zf_L_law_J3947
  refine zb_to (sh_argk (k := 1) hS hL (by omega)) ?_
  refine zb_to (sh_argk (k := 2) hS hL (by omega)) ?_
  refine zb_to (sh_argk (k := 3) hS hL (by omega)) ?_
  rw [if_pos hr]
  refine zb_to a1 ?_
  refine zb_to (sh_argk (k := 1) a3 hL (by omega)) ?_
  refine zb_to (sh_argk (k := 2) a3 hL (by omega)) ?_
  refine zb_to (sh_argk (k := 3) a3 hL (by omega)) ?_
  refine zb_to (sh_zi a3) ?_
  refine zb_to c1 ?_
  exact s3

theorem lx_row {M : qm} {k : Nat → Nat → Nat → Nat → Int32 → Nat → Nat → zm_S → Option ((Int32 × zm_S) ⊕ (Unit × zm_S))} {q rc rs : Nat} {T : qm → qm → Prop} (hS : Sh L xs P S) (hM : qM P S = M) (hL : L < 2147483648) (hq : q + 7 ≤ L) (hr : 2 ≤ rc ∧ 12 ≤ rs) (hop : ∀ K, Fg 165263992197562149737978827008192759957101170741070304821162198818601447809077836456297302611196471812126032407752542781440 M K → oK2 cI (qf_L_row 20000 (xs (q + 1)).toInt (xs (q + 2)).toInt (xs (q + 3)).toInt M) (qf_X18_row 20000 (xs (q + 1)).toInt (xs (q + 2)).toInt (xs (q + 3)).toInt K) T) : ∃ S3 P3 M1 M2, Sh L xs P3 S3 ∧ qM P3 S3 = M2 ∧ Fg 165263992197562149737978827008192759957101170741070304821162198818601447809077836456297302611196471812126032407752542781440 M M1 ∧ Fg 1018517988167243043134222844204689080525735658334605456220988428362023366164688009024241664 M1 M2 ∧ T M1 M2 ∧ zf_L_law_J4007 20000 k 0 6 2156 2332 (Int32.ofNat q) rc rs S = k 0 6 2156 2332 (Int32.ofNat q + 7) (rc - 2) (rs - 12) S3 := by
  obtain ⟨v, S1, u, S2, M1, M2, b, P1, P2, a1, a3, a4, c1, c3, c4, h0, hc, hu, f0, g0, hT⟩ := ld_callG (re_of (qz_L_row (i1 := (xs (q + 1))) (i2 := (xs (q + 2))) (i3 := (xs (q + 3))) hS hM rfl rfl rfl)) (fun P1 S1 M1 s1 m1 => (re_of (qz_X18_row (i1 := (xs (q + 1))) (i2 := (xs (q + 2))) (i3 := (xs (q + 3))) s1 m1 rfl rfl rfl))) (fr_L_row Fg_refl) (fun M1 => fr_X18_row Fg_refl) rfl hop
  obtain ⟨S3, s1, s2, s3⟩ := ld_tailI (v := v) (X := fun S3 => k 0 6 2156 2332 (Int32.ofNat q + 7) (rc - 2) (rs - 12) S3) c3 c4 h0 hc hu
  refine ⟨S3, P2, M1, M2, s1, s2, f0, g0, hT, ?_⟩
  unfold zf_L_law_J4007
  refine zb_to (sh_argk (k := 1) hS hL (by omega)) ?_
  refine zb_to (sh_argk (k := 2) hS hL (by omega)) ?_
  refine zb_to (sh_argk (k := 3) hS hL (by omega)) ?_
  rw [if_pos hr]
  refine zb_to a1 ?_
  refine zb_to (sh_argk (k := 1) a3 hL (by omega)) ?_
  refine zb_to (sh_argk (k := 2) a3 hL (by omega)) ?_
  refine zb_to (sh_argk (k := 3) a3 hL (by omega)) ?_
  refine zb_to (sh_zi a3) ?_
  refine zb_to c1 ?_
  exact s3

theorem lx_safe {M : qm} {k : Nat → Nat → Nat → Nat → Int32 → Nat → Nat → zm_S → Option ((Int32 × zm_S) ⊕ (Unit × zm_S))} {q rc rs : Nat} {T : qm → qm → Prop} (hS : Sh L xs P S) (hM : qM P S = M) (hL : L < 2147483648) (hq : q + 7 ≤ L) (hr : 2 ≤ rc ∧ 12 ≤ rs) (hop : ∀ K, Fg 165263992197562149737978827008192759957101170741070304821162198818601447809077836456297302610008049374412067343849383526400 M K → oK2 cI (qf_L_safe 20000 (xs (q + 1)).toInt (xs (q + 2)).toInt M) (qf_X18_safe 20000 (xs (q + 1)).toInt (xs (q + 2)).toInt K) T) : ∃ S3 P3 M1 M2, Sh L xs P3 S3 ∧ qM P3 S3 = M2 ∧ Fg 165263992197562149737978827008192759957101170741070304821162198818601447809077836456297302610008049374412067343849383526400 M M1 ∧ Fg 254629497041810760783555711051172270131435010709879362232435759854130378753436744205467648 M1 M2 ∧ T M1 M2 ∧ zf_L_law_J4087 20000 k 0 6 2156 2332 (Int32.ofNat q) rc rs S = k 0 6 2156 2332 (Int32.ofNat q + 7) (rc - 2) (rs - 12) S3 := by
  obtain ⟨v, S1, u, S2, M1, M2, b, P1, P2, a1, a3, a4, c1, c3, c4, h0, hc, hu, f0, g0, hT⟩ := ld_callG (re_of (qz_L_safe (i1 := (xs (q + 1))) (i2 := (xs (q + 2))) hS hM rfl rfl)) (fun P1 S1 M1 s1 m1 => (re_of (qz_X18_safe (i1 := (xs (q + 1))) (i2 := (xs (q + 2))) s1 m1 rfl rfl))) (fr_L_safe Fg_refl) (fun M1 => fr_X18_safe Fg_refl) rfl hop
  obtain ⟨S3, s1, s2, s3⟩ := ld_tailI (v := v) (X := fun S3 => k 0 6 2156 2332 (Int32.ofNat q + 7) (rc - 2) (rs - 12) S3) c3 c4 h0 hc hu
  refine ⟨S3, P2, M1, M2, s1, s2, f0, g0, hT, ?_⟩
  unfold zf_L_law_J4087
  refine zb_to (sh_argk (k := 1) hS hL (by omega)) ?_
  refine zb_to (sh_argk (k := 2) hS hL (by omega)) ?_
  rw [if_pos hr]
  refine zb_to a1 ?_
  refine zb_to (sh_argk (k := 1) a3 hL (by omega)) ?_
  refine zb_to (sh_argk (k := 2) a3 hL (by omega)) ?_
  refine zb_to (sh_zi a3) ?_
  refine zb_to c1 ?_
  exact s3

theorem lx_hand {M : qm} {k : Nat → Nat → Nat → Nat → Int32 → Nat → Nat → zm_S → Option ((Int32 × zm_S) ⊕ (Unit × zm_S))} {q rc rs : Nat} {T : qm → qm → Prop} (hS : Sh L xs P S) (hM : qM P S = M) (hL : L < 2147483648) (hq : q + 7 ≤ L) (hr : 2 ≤ rc ∧ 12 ≤ rs) (hop : ∀ K, Fg 165263992197562149737978827008192759957101170741070304821162198818601447809077836456297302617534724813267179415236058808320 M K → oK2 cB (qf_L_hand 20000 (xs (q + 1)).toInt (bzi (xs (q + 2))) (xs (q + 3)).toInt M) (qf_X18_hand 20000 (xs (q + 1)).toInt (bzi (xs (q + 2))) (xs (q + 3)).toInt K) T) : ∃ S3 P3 M1 M2, Sh L xs P3 S3 ∧ qM P3 S3 = M2 ∧ Fg 165263992197562149737978827008192759957101170741070304821162198818601447809077836456297302617534724813267179415236058808320 M M1 ∧ Fg 48888863432027666070442696521825075865235242909484107346170288988189983910603100604334080000 M1 M2 ∧ T M1 M2 ∧ zf_L_law_J4155 20000 k 0 6 2156 2332 (Int32.ofNat q) rc rs S = k 0 6 2156 2332 (Int32.ofNat q + 7) (rc - 2) (rs - 12) S3 := by
  obtain ⟨v, S1, u, S2, M1, M2, b, P1, P2, a1, a3, a4, c1, c3, c4, h0, hc, hu, f0, g0, hT⟩ := ld_callG (re_of (qz_L_hand (i1 := (xs (q + 1))) (i2 := (bz (xs (q + 2)))) (i3 := (xs (q + 3))) hS hM rfl bz_i rfl)) (fun P1 S1 M1 s1 m1 => (re_of (qz_X18_hand (i1 := (xs (q + 1))) (i2 := (bz (xs (q + 2)))) (i3 := (xs (q + 3))) s1 m1 rfl bz_i rfl))) (fr_L_hand Fg_refl) (fun M1 => fr_X18_hand Fg_refl) rfl hop
  obtain ⟨S3, s1, s2, s3⟩ := ld_tailB (v := v) (X := fun S3 => k 0 6 2156 2332 (Int32.ofNat q + 7) (rc - 2) (rs - 12) S3) c3 c4 h0 hc hu
  refine ⟨S3, P2, M1, M2, s1, s2, f0, g0, hT, ?_⟩
  unfold zf_L_law_J4155
  refine zb_to (sh_argk (k := 1) hS hL (by omega)) ?_
  refine zb_to (sh_argk (k := 2) hS hL (by omega)) ?_
  refine (bz_if (f := (fun b => zf_L_law_J4176 20000 k 0 6 2156 2332 (Int32.ofNat q) 6 (xs (q + 1)) b rc rs S))).trans ?_
  show zf_L_law_J4176 20000 k 0 6 2156 2332 (Int32.ofNat q) 6 (xs (q + 1)) (bz (xs (q + 2))) rc rs S = _
  unfold zf_L_law_J4176
  refine zb_to (sh_argk (k := 3) hS hL (by omega)) ?_
  rw [if_pos hr]
  refine zb_to a1 ?_
  refine zb_to (sh_argk (k := 1) a3 hL (by omega)) ?_
  refine zb_to (sh_argk (k := 2) a3 hL (by omega)) ?_
  refine (bz_if (f := (fun b => zf_L_law_J4209 20000 k 0 6 2156 2332 (Int32.ofNat q) v 2156 (xs (q + 1)) b (rc - 2) (rs - 12) S1))).trans ?_
  show zf_L_law_J4209 20000 k 0 6 2156 2332 (Int32.ofNat q) v 2156 (xs (q + 1)) (bz (xs (q + 2))) (rc - 2) (rs - 12) S1 = _
  unfold zf_L_law_J4209
  refine zb_to (sh_argk (k := 3) a3 hL (by omega)) ?_
  refine zb_to (sh_zi a3) ?_
  refine zb_to c1 ?_
  unfold zf_L_law_J4249
  exact s3

theorem lx_bind {M : qm} {k : Nat → Nat → Nat → Nat → Int32 → Nat → Nat → zm_S → Option ((Int32 × zm_S) ⊕ (Unit × zm_S))} {q rc rs : Nat} {T : qm → qm → Prop} (hS : Sh L xs P S) (hM : qM P S = M) (hL : L < 2147483648) (hq : q + 7 ≤ L) (hr : 2 ≤ rc ∧ 12 ≤ rs) (hop : ∀ K, Fg 165263992197562149737978827008192759957101170741070304821162198818601447809077836456297302620070026013723638218229465219072 M K → oK2 cI (qf_L_bind 20000 (xs (q + 1)).toInt (xs (q + 2)).toInt M) (qf_X18_bind 20000 (xs (q + 1)).toInt (xs (q + 2)).toInt K) T) : ∃ S3 P3 M1 M2, Sh L xs P3 S3 ∧ qM P3 S3 = M2 ∧ Fg 165263992197562149737978827008192759957101170741070304821162198818601447809077836456297302620070026013723638218229465219072 M M1 ∧ Fg 130370302485407109521180524058200202307293978656121557371615906962365235901136568851669975040 M1 M2 ∧ T M1 M2 ∧ zf_L_law_J4258 20000 k 0 6 2156 2332 (Int32.ofNat q) rc rs S = k 0 6 2156 2332 (Int32.ofNat q + 7) (rc - 2) (rs - 12) S3 := by
  obtain ⟨v, S1, u, S2, M1, M2, b, P1, P2, a1, a3, a4, c1, c3, c4, h0, hc, hu, f0, g0, hT⟩ := ld_callG (re_of (qz_L_bind (i1 := (xs (q + 1))) (i2 := (xs (q + 2))) hS hM rfl rfl)) (fun P1 S1 M1 s1 m1 => (re_of (qz_X18_bind (i1 := (xs (q + 1))) (i2 := (xs (q + 2))) s1 m1 rfl rfl))) (fr_L_bind Fg_refl) (fun M1 => fr_X18_bind Fg_refl) rfl hop
  obtain ⟨S3, s1, s2, s3⟩ := ld_tailI (v := v) (X := fun S3 => k 0 6 2156 2332 (Int32.ofNat q + 7) (rc - 2) (rs - 12) S3) c3 c4 h0 hc hu
  refine ⟨S3, P2, M1, M2, s1, s2, f0, g0, hT, ?_⟩
  unfold zf_L_law_J4258
  refine zb_to (sh_argk (k := 1) hS hL (by omega)) ?_
  refine zb_to (sh_argk (k := 2) hS hL (by omega)) ?_
  rw [if_pos hr]
  refine zb_to a1 ?_
  refine zb_to (sh_argk (k := 1) a3 hL (by omega)) ?_
  refine zb_to (sh_argk (k := 2) a3 hL (by omega)) ?_
  refine zb_to (sh_zi a3) ?_
  refine zb_to c1 ?_
  exact s3

theorem lx_point {M : qm} {k : Nat → Nat → Nat → Nat → Int32 → Nat → Nat → zm_S → Option ((Int32 × zm_S) ⊕ (Unit × zm_S))} {q rc rs : Nat} {T : qm → qm → Prop} (hS : Sh L xs P S) (hM : qM P S = M) (hL : L < 2147483648) (hq : q + 7 ≤ L) (hr : 2 ≤ rc ∧ 12 ≤ rs) (hop : ∀ K, Fg 165263992197562149737978827008192759957101170741070304821162198818601447809077836456297302630211230815549473430203090862080 M K → oK2 cI (qf_L_point 20000 (xs (q + 1)).toInt (xs (q + 2)).toInt M) (qf_X18_point 20000 (xs (q + 1)).toInt (xs (q + 2)).toInt K) T) : ∃ S3 P3 M1 M2, Sh L xs P3 S3 ∧ qM P3 S3 = M2 ∧ Fg 165263992197562149737978827008192759957101170741070304821162198818601447809077836456297302630211230815549473430203090862080 M M1 ∧ Fg 65185151242703554760590262029100101153646990058811597351259412583025034308709794253801259008 M1 M2 ∧ T M1 M2 ∧ zf_L_law_J4326 20000 k 0 6 2156 2332 (Int32.ofNat q) rc rs S = k 0 6 2156 2332 (Int32.ofNat q + 7) (rc - 2) (rs - 12) S3 := by
  obtain ⟨v, S1, u, S2, M1, M2, b, P1, P2, a1, a3, a4, c1, c3, c4, h0, hc, hu, f0, g0, hT⟩ := ld_callG (re_of (qz_L_point (i1 := (xs (q + 1))) (i2 := (xs (q + 2))) hS hM rfl rfl)) (fun P1 S1 M1 s1 m1 => (re_of (qz_X18_point (i1 := (xs (q + 1))) (i2 := (xs (q + 2))) s1 m1 rfl rfl))) (fr_L_point Fg_refl) (fun M1 => fr_X18_point Fg_refl) rfl hop
  obtain ⟨S3, s1, s2, s3⟩ := ld_tailI (v := v) (X := fun S3 => k 0 6 2156 2332 (Int32.ofNat q + 7) (rc - 2) (rs - 12) S3) c3 c4 h0 hc hu
  refine ⟨S3, P2, M1, M2, s1, s2, f0, g0, hT, ?_⟩
  unfold zf_L_law_J4326
  refine zb_to (sh_argk (k := 1) hS hL (by omega)) ?_
  refine zb_to (sh_argk (k := 2) hS hL (by omega)) ?_
  rw [if_pos hr]
  refine zb_to a1 ?_
  refine zb_to (sh_argk (k := 1) a3 hL (by omega)) ?_
  refine zb_to (sh_argk (k := 2) a3 hL (by omega)) ?_
  refine zb_to (sh_zi a3) ?_
  refine zb_to c1 ?_
  exact s3

theorem lx_pointAt {M : qm} {k : Nat → Nat → Nat → Nat → Int32 → Nat → Nat → zm_S → Option ((Int32 × zm_S) ⊕ (Unit × zm_S))} {q rc rs : Nat} {T : qm → qm → Prop} (hS : Sh L xs P S) (hM : qM P S = M) (hL : L < 2147483648) (hq : q + 7 ≤ L) (hr : 2 ≤ rc ∧ 12 ≤ rs) (hop : ∀ K, Fg 165263992197562149737978827008192759957101170741070304821162198818601447809077836456297302609928821211897803006255839576064 M K → oK2 cI (qf_L_pointAt 20000 (xs (q + 1)).toInt M) (qf_X18_pointAt 20000 (xs (q + 1)).toInt K) T) : ∃ S3 P3 M1 M2, Sh L xs P3 S3 ∧ qM P3 S3 = M2 ∧ Fg 165263992197562149737978827008192759957101170741070304821162198818601447809077836456297302609928821211897803006255839576064 M M1 ∧ Fg 1461501637330902918203684832716283019655932542976 M1 M2 ∧ T M1 M2 ∧ zf_L_law_J4394 20000 k 0 6 2156 2332 (Int32.ofNat q) rc rs S = k 0 6 2156 2332 (Int32.ofNat q + 7) (rc - 2) (rs - 12) S3 := by
  obtain ⟨v, S1, u, S2, M1, M2, b, P1, P2, a1, a3, a4, c1, c3, c4, h0, hc, hu, f0, g0, hT⟩ := ld_callG (re_of (qz_L_pointAt (i1 := (xs (q + 1))) hS hM rfl)) (fun P1 S1 M1 s1 m1 => (re_of (qz_X18_pointAt (i1 := (xs (q + 1))) s1 m1 rfl))) (fr_L_pointAt Fg_refl) (fun M1 => fr_X18_pointAt Fg_refl) rfl hop
  obtain ⟨S3, s1, s2, s3⟩ := ld_tailI (v := v) (X := fun S3 => k 0 6 2156 2332 (Int32.ofNat q + 7) (rc - 2) (rs - 12) S3) c3 c4 h0 hc hu
  refine ⟨S3, P2, M1, M2, s1, s2, f0, g0, hT, ?_⟩
  unfold zf_L_law_J4394
  refine zb_to (sh_argk (k := 1) hS hL (by omega)) ?_
  rw [if_pos hr]
  refine zb_to a1 ?_
  refine zb_to (sh_argk (k := 1) a3 hL (by omega)) ?_
  refine zb_to (sh_zi a3) ?_
  refine zb_to c1 ?_
  exact s3

theorem lx_order {M : qm} {k : Nat → Nat → Nat → Nat → Int32 → Nat → Nat → zm_S → Option ((Int32 × zm_S) ⊕ (Unit × zm_S))} {q rc rs : Nat} {T : qm → qm → Prop} (hS : Sh L xs P S) (hM : qM P S = M) (hL : L < 2147483648) (hq : q + 7 ≤ L) (hr : 1 ≤ rc ∧ 6 ≤ rs) (hop : ∀ K, Fg 165263992197562149737978827008192759957101170741070304821162198818601447809077836456297302731625135743866753620351695978496 M K → oK2 cI (qf_L_order 20000 M) (qf_X18_order 20000 K) T) : ∃ S3 P3 M1 M2, Sh L xs P3 S3 ∧ qM P3 S3 = M2 ∧ Fg 165263992197562149737978827008192759957101170741070304821162198818601447809077836456297302731625135743866753620351695978496 M M1 ∧ Fg 782221814912442657127083144349201213843763864629221157575180850755767251825404314830357135360 M1 M2 ∧ T M1 M2 ∧ zf_L_law_J4450 20000 k 0 6 2156 2332 (Int32.ofNat q) rc rs S = k 0 6 2156 2332 (Int32.ofNat q + 7) (rc - 1) (rs - 6) S3 := by
  obtain ⟨v, S1, u, S2, M1, M2, b, P1, P2, a1, a3, a4, c1, c3, c4, h0, hc, hu, f0, g0, hT⟩ := ld_callG (re_of (qz_L_order  hS hM)) (fun P1 S1 M1 s1 m1 => (re_of (qz_X18_order  s1 m1))) (fr_L_order Fg_refl) (fun M1 => fr_X18_order Fg_refl) rfl hop
  obtain ⟨S3, s1, s2, s3⟩ := ld_tailI (v := v) (X := fun S3 => k 0 6 2156 2332 (Int32.ofNat q + 7) (rc - 1) (rs - 6) S3) c3 c4 h0 hc hu
  refine ⟨S3, P2, M1, M2, s1, s2, f0, g0, hT, ?_⟩
  unfold zf_L_law_J4450
  rw [if_pos hr]
  refine zb_to a1 ?_
  refine zb_to (sh_zi a3) ?_
  refine zb_to c1 ?_
  exact s3

theorem lx_out {M : qm} {k : Nat → Nat → Nat → Nat → Int32 → Nat → Nat → zm_S → Option ((Int32 × zm_S) ⊕ (Unit × zm_S))} {q rc rs : Nat} {T : qm → qm → Prop} (hS : Sh L xs P S) (hM : qM P S = M) (hL : L < 2147483648) (hq : q + 7 ≤ L) (hr : 2 ≤ rc ∧ 12 ≤ rs) (hop : ∀ K, Fg 165263992197562149737978827008192759957101170741070304821162198818601447809077836456297302731625135743866753620351695978496 M K → oK2 cI (qf_L_out 20000 (xs (q + 1)).toInt (xs (q + 2)).toInt M) (qf_X18_out 20000 (xs (q + 1)).toInt (xs (q + 2)).toInt K) T) : ∃ S3 P3 M1 M2, Sh L xs P3 S3 ∧ qM P3 S3 = M2 ∧ Fg 165263992197562149737978827008192759957101170741070304821162198818601447809077836456297302731625135743866753620351695978496 M M1 ∧ Fg 782221814912442657127083144349201213843763864629221157575180850755767251825404314830357135360 M1 M2 ∧ T M1 M2 ∧ zf_L_law_J4494 20000 k 0 6 2156 2332 (Int32.ofNat q) rc rs S = k 0 6 2156 2332 (Int32.ofNat q + 7) (rc - 2) (rs - 12) S3 := by
  obtain ⟨v, S1, u, S2, M1, M2, b, P1, P2, a1, a3, a4, c1, c3, c4, h0, hc, hu, f0, g0, hT⟩ := ld_callG (re_of (qz_L_out (i1 := (xs (q + 1))) (i2 := (xs (q + 2))) hS hM rfl rfl)) (fun P1 S1 M1 s1 m1 => (re_of (qz_X18_out (i1 := (xs (q + 1))) (i2 := (xs (q + 2))) s1 m1 rfl rfl))) (fr_L_out Fg_refl) (fun M1 => fr_X18_out Fg_refl) rfl hop
  obtain ⟨S3, s1, s2, s3⟩ := ld_tailI (v := v) (X := fun S3 => k 0 6 2156 2332 (Int32.ofNat q + 7) (rc - 2) (rs - 12) S3) c3 c4 h0 hc hu
  refine ⟨S3, P2, M1, M2, s1, s2, f0, g0, hT, ?_⟩
  unfold zf_L_law_J4494
  refine zb_to (sh_argk (k := 1) hS hL (by omega)) ?_
  refine zb_to (sh_argk (k := 2) hS hL (by omega)) ?_
  rw [if_pos hr]
  refine zb_to a1 ?_
  refine zb_to (sh_argk (k := 1) a3 hL (by omega)) ?_
  refine zb_to (sh_argk (k := 2) a3 hL (by omega)) ?_
  refine zb_to (sh_zi a3) ?_
  refine zb_to c1 ?_
  exact s3

theorem lx_failed {M : qm} {k : Nat → Nat → Nat → Nat → Int32 → Nat → Nat → zm_S → Option ((Int32 × zm_S) ⊕ (Unit × zm_S))} {q rc rs : Nat} {T : qm → qm → Prop} (hS : Sh L xs P S) (hM : qM P S = M) (hL : L < 2147483648) (hq : q + 7 ≤ L) (hr : 2 ≤ rc ∧ 12 ≤ rs) (hop : ∀ K, Fg 165263992197562149737978827008192759957101170741070304821162198818601447809077836456297302609928821211897803006255839576064 M K → oK2 cI (qf_L_failed 20000 (xs (q + 1)).toInt M) (qf_X18_failed 20000 (xs (q + 1)).toInt K) T) : ∃ S3 P3 M1 M2, Sh L xs P3 S3 ∧ qM P3 S3 = M2 ∧ Fg 165263992197562149737978827008192759957101170741070304821162198818601447809077836456297302609928821211897803006255839576064 M M1 ∧ Fg 1461501637330902918203684832716283019655932542976 M1 M2 ∧ T M1 M2 ∧ zf_L_law_J4562 20000 k 0 6 2156 2332 (Int32.ofNat q) rc rs S = k 0 6 2156 2332 (Int32.ofNat q + 7) (rc - 2) (rs - 12) S3 := by
  obtain ⟨v, S1, u, S2, M1, M2, b, P1, P2, a1, a3, a4, c1, c3, c4, h0, hc, hu, f0, g0, hT⟩ := ld_callG (re_of (qz_L_failed (i1 := (xs (q + 1))) hS hM rfl)) (fun P1 S1 M1 s1 m1 => (re_of (qz_X18_failed (i1 := (xs (q + 1))) s1 m1 rfl))) (fr_L_failed Fg_refl) (fun M1 => fr_X18_failed Fg_refl) rfl hop
  obtain ⟨S3, s1, s2, s3⟩ := ld_tailI (v := v) (X := fun S3 => k 0 6 2156 2332 (Int32.ofNat q + 7) (rc - 2) (rs - 12) S3) c3 c4 h0 hc hu
  refine ⟨S3, P2, M1, M2, s1, s2, f0, g0, hT, ?_⟩
  unfold zf_L_law_J4562
  refine zb_to (sh_argk (k := 1) hS hL (by omega)) ?_
  rw [if_pos hr]
  refine zb_to a1 ?_
  refine zb_to (sh_argk (k := 1) a3 hL (by omega)) ?_
  refine zb_to (sh_zi a3) ?_
  refine zb_to c1 ?_
  exact s3

theorem lx_address {M : qm} {k : Nat → Nat → Nat → Nat → Int32 → Nat → Nat → zm_S → Option ((Int32 × zm_S) ⊕ (Unit × zm_S))} {q rc rs : Nat} {T : qm → qm → Prop} (hS : Sh L xs P S) (hM : qM P S = M) (hL : L < 2147483648) (hq : q + 7 ≤ L) (hr : 2 ≤ rc ∧ 12 ≤ rs) (hop : ∀ K, Fg 165263992197562149737978827008192759957101170741070304821162198818601447809077836456297967223926713669834254909785979748352 M K → oK2 cI (qf_L_address 20000 (xs (q + 1)).toInt (xs (q + 2)).toInt M) (qf_X18_address 20000 (xs (q + 1)).toInt (xs (q + 2)).toInt K) T) : ∃ S3 P3 M1 M2, Sh L xs P3 S3 ∧ qM P3 S3 = M2 ∧ Fg 165263992197562149737978827008192759957101170741070304821162198818601447809077836456297967223926713669834254909785979748352 M M1 ∧ Fg 34175792574734561318320347298712833833643272357707905820789996628073719297322965083387049323528192 M1 M2 ∧ T M1 M2 ∧ zf_L_law_J4618 20000 k 0 6 2156 2332 (Int32.ofNat q) rc rs S = k 0 6 2156 2332 (Int32.ofNat q + 7) (rc - 2) (rs - 12) S3 := by
  obtain ⟨v, S1, u, S2, M1, M2, b, P1, P2, a1, a3, a4, c1, c3, c4, h0, hc, hu, f0, g0, hT⟩ := ld_callG (re_of (qz_L_address (i1 := (xs (q + 1))) (i2 := (xs (q + 2))) hS hM rfl rfl)) (fun P1 S1 M1 s1 m1 => (re_of (qz_X18_address (i1 := (xs (q + 1))) (i2 := (xs (q + 2))) s1 m1 rfl rfl))) (fr_L_address Fg_refl) (fun M1 => fr_X18_address Fg_refl) rfl hop
  obtain ⟨S3, s1, s2, s3⟩ := ld_tailI (v := v) (X := fun S3 => k 0 6 2156 2332 (Int32.ofNat q + 7) (rc - 2) (rs - 12) S3) c3 c4 h0 hc hu
  refine ⟨S3, P2, M1, M2, s1, s2, f0, g0, hT, ?_⟩
  unfold zf_L_law_J4618
  refine zb_to (sh_argk (k := 1) hS hL (by omega)) ?_
  refine zb_to (sh_argk (k := 2) hS hL (by omega)) ?_
  rw [if_pos hr]
  refine zb_to a1 ?_
  refine zb_to (sh_argk (k := 1) a3 hL (by omega)) ?_
  refine zb_to (sh_argk (k := 2) a3 hL (by omega)) ?_
  refine zb_to (sh_zi a3) ?_
  refine zb_to c1 ?_
  exact s3

theorem lx_listen {M : qm} {k : Nat → Nat → Nat → Nat → Int32 → Nat → Nat → zm_S → Option ((Int32 × zm_S) ⊕ (Unit × zm_S))} {q rc rs : Nat} {T : qm → qm → Prop} (hS : Sh L xs P S) (hM : qM P S = M) (hL : L < 2147483648) (hq : q + 7 ≤ L) (hr : 2 ≤ rc ∧ 12 ≤ rs) (hop : ∀ K, Fg 165263992197562149737978827008192759957101170741070304821162198818601447809077836456302619521911960875389418234496960954368 M K → oK2 cB (qf_L_listen 20000 (xs (q + 1)).toInt (xs (q + 2)).toInt (bzi (xs (q + 3))) M) (qf_X18_listen 20000 (xs (q + 1)).toInt (xs (q + 2)).toInt (bzi (xs (q + 3))) K) T) : ∃ S3 P3 M1 M2, Sh L xs P3 S3 ∧ qM P3 S3 = M2 ∧ Fg 165263992197562149737978827008192759957101170741070304821162198818601447809077836456302619521911960875389418234496960954368 M M1 ∧ Fg 68351585149469122636640694597425667667286544715414350139942662353229234909813213883754442714513408 M1 M2 ∧ T M1 M2 ∧ zf_L_law_J4686 20000 k 0 6 2156 2332 (Int32.ofNat q) rc rs S = k 0 6 2156 2332 (Int32.ofNat q + 7) (rc - 2) (rs - 12) S3 := by
  obtain ⟨v, S1, u, S2, M1, M2, b, P1, P2, a1, a3, a4, c1, c3, c4, h0, hc, hu, f0, g0, hT⟩ := ld_callG (re_of (qz_L_listen (i1 := (xs (q + 1))) (i2 := (xs (q + 2))) (i3 := (bz (xs (q + 3)))) hS hM rfl rfl bz_i)) (fun P1 S1 M1 s1 m1 => (re_of (qz_X18_listen (i1 := (xs (q + 1))) (i2 := (xs (q + 2))) (i3 := (bz (xs (q + 3)))) s1 m1 rfl rfl bz_i))) (fr_L_listen Fg_refl) (fun M1 => fr_X18_listen Fg_refl) rfl hop
  obtain ⟨S3, s1, s2, s3⟩ := ld_tailB (v := v) (X := fun S3 => k 0 6 2156 2332 (Int32.ofNat q + 7) (rc - 2) (rs - 12) S3) c3 c4 h0 hc hu
  refine ⟨S3, P2, M1, M2, s1, s2, f0, g0, hT, ?_⟩
  unfold zf_L_law_J4686
  refine zb_to (sh_argk (k := 1) hS hL (by omega)) ?_
  refine zb_to (sh_argk (k := 2) hS hL (by omega)) ?_
  refine zb_to (sh_argk (k := 3) hS hL (by omega)) ?_
  refine (bz_if (f := (fun b => zf_L_law_J4713 20000 k 0 6 2156 2332 (Int32.ofNat q) 6 (xs (q + 1)) (xs (q + 2)) b rc rs S))).trans ?_
  show zf_L_law_J4713 20000 k 0 6 2156 2332 (Int32.ofNat q) 6 (xs (q + 1)) (xs (q + 2)) (bz (xs (q + 3))) rc rs S = _
  unfold zf_L_law_J4713
  rw [if_pos hr]
  refine zb_to a1 ?_
  refine zb_to (sh_argk (k := 1) a3 hL (by omega)) ?_
  refine zb_to (sh_argk (k := 2) a3 hL (by omega)) ?_
  refine zb_to (sh_argk (k := 3) a3 hL (by omega)) ?_
  refine (bz_if (f := (fun b => zf_L_law_J4746 20000 k 0 6 2156 2332 (Int32.ofNat q) v 2156 (xs (q + 1)) (xs (q + 2)) b (rc - 2) (rs - 12) S1))).trans ?_
  show zf_L_law_J4746 20000 k 0 6 2156 2332 (Int32.ofNat q) v 2156 (xs (q + 1)) (xs (q + 2)) (bz (xs (q + 3))) (rc - 2) (rs - 12) S1 = _
  unfold zf_L_law_J4746
  refine zb_to (sh_zi a3) ?_
  refine zb_to c1 ?_
  unfold zf_L_law_J4780
  exact s3

theorem lx_busy {M : qm} {k : Nat → Nat → Nat → Nat → Int32 → Nat → Nat → zm_S → Option ((Int32 × zm_S) ⊕ (Unit × zm_S))} {q rc rs : Nat} {T : qm → qm → Prop} (hS : Sh L xs P S) (hM : qM P S = M) (hL : L < 2147483648) (hq : q + 7 ≤ L) (hr : 2 ≤ rc ∧ 12 ≤ rs) (hop : ∀ K, Fg 165263992197562149737978827008192759957101170741070304821162198818601447809077836456297967223926713669834254909785979748352 M K → oK2 cB (qf_L_busy 20000 (xs (q + 1)).toInt (bzi (xs (q + 2))) M) (qf_X18_busy 20000 (xs (q + 1)).toInt (bzi (xs (q + 2))) K) T) : ∃ S3 P3 M1 M2, Sh L xs P3 S3 ∧ qM P3 S3 = M2 ∧ Fg 165263992197562149737978827008192759957101170741070304821162198818601447809077836456297967223926713669834254909785979748352 M M1 ∧ Fg 136703170298938245273281389194851335334573089430827238778247993803540266134793711484489229496483840 M1 M2 ∧ T M1 M2 ∧ zf_L_law_J4789 20000 k 0 6 2156 2332 (Int32.ofNat q) rc rs S = k 0 6 2156 2332 (Int32.ofNat q + 7) (rc - 2) (rs - 12) S3 := by
  obtain ⟨v, S1, u, S2, M1, M2, b, P1, P2, a1, a3, a4, c1, c3, c4, h0, hc, hu, f0, g0, hT⟩ := ld_callG (re_of (qz_L_busy (i1 := (xs (q + 1))) (i2 := (bz (xs (q + 2)))) hS hM rfl bz_i)) (fun P1 S1 M1 s1 m1 => (re_of (qz_X18_busy (i1 := (xs (q + 1))) (i2 := (bz (xs (q + 2)))) s1 m1 rfl bz_i))) (fr_L_busy Fg_refl) (fun M1 => fr_X18_busy Fg_refl) rfl hop
  obtain ⟨S3, s1, s2, s3⟩ := ld_tailB (v := v) (X := fun S3 => k 0 6 2156 2332 (Int32.ofNat q + 7) (rc - 2) (rs - 12) S3) c3 c4 h0 hc hu
  refine ⟨S3, P2, M1, M2, s1, s2, f0, g0, hT, ?_⟩
  unfold zf_L_law_J4789
  refine zb_to (sh_argk (k := 1) hS hL (by omega)) ?_
  refine zb_to (sh_argk (k := 2) hS hL (by omega)) ?_
  refine (bz_if (f := (fun b => zf_L_law_J4810 20000 k 0 6 2156 2332 (Int32.ofNat q) 6 (xs (q + 1)) b rc rs S))).trans ?_
  show zf_L_law_J4810 20000 k 0 6 2156 2332 (Int32.ofNat q) 6 (xs (q + 1)) (bz (xs (q + 2))) rc rs S = _
  unfold zf_L_law_J4810
  rw [if_pos hr]
  refine zb_to a1 ?_
  refine zb_to (sh_argk (k := 1) a3 hL (by omega)) ?_
  refine zb_to (sh_argk (k := 2) a3 hL (by omega)) ?_
  refine (bz_if (f := (fun b => zf_L_law_J4837 20000 k 0 6 2156 2332 (Int32.ofNat q) v 2156 (xs (q + 1)) b (rc - 2) (rs - 12) S1))).trans ?_
  show zf_L_law_J4837 20000 k 0 6 2156 2332 (Int32.ofNat q) v 2156 (xs (q + 1)) (bz (xs (q + 2))) (rc - 2) (rs - 12) S1 = _
  unfold zf_L_law_J4837
  refine zb_to (sh_zi a3) ?_
  refine zb_to c1 ?_
  unfold zf_L_law_J4871
  exact s3

theorem lx_send {M : qm} {k : Nat → Nat → Nat → Nat → Int32 → Nat → Nat → zm_S → Option ((Int32 × zm_S) ⊕ (Unit × zm_S))} {q rc rs : Nat} {T : qm → qm → Prop} (hS : Sh L xs P S) (hM : qM P S = M) (hL : L < 2147483648) (hq : q + 7 ≤ L) (hr : 3 ≤ rc ∧ 18 ≤ rs) (hop : ∀ K, Fg 165263992197562149737978827008192759957101170741070304821162198818601447809077836456299296451922498585707158716846260092928 M K → oK2 cI (qf_L_send 20000 (xs (q + 1)).toInt (xs (q + 2)).toInt (xs (q + 3)).toInt (bzi (xs (q + 4))) (xs (q + 5)).toInt (xs (q + 6)).toInt M) (qf_X18_send 20000 (xs (q + 1)).toInt (xs (q + 2)).toInt (xs (q + 3)).toInt (bzi (xs (q + 4))) (xs (q + 5)).toInt (xs (q + 6)).toInt K) T) : ∃ S3 P3 M1 M2, Sh L xs P3 S3 ∧ qM P3 S3 = M2 ∧ Fg 165263992197562149737978827008192759957101170741070304821162198818601447809077836456299296451922498585707158716846260092928 M M1 ∧ Fg 820219021793629471639688335169108012007438536584956125161301308306650578384598687491837097316188160 M1 M2 ∧ T M1 M2 ∧ zf_L_law_J4880 20000 k 0 6 2156 2332 (Int32.ofNat q) rc rs S = k 0 6 2156 2332 (Int32.ofNat q + 7) (rc - 3) (rs - 18) S3 := by
  obtain ⟨v, S1, u, S2, M1, M2, b, P1, P2, a1, a3, a4, c1, c3, c4, h0, hc, hu, f0, g0, hT⟩ := ld_callG (re_of (qz_L_send (i1 := (xs (q + 1))) (i2 := (xs (q + 2))) (i3 := (xs (q + 3))) (i4 := (bz (xs (q + 4)))) (i5 := (xs (q + 5))) (i6 := (xs (q + 6))) hS hM rfl rfl rfl bz_i rfl rfl)) (fun P1 S1 M1 s1 m1 => (re_of (qz_X18_send (i1 := (xs (q + 1))) (i2 := (xs (q + 2))) (i3 := (xs (q + 3))) (i4 := (bz (xs (q + 4)))) (i5 := (xs (q + 5))) (i6 := (xs (q + 6))) s1 m1 rfl rfl rfl bz_i rfl rfl))) (fr_L_send Fg_refl) (fun M1 => fr_X18_send Fg_refl) rfl hop
  obtain ⟨S3, s1, s2, s3⟩ := ld_tailI (v := v) (X := fun S3 => k 0 6 2156 2332 (Int32.ofNat q + 7) (rc - 3) (rs - 18) S3) c3 c4 h0 hc hu
  refine ⟨S3, P2, M1, M2, s1, s2, f0, g0, hT, ?_⟩
  unfold zf_L_law_J4880
  refine zb_to (sh_argk (k := 1) hS hL (by omega)) ?_
  refine zb_to (sh_argk (k := 2) hS hL (by omega)) ?_
  refine zb_to (sh_argk (k := 3) hS hL (by omega)) ?_
  refine zb_to (sh_argk (k := 4) hS hL (by omega)) ?_
  refine (bz_if (f := (fun b => zf_L_law_J4913 20000 k 0 6 2156 2332 (Int32.ofNat q) 6 (xs (q + 1)) (xs (q + 2)) (xs (q + 3)) b rc rs S))).trans ?_
  show zf_L_law_J4913 20000 k 0 6 2156 2332 (Int32.ofNat q) 6 (xs (q + 1)) (xs (q + 2)) (xs (q + 3)) (bz (xs (q + 4))) rc rs S = _
  unfold zf_L_law_J4913
  refine zb_to (sh_argk (k := 5) hS hL (by omega)) ?_
  refine zb_to (sh_argk (k := 6) hS hL (by omega)) ?_
  rw [if_pos hr]
  refine zb_to a1 ?_
  refine zb_to (sh_argk (k := 1) a3 hL (by omega)) ?_
  refine zb_to (sh_argk (k := 2) a3 hL (by omega)) ?_
  refine zb_to (sh_argk (k := 3) a3 hL (by omega)) ?_
  refine zb_to (sh_argk (k := 4) a3 hL (by omega)) ?_
  refine (bz_if (f := (fun b => zf_L_law_J4965 20000 k 0 6 2156 2332 (Int32.ofNat q) v 2156 (xs (q + 1)) (xs (q + 2)) (xs (q + 3)) b (rc - 3) (rs - 18) S1))).trans ?_
  show zf_L_law_J4965 20000 k 0 6 2156 2332 (Int32.ofNat q) v 2156 (xs (q + 1)) (xs (q + 2)) (xs (q + 3)) (bz (xs (q + 4))) (rc - 3) (rs - 18) S1 = _
  unfold zf_L_law_J4965
  refine zb_to (sh_argk (k := 5) a3 hL (by omega)) ?_
  refine zb_to (sh_argk (k := 6) a3 hL (by omega)) ?_
  refine zb_to (sh_zi a3) ?_
  refine zb_to c1 ?_
  exact s3

theorem lx_disturb {M : qm} {k : Nat → Nat → Nat → Nat → Int32 → Nat → Nat → zm_S → Option ((Int32 × zm_S) ⊕ (Unit × zm_S))} {q rc rs : Nat} {T : qm → qm → Prop} (hS : Sh L xs P S) (hM : qM P S = M) (hL : L < 2147483648) (hq : q + 7 ≤ L) (hr : 2 ≤ rc ∧ 12 ≤ rs) (hop : ∀ K, Fg 165263992197562149737978827008192759957101170741070304821162198818601447809077836456307937731969315172587940595362164637696 M K → oK2 cB (qf_L_disturb 20000 (xs (q + 1)).toInt M) (qf_X18_disturb 20000 (xs (q + 1)).toInt K) T) : ∃ S3 P3 M1 M2, Sh L xs P3 S3 ∧ qM P3 S3 = M2 ∧ Fg 165263992197562149737978827008192759957101170741070304821162198818601447809077836456307937731969315172587940595362164637696 M M1 ∧ Fg 17092068137046813686664851426126279323295469586124911498654966581136239263979755996777616225861632 M1 M2 ∧ T M1 M2 ∧ zf_L_law_J5014 20000 k 0 6 2156 2332 (Int32.ofNat q) rc rs S = k 0 6 2156 2332 (Int32.ofNat q + 7) (rc - 2) (rs - 12) S3 := by
  obtain ⟨v, S1, u, S2, M1, M2, b, P1, P2, a1, a3, a4, c1, c3, c4, h0, hc, hu, f0, g0, hT⟩ := ld_callG (re_of (qz_L_disturb (i1 := (xs (q + 1))) hS hM rfl)) (fun P1 S1 M1 s1 m1 => (re_of (qz_X18_disturb (i1 := (xs (q + 1))) s1 m1 rfl))) (fr_L_disturb Fg_refl) (fun M1 => fr_X18_disturb Fg_refl) rfl hop
  obtain ⟨S3, s1, s2, s3⟩ := ld_tailB (v := v) (X := fun S3 => k 0 6 2156 2332 (Int32.ofNat q + 7) (rc - 2) (rs - 12) S3) c3 c4 h0 hc hu
  refine ⟨S3, P2, M1, M2, s1, s2, f0, g0, hT, ?_⟩
  unfold zf_L_law_J5014
  refine zb_to (sh_argk (k := 1) hS hL (by omega)) ?_
  rw [if_pos hr]
  refine zb_to a1 ?_
  refine zb_to (sh_argk (k := 1) a3 hL (by omega)) ?_
  refine zb_to (sh_zi a3) ?_
  refine zb_to c1 ?_
  unfold zf_L_law_J5068
  exact s3

theorem lx_station {M : qm} {k : Nat → Nat → Nat → Nat → Int32 → Nat → Nat → zm_S → Option ((Int32 × zm_S) ⊕ (Unit × zm_S))} {q rc rs : Nat} {T : qm → qm → Prop} (hS : Sh L xs P S) (hM : qM P S = M) (hL : L < 2147483648) (hq : q + 7 ≤ L) (hr : 2 ≤ rc ∧ 12 ≤ rs) (hop : ∀ K, Fg 165263992197562149737978827008192759957101170741070304821162198818601447809077836456297302609928821211897803006255839576064 M K → oK2 cI (qf_L_station 20000 (xs (q + 1)).toInt (xs (q + 2)).toInt M) (qf_X18_station 20000 (xs (q + 1)).toInt (xs (q + 2)).toInt K) T) : ∃ S3 P3 M1 M2, Sh L xs P3 S3 ∧ qM P3 S3 = M2 ∧ Fg 165263992197562149737978827008192759957101170741070304821162198818601447809077836456297302609928821211897803006255839576064 M M1 ∧ Fg 1461501637330902918203684832716283019655932542976 M1 M2 ∧ T M1 M2 ∧ zf_L_law_J5077 20000 k 0 6 2156 2332 (Int32.ofNat q) rc rs S = k 0 6 2156 2332 (Int32.ofNat q + 7) (rc - 2) (rs - 12) S3 := by
  obtain ⟨v, S1, u, S2, M1, M2, b, P1, P2, a1, a3, a4, c1, c3, c4, h0, hc, hu, f0, g0, hT⟩ := ld_callG (re_of (qz_L_station (i1 := (xs (q + 1))) (i2 := (xs (q + 2))) hS hM rfl rfl)) (fun P1 S1 M1 s1 m1 => (re_of (qz_X18_station (i1 := (xs (q + 1))) (i2 := (xs (q + 2))) s1 m1 rfl rfl))) (fr_L_station Fg_refl) (fun M1 => fr_X18_station Fg_refl) rfl hop
  obtain ⟨S3, s1, s2, s3⟩ := ld_tailI (v := v) (X := fun S3 => k 0 6 2156 2332 (Int32.ofNat q + 7) (rc - 2) (rs - 12) S3) c3 c4 h0 hc hu
  refine ⟨S3, P2, M1, M2, s1, s2, f0, g0, hT, ?_⟩
  unfold zf_L_law_J5077
  refine zb_to (sh_argk (k := 1) hS hL (by omega)) ?_
  refine zb_to (sh_argk (k := 2) hS hL (by omega)) ?_
  rw [if_pos hr]
  refine zb_to a1 ?_
  refine zb_to (sh_argk (k := 1) a3 hL (by omega)) ?_
  refine zb_to (sh_argk (k := 2) a3 hL (by omega)) ?_
  refine zb_to (sh_zi a3) ?_
  refine zb_to c1 ?_
  exact s3

theorem lx_heard {M : qm} {k : Nat → Nat → Nat → Nat → Int32 → Nat → Nat → zm_S → Option ((Int32 × zm_S) ⊕ (Unit × zm_S))} {q rc rs : Nat} {T : qm → qm → Prop} (hS : Sh L xs P S) (hM : qM P S = M) (hL : L < 2147483648) (hq : q + 7 ≤ L) (hr : 2 ≤ rc ∧ 12 ≤ rs) (hop : ∀ K, Fg 165263992197562149737978827008192759957101170741070304821162198818601447809077836456297302609928821211897803006255839576064 M K → oK2 cI (qf_L_heard 20000 (xs (q + 1)).toInt M) (qf_X18_heard 20000 (xs (q + 1)).toInt K) T) : ∃ S3 P3 M1 M2, Sh L xs P3 S3 ∧ qM P3 S3 = M2 ∧ Fg 165263992197562149737978827008192759957101170741070304821162198818601447809077836456297302609928821211897803006255839576064 M M1 ∧ Fg 1461501637330902918203684832716283019655932542976 M1 M2 ∧ T M1 M2 ∧ zf_L_law_J5145 20000 k 0 6 2156 2332 (Int32.ofNat q) rc rs S = k 0 6 2156 2332 (Int32.ofNat q + 7) (rc - 2) (rs - 12) S3 := by
  obtain ⟨v, S1, u, S2, M1, M2, b, P1, P2, a1, a3, a4, c1, c3, c4, h0, hc, hu, f0, g0, hT⟩ := ld_callG (re_of (qz_L_heard (i1 := (xs (q + 1))) hS hM rfl)) (fun P1 S1 M1 s1 m1 => (re_of (qz_X18_heard (i1 := (xs (q + 1))) s1 m1 rfl))) (fr_L_heard Fg_refl) (fun M1 => fr_X18_heard Fg_refl) rfl hop
  obtain ⟨S3, s1, s2, s3⟩ := ld_tailI (v := v) (X := fun S3 => k 0 6 2156 2332 (Int32.ofNat q + 7) (rc - 2) (rs - 12) S3) c3 c4 h0 hc hu
  refine ⟨S3, P2, M1, M2, s1, s2, f0, g0, hT, ?_⟩
  unfold zf_L_law_J5145
  refine zb_to (sh_argk (k := 1) hS hL (by omega)) ?_
  rw [if_pos hr]
  refine zb_to a1 ?_
  refine zb_to (sh_argk (k := 1) a3 hL (by omega)) ?_
  refine zb_to (sh_zi a3) ?_
  refine zb_to c1 ?_
  exact s3

theorem lx_byteAt {M : qm} {k : Nat → Nat → Nat → Nat → Int32 → Nat → Nat → zm_S → Option ((Int32 × zm_S) ⊕ (Unit × zm_S))} {q rc rs : Nat} {T : qm → qm → Prop} (hS : Sh L xs P S) (hM : qM P S = M) (hL : L < 2147483648) (hq : q + 7 ≤ L) (hr : 2 ≤ rc ∧ 12 ≤ rs) (hop : ∀ K, Fg 165263992197562149737978827008192759957101170741070304821162198818601447809077836456297302609928821211897803006255839576064 M K → oK2 cI (qf_L_byteAt 20000 (xs (q + 1)).toInt M) (qf_X18_byteAt 20000 (xs (q + 1)).toInt K) T) : ∃ S3 P3 M1 M2, Sh L xs P3 S3 ∧ qM P3 S3 = M2 ∧ Fg 165263992197562149737978827008192759957101170741070304821162198818601447809077836456297302609928821211897803006255839576064 M M1 ∧ Fg 1461501637330902918203684832716283019655932542976 M1 M2 ∧ T M1 M2 ∧ zf_L_law_J5201 20000 k 0 6 2156 2332 (Int32.ofNat q) rc rs S = k 0 6 2156 2332 (Int32.ofNat q + 7) (rc - 2) (rs - 12) S3 := by
  obtain ⟨v, S1, u, S2, M1, M2, b, P1, P2, a1, a3, a4, c1, c3, c4, h0, hc, hu, f0, g0, hT⟩ := ld_callG (re_of (qz_L_byteAt (i1 := (xs (q + 1))) hS hM rfl)) (fun P1 S1 M1 s1 m1 => (re_of (qz_X18_byteAt (i1 := (xs (q + 1))) s1 m1 rfl))) (fr_L_byteAt Fg_refl) (fun M1 => fr_X18_byteAt Fg_refl) rfl hop
  obtain ⟨S3, s1, s2, s3⟩ := ld_tailI (v := v) (X := fun S3 => k 0 6 2156 2332 (Int32.ofNat q + 7) (rc - 2) (rs - 12) S3) c3 c4 h0 hc hu
  refine ⟨S3, P2, M1, M2, s1, s2, f0, g0, hT, ?_⟩
  unfold zf_L_law_J5201
  refine zb_to (sh_argk (k := 1) hS hL (by omega)) ?_
  rw [if_pos hr]
  refine zb_to a1 ?_
  refine zb_to (sh_argk (k := 1) a3 hL (by omega)) ?_
  refine zb_to (sh_zi a3) ?_
  refine zb_to c1 ?_
  exact s3

theorem lx_car {M : qm} {k : Nat → Nat → Nat → Nat → Int32 → Nat → Nat → zm_S → Option ((Int32 × zm_S) ⊕ (Unit × zm_S))} {q rc rs : Nat} {T : qm → qm → Prop} (hS : Sh L xs P S) (hM : qM P S = M) (hL : L < 2147483648) (hq : q + 7 ≤ L) (hr : 2 ≤ rc ∧ 12 ≤ rs) (hop : ∀ K, Fg 165263992197562149737978827008192759957101170741070304821162198818601447809079286004735207100433021033585525149753728303104 M K → oK2 cI (qf_L_car 20000 (xs (q + 1)).toInt (xs (q + 2)).toInt M) (qf_X18_car 20000 (xs (q + 1)).toInt (xs (q + 2)).toInt K) T) : ∃ S3 P3 M1 M2, Sh L xs P3 S3 ∧ qM P3 S3 = M2 ∧ Fg 165263992197562149737978827008192759957101170741070304821162198818601447809079286004735207100433021033585525149753728303104 M M1 ∧ Fg 2222946656611470678978261463464180946035733156005389663389700684343894335064513423123237195091725994950656 M1 M2 ∧ T M1 M2 ∧ zf_L_law_J5257 20000 k 0 6 2156 2332 (Int32.ofNat q) rc rs S = k 0 6 2156 2332 (Int32.ofNat q + 7) (rc - 2) (rs - 12) S3 := by
  obtain ⟨v, S1, u, S2, M1, M2, b, P1, P2, a1, a3, a4, c1, c3, c4, h0, hc, hu, f0, g0, hT⟩ := ld_callG (re_of (qz_L_car (i1 := (xs (q + 1))) (i2 := (xs (q + 2))) hS hM rfl rfl)) (fun P1 S1 M1 s1 m1 => (re_of (qz_X18_car (i1 := (xs (q + 1))) (i2 := (xs (q + 2))) s1 m1 rfl rfl))) (fr_L_car Fg_refl) (fun M1 => fr_X18_car Fg_refl) rfl hop
  obtain ⟨S3, s1, s2, s3⟩ := ld_tailI (v := v) (X := fun S3 => k 0 6 2156 2332 (Int32.ofNat q + 7) (rc - 2) (rs - 12) S3) c3 c4 h0 hc hu
  refine ⟨S3, P2, M1, M2, s1, s2, f0, g0, hT, ?_⟩
  unfold zf_L_law_J5257
  refine zb_to (sh_argk (k := 1) hS hL (by omega)) ?_
  refine zb_to (sh_argk (k := 2) hS hL (by omega)) ?_
  rw [if_pos hr]
  refine zb_to a1 ?_
  refine zb_to (sh_argk (k := 1) a3 hL (by omega)) ?_
  refine zb_to (sh_argk (k := 2) a3 hL (by omega)) ?_
  refine zb_to (sh_zi a3) ?_
  refine zb_to c1 ?_
  exact s3

theorem lx_free {M : qm} {k : Nat → Nat → Nat → Nat → Int32 → Nat → Nat → zm_S → Option ((Int32 × zm_S) ⊕ (Unit × zm_S))} {q rc rs : Nat} {T : qm → qm → Prop} (hS : Sh L xs P S) (hM : qM P S = M) (hL : L < 2147483648) (hq : q + 7 ≤ L) (hr : 2 ≤ rc ∧ 12 ≤ rs) (hop : ∀ K, Fg 1427247692705959881058285969449495136382746624 M K → oK2 cU (qf_L_free 20000 (xs (q + 1)).toInt (xs (q + 2)).toInt (xs (q + 3)).toInt M) (qf_X18_free 20000 (xs (q + 1)).toInt (xs (q + 2)).toInt (xs (q + 3)).toInt K) T) : ∃ S3 P3 M1 M2, Sh L xs P3 S3 ∧ qM P3 S3 = M2 ∧ Fg 1427247692705959881058285969449495136382746624 M M1 ∧ Fg 430030990498138408427028917869141301399355935469052710702259409022378942184794586345844761727804498771968 M1 M2 ∧ T M1 M2 ∧ zf_L_law_J5325 20000 k 0 6 2156 2332 (Int32.ofNat q) rc rs S = k 0 6 2156 2332 (Int32.ofNat q + 7) (rc - 2) (rs - 12) S3 := by
  obtain ⟨v, S1, u, S2, M1, M2, b, P1, P2, a1, a3, a4, c1, c3, c4, h0, hc, hu, f0, g0, hT⟩ := ld_callG (re_of (qz_L_free (i1 := (xs (q + 1))) (i2 := (xs (q + 2))) (i3 := (xs (q + 3))) hS hM rfl rfl rfl)) (fun P1 S1 M1 s1 m1 => (re_of (qz_X18_free (i1 := (xs (q + 1))) (i2 := (xs (q + 2))) (i3 := (xs (q + 3))) s1 m1 rfl rfl rfl))) (fr_L_free Fg_refl) (fun M1 => fr_X18_free Fg_refl) rfl hop
  obtain ⟨S3, s1, s2, s3⟩ := ld_tailU (v := v) (X := fun S3 => k 0 6 2156 2332 (Int32.ofNat q + 7) (rc - 2) (rs - 12) S3) c3 c4 h0
  refine ⟨S3, P2, M1, M2, s1, s2, f0, g0, hT, ?_⟩
  unfold zf_L_law_J5325
  refine zb_to (sh_argk (k := 1) hS hL (by omega)) ?_
  refine zb_to (sh_argk (k := 2) hS hL (by omega)) ?_
  refine zb_to (sh_argk (k := 3) hS hL (by omega)) ?_
  rw [if_pos hr]
  refine zb_to a1 ?_
  refine zb_to (sh_argk (k := 1) a3 hL (by omega)) ?_
  refine zb_to (sh_argk (k := 2) a3 hL (by omega)) ?_
  refine zb_to (sh_argk (k := 3) a3 hL (by omega)) ?_
  refine zb_to (sh_zi a3) ?_
  refine zb_to c1 ?_
  exact s3

theorem lx_span {M : qm} {k : Nat → Nat → Nat → Nat → Int32 → Nat → Nat → zm_S → Option ((Int32 × zm_S) ⊕ (Unit × zm_S))} {q rc rs : Nat} {T : qm → qm → Prop} (hS : Sh L xs P S) (hM : qM P S = M) (hL : L < 2147483648) (hq : q + 7 ≤ L) (hr : 2 ≤ rc ∧ 12 ≤ rs) (hop : ∀ K, Fg 1427247692705959881058285969449495136382746624 M K → oK2 cU (qf_L_span 20000 (xs (q + 1)).toInt (xs (q + 2)).toInt (xs (q + 3)).toInt M) (qf_X18_span 20000 (xs (q + 1)).toInt (xs (q + 2)).toInt (xs (q + 3)).toInt K) T) : ∃ S3 P3 M1 M2, Sh L xs P3 S3 ∧ qM P3 S3 = M2 ∧ Fg 1427247692705959881058285969449495136382746624 M M1 ∧ Fg 1720123961992553633708115671476565205597423741876210842804653131177523059984567290885230197852250197458944 M1 M2 ∧ T M1 M2 ∧ zf_L_law_J5385 20000 k 0 6 2156 2332 (Int32.ofNat q) rc rs S = k 0 6 2156 2332 (Int32.ofNat q + 7) (rc - 2) (rs - 12) S3 := by
  obtain ⟨v, S1, u, S2, M1, M2, b, P1, P2, a1, a3, a4, c1, c3, c4, h0, hc, hu, f0, g0, hT⟩ := ld_callG (re_of (qz_L_span (i1 := (xs (q + 1))) (i2 := (xs (q + 2))) (i3 := (xs (q + 3))) hS hM rfl rfl rfl)) (fun P1 S1 M1 s1 m1 => (re_of (qz_X18_span (i1 := (xs (q + 1))) (i2 := (xs (q + 2))) (i3 := (xs (q + 3))) s1 m1 rfl rfl rfl))) (fr_L_span Fg_refl) (fun M1 => fr_X18_span Fg_refl) rfl hop
  obtain ⟨S3, s1, s2, s3⟩ := ld_tailU (v := v) (X := fun S3 => k 0 6 2156 2332 (Int32.ofNat q + 7) (rc - 2) (rs - 12) S3) c3 c4 h0
  refine ⟨S3, P2, M1, M2, s1, s2, f0, g0, hT, ?_⟩
  unfold zf_L_law_J5385
  refine zb_to (sh_argk (k := 1) hS hL (by omega)) ?_
  refine zb_to (sh_argk (k := 2) hS hL (by omega)) ?_
  refine zb_to (sh_argk (k := 3) hS hL (by omega)) ?_
  rw [if_pos hr]
  refine zb_to a1 ?_
  refine zb_to (sh_argk (k := 1) a3 hL (by omega)) ?_
  refine zb_to (sh_argk (k := 2) a3 hL (by omega)) ?_
  refine zb_to (sh_argk (k := 3) a3 hL (by omega)) ?_
  refine zb_to (sh_zi a3) ?_
  refine zb_to c1 ?_
  exact s3

theorem lx_call {M : qm} {k : Nat → Nat → Nat → Nat → Int32 → Nat → Nat → zm_S → Option ((Int32 × zm_S) ⊕ (Unit × zm_S))} {q rc rs : Nat} {T : qm → qm → Prop} (hS : Sh L xs P S) (hM : qM P S = M) (hL : L < 2147483648) (hq : q + 7 ≤ L) (hr : 2 ≤ rc ∧ 12 ≤ rs) (hop : ∀ K, Fg 165263992197562149737978827008192759957101170741070304821162198818601447809097951728466377232002486429779731828334233911296 M K → oK2 cI (qf_L_call 20000 (xs (q + 1)).toInt (xs (q + 2)).toInt M) (qf_X18_call 20000 (xs (q + 1)).toInt (xs (q + 2)).toInt K) T) : ∃ S3 P3 M1 M2, Sh L xs P3 S3 ∧ qM P3 S3 = M2 ∧ Fg 165263992197562149737978827008192759957101170741070304821162198818601447809097951728466377232002486429779731828334233911296 M M1 ∧ Fg 71100696840434394664146005196645263608971636309713949485401615511732903853532412895948672306926823822852096 M1 M2 ∧ T M1 M2 ∧ zf_L_law_J5445 20000 k 0 6 2156 2332 (Int32.ofNat q) rc rs S = k 0 6 2156 2332 (Int32.ofNat q + 7) (rc - 2) (rs - 12) S3 := by
  obtain ⟨v, S1, u, S2, M1, M2, b, P1, P2, a1, a3, a4, c1, c3, c4, h0, hc, hu, f0, g0, hT⟩ := ld_callG (re_of (qz_L_call (i1 := (xs (q + 1))) (i2 := (xs (q + 2))) hS hM rfl rfl)) (fun P1 S1 M1 s1 m1 => (re_of (qz_X18_call (i1 := (xs (q + 1))) (i2 := (xs (q + 2))) s1 m1 rfl rfl))) (fr_L_call Fg_refl) (fun M1 => fr_X18_call Fg_refl) rfl hop
  obtain ⟨S3, s1, s2, s3⟩ := ld_tailI (v := v) (X := fun S3 => k 0 6 2156 2332 (Int32.ofNat q + 7) (rc - 2) (rs - 12) S3) c3 c4 h0 hc hu
  refine ⟨S3, P2, M1, M2, s1, s2, f0, g0, hT, ?_⟩
  unfold zf_L_law_J5445
  refine zb_to (sh_argk (k := 1) hS hL (by omega)) ?_
  refine zb_to (sh_argk (k := 2) hS hL (by omega)) ?_
  rw [if_pos hr]
  refine zb_to a1 ?_
  refine zb_to (sh_argk (k := 1) a3 hL (by omega)) ?_
  refine zb_to (sh_argk (k := 2) a3 hL (by omega)) ?_
  refine zb_to (sh_zi a3) ?_
  refine zb_to c1 ?_
  exact s3

theorem lx_begin {M : qm} {k : Nat → Nat → Nat → Nat → Int32 → Nat → Nat → zm_S → Option ((Int32 × zm_S) ⊕ (Unit × zm_S))} {q rc rs : Nat} {T : qm → qm → Prop} (hS : Sh L xs P S) (hM : qM P S = M) (hL : L < 2147483648) (hq : q + 7 ≤ L) (hr : 2 ≤ rc ∧ 12 ≤ rs) (hop : ∀ K, Fg 165263992197562149737978827008192759957101170741070304821162198818601447809079263703990008569809879497867252501392222322688 M K → oK2 cB (qf_L_begin 20000 (xs (q + 1)).toInt (xs (q + 2)).toInt M) (qf_X18_begin 20000 (xs (q + 1)).toInt (xs (q + 2)).toInt K) T) : ∃ S3 P3 M1 M2, Sh L xs P3 S3 ∧ qM P3 S3 = M2 ∧ Fg 165263992197562149737978827008192759957101170741070304821162198818601447809079263703990008569809879497867252501392222322688 M M1 ∧ Fg 36695977855841144185773134324833391052745039826692497979802882931828096920333960613953013132781666917416960 M1 M2 ∧ T M1 M2 ∧ zf_L_law_J5513 20000 k 0 6 2156 2332 (Int32.ofNat q) rc rs S = k 0 6 2156 2332 (Int32.ofNat q + 7) (rc - 2) (rs - 12) S3 := by
  obtain ⟨v, S1, u, S2, M1, M2, b, P1, P2, a1, a3, a4, c1, c3, c4, h0, hc, hu, f0, g0, hT⟩ := ld_callG (re_of (qz_L_begin (i1 := (xs (q + 1))) (i2 := (xs (q + 2))) hS hM rfl rfl)) (fun P1 S1 M1 s1 m1 => (re_of (qz_X18_begin (i1 := (xs (q + 1))) (i2 := (xs (q + 2))) s1 m1 rfl rfl))) (fr_L_begin Fg_refl) (fun M1 => fr_X18_begin Fg_refl) rfl hop
  obtain ⟨S3, s1, s2, s3⟩ := ld_tailB (v := v) (X := fun S3 => k 0 6 2156 2332 (Int32.ofNat q + 7) (rc - 2) (rs - 12) S3) c3 c4 h0 hc hu
  refine ⟨S3, P2, M1, M2, s1, s2, f0, g0, hT, ?_⟩
  unfold zf_L_law_J5513
  refine zb_to (sh_argk (k := 1) hS hL (by omega)) ?_
  refine zb_to (sh_argk (k := 2) hS hL (by omega)) ?_
  rw [if_pos hr]
  refine zb_to a1 ?_
  refine zb_to (sh_argk (k := 1) a3 hL (by omega)) ?_
  refine zb_to (sh_argk (k := 2) a3 hL (by omega)) ?_
  refine zb_to (sh_zi a3) ?_
  refine zb_to c1 ?_
  unfold zf_L_law_J5579
  exact s3

theorem lx_done {M : qm} {k : Nat → Nat → Nat → Nat → Int32 → Nat → Nat → zm_S → Option ((Int32 × zm_S) ⊕ (Unit × zm_S))} {q rc rs : Nat} {T : qm → qm → Prop} (hS : Sh L xs P S) (hM : qM P S = M) (hL : L < 2147483648) (hq : q + 7 ≤ L) (hr : 2 ≤ rc ∧ 12 ≤ rs) (hop : ∀ K, Fg 7225441444323921897857572720338069127937654784 M K → oK2 cU (qf_L_done 20000 (xs (q + 1)).toInt M) (qf_X18_done 20000 (xs (q + 1)).toInt K) T) : ∃ S3 P3 M1 M2, Sh L xs P3 S3 ∧ qM P3 S3 = M2 ∧ Fg 7225441444323921897857572720338069127937654784 M M1 ∧ Fg 18347988927920572092886567162416695526372519913346248989902172216732713911626082149392864707900661424979968 M1 M2 ∧ T M1 M2 ∧ zf_L_law_J5588 20000 k 0 6 2156 2332 (Int32.ofNat q) rc rs S = k 0 6 2156 2332 (Int32.ofNat q + 7) (rc - 2) (rs - 12) S3 := by
  obtain ⟨v, S1, u, S2, M1, M2, b, P1, P2, a1, a3, a4, c1, c3, c4, h0, hc, hu, f0, g0, hT⟩ := ld_callG (re_of (qz_L_done (i1 := (xs (q + 1))) hS hM rfl)) (fun P1 S1 M1 s1 m1 => (re_of (qz_X18_done (i1 := (xs (q + 1))) s1 m1 rfl))) (fr_L_done Fg_refl) (fun M1 => fr_X18_done Fg_refl) rfl hop
  obtain ⟨S3, s1, s2, s3⟩ := ld_tailU (v := v) (X := fun S3 => k 0 6 2156 2332 (Int32.ofNat q + 7) (rc - 2) (rs - 12) S3) c3 c4 h0
  refine ⟨S3, P2, M1, M2, s1, s2, f0, g0, hT, ?_⟩
  unfold zf_L_law_J5588
  refine zb_to (sh_argk (k := 1) hS hL (by omega)) ?_
  rw [if_pos hr]
  refine zb_to a1 ?_
  refine zb_to (sh_argk (k := 1) a3 hL (by omega)) ?_
  refine zb_to (sh_zi a3) ?_
  refine zb_to c1 ?_
  exact s3

theorem lx_give {M : qm} {k : Nat → Nat → Nat → Nat → Int32 → Nat → Nat → zm_S → Option ((Int32 × zm_S) ⊕ (Unit × zm_S))} {q rc rs : Nat} {T : qm → qm → Prop} (hS : Sh L xs P S) (hM : qM P S = M) (hL : L < 2147483648) (hq : q + 7 ≤ L) (hr : 1 ≤ rc ∧ 6 ≤ rs) (hop : ∀ K, Fg 165263992197562149737978827008192759957101170741070304821162198818601447810529168953817675563979965757081758373065045049344 M K → oK2 cI (qf_L_give 20000 M) (qf_X18_give 20000 K) T) : ∃ S3 P3 M1 M2, Sh L xs P3 S3 ∧ qM P3 S3 = M2 ∧ Fg 165263992197562149737978827008192759957101170741070304821162198818601447810529168953817675563979965757081758373065045049344 M M1 ∧ Fg 18715011419331764513262194114048885353339757717687096539885703590593754985957347282042654774231456863217516544 M1 M2 ∧ T M1 M2 ∧ zf_L_law_J5624 20000 k 0 6 2156 2332 (Int32.ofNat q) rc rs S = k 0 6 2156 2332 (Int32.ofNat q + 7) (rc - 1) (rs - 6) S3 := by
  obtain ⟨v, S1, u, S2, M1, M2, b, P1, P2, a1, a3, a4, c1, c3, c4, h0, hc, hu, f0, g0, hT⟩ := ld_callG (re_of (qz_L_give  hS hM)) (fun P1 S1 M1 s1 m1 => (re_of (qz_X18_give  s1 m1))) (fr_L_give Fg_refl) (fun M1 => fr_X18_give Fg_refl) rfl hop
  obtain ⟨S3, s1, s2, s3⟩ := ld_tailL (v := v) (X := fun S3 => k 0 6 2156 2332 (Int32.ofNat q + 7) (rc - 1) (rs - 6) S3) c3 c4 h0 hc hu
  refine ⟨S3, P2, M1, M2, s1, s2, f0, g0, hT, ?_⟩
  unfold zf_L_law_J5624
  rw [if_pos hr]
  refine zb_to a1 ?_
  refine zb_to (sh_zi a3) ?_
  refine zb_to c1 ?_
  exact s3

theorem lx_given {M : qm} {k : Nat → Nat → Nat → Nat → Int32 → Nat → Nat → zm_S → Option ((Int32 × zm_S) ⊕ (Unit × zm_S))} {q rc rs : Nat} {T : qm → qm → Prop} (hS : Sh L xs P S) (hM : qM P S = M) (hL : L < 2147483648) (hq : q + 7 ≤ L) (hr : 2 ≤ rc ∧ 12 ≤ rs) (hop : ∀ K, Fg 165263992197562149737978827008192759957101170741070304821162198818601447809077836456297302609928821211897803006255839576064 M K → oK2 cI (qf_L_given 20000 (xs (q + 1)).toInt (xs (q + 2)).toInt M) (qf_X18_given 20000 (xs (q + 1)).toInt (xs (q + 2)).toInt K) T) : ∃ S3 P3 M1 M2, Sh L xs P3 S3 ∧ qM P3 S3 = M2 ∧ Fg 165263992197562149737978827008192759957101170741070304821162198818601447809077836456297302609928821211897803006255839576064 M M1 ∧ Fg 1461501637330902918203684832716283019655932542976 M1 M2 ∧ T M1 M2 ∧ zf_L_law_J5667 20000 k 0 6 2156 2332 (Int32.ofNat q) rc rs S = k 0 6 2156 2332 (Int32.ofNat q + 7) (rc - 2) (rs - 12) S3 := by
  obtain ⟨v, S1, u, S2, M1, M2, b, P1, P2, a1, a3, a4, c1, c3, c4, h0, hc, hu, f0, g0, hT⟩ := ld_callG (re_of (qz_L_given (i1 := (xs (q + 1))) (i2 := (xs (q + 2))) hS hM rfl rfl)) (fun P1 S1 M1 s1 m1 => (re_of (qz_X18_given (i1 := (xs (q + 1))) (i2 := (xs (q + 2))) s1 m1 rfl rfl))) (fr_L_given Fg_refl) (fun M1 => fr_X18_given Fg_refl) rfl hop
  obtain ⟨S3, s1, s2, s3⟩ := ld_tailI (v := v) (X := fun S3 => k 0 6 2156 2332 (Int32.ofNat q + 7) (rc - 2) (rs - 12) S3) c3 c4 h0 hc hu
  refine ⟨S3, P2, M1, M2, s1, s2, f0, g0, hT, ?_⟩
  unfold zf_L_law_J5667
  refine zb_to (sh_argk (k := 1) hS hL (by omega)) ?_
  refine zb_to (sh_argk (k := 2) hS hL (by omega)) ?_
  rw [if_pos hr]
  refine zb_to a1 ?_
  refine zb_to (sh_argk (k := 1) a3 hL (by omega)) ?_
  refine zb_to (sh_argk (k := 2) a3 hL (by omega)) ?_
  refine zb_to (sh_zi a3) ?_
  refine zb_to c1 ?_
  exact s3

theorem lx_fire {M : qm} {k : Nat → Nat → Nat → Nat → Int32 → Nat → Nat → zm_S → Option ((Int32 × zm_S) ⊕ (Unit × zm_S))} {q rc rs : Nat} {T : qm → qm → Prop} (hS : Sh L xs P S) (hM : qM P S = M) (hL : L < 2147483648) (hq : q + 7 ≤ L) (hr : 2 ≤ rc ∧ 12 ≤ rs) (hop : ∀ K, Fg 165263992197562149737978827008192759957101170741070304821162198818601447809077836456297302609928821211897817642954628530176 M K → oK2 cB (qf_L_fire 20000 (xs (q + 1)).toInt (xs (q + 2)).toInt M) (qf_X18_fire 20000 (xs (q + 1)).toInt (xs (q + 2)).toInt K) T) : ∃ S3 P3 M1 M2, Sh L xs P3 S3 ∧ qM P3 S3 = M2 ∧ Fg 165263992197562149737978827008192759957101170741070304821162198818601447809077836456297302609928821211897817642954628530176 M M1 ∧ Fg 2582249878086908589655919172003011874329705792829223512830659356540647623478342831960548271483822664152186191628680036352 M1 M2 ∧ T M1 M2 ∧ zf_L_law_J5735 20000 k 0 6 2156 2332 (Int32.ofNat q) rc rs S = k 0 6 2156 2332 (Int32.ofNat q + 7) (rc - 2) (rs - 12) S3 := by
  obtain ⟨v, S1, u, S2, M1, M2, b, P1, P2, a1, a3, a4, c1, c3, c4, h0, hc, hu, f0, g0, hT⟩ := ld_callG (re_of (qz_L_fire (i1 := (xs (q + 1))) (i2 := (xs (q + 2))) hS hM rfl rfl)) (fun P1 S1 M1 s1 m1 => (re_of (qz_X18_fire (i1 := (xs (q + 1))) (i2 := (xs (q + 2))) s1 m1 rfl rfl))) (fr_L_fire Fg_refl) (fun M1 => fr_X18_fire Fg_refl) rfl hop
  obtain ⟨S3, s1, s2, s3⟩ := ld_tailB (v := v) (X := fun S3 => k 0 6 2156 2332 (Int32.ofNat q + 7) (rc - 2) (rs - 12) S3) c3 c4 h0 hc hu
  refine ⟨S3, P2, M1, M2, s1, s2, f0, g0, hT, ?_⟩
  unfold zf_L_law_J5735
  refine zb_to (sh_argk (k := 1) hS hL (by omega)) ?_
  refine zb_to (sh_argk (k := 2) hS hL (by omega)) ?_
  rw [if_pos hr]
  refine zb_to a1 ?_
  refine zb_to (sh_argk (k := 1) a3 hL (by omega)) ?_
  refine zb_to (sh_argk (k := 2) a3 hL (by omega)) ?_
  refine zb_to (sh_zi a3) ?_
  refine zb_to c1 ?_
  unfold zf_L_law_J5801
  exact s3

theorem lx_cell {M : qm} {k : Nat → Nat → Nat → Nat → Int32 → Nat → Nat → zm_S → Option ((Int32 × zm_S) ⊕ (Unit × zm_S))} {q rc rs : Nat} {T : qm → qm → Prop} (hS : Sh L xs P S) (hM : qM P S = M) (hL : L < 2147483648) (hq : q + 7 ≤ L) (hr : 2 ≤ rc ∧ 12 ≤ rs) (hop : ∀ K, Fg 165263992197562149737978827008192759957101170741070304821162198818601447809077836456297302609928821211897803006255839576064 M K → oK2 cI (qf_L_cell 20000 (xs (q + 1)).toInt (xs (q + 2)).toInt (xs (q + 3)).toInt M) (qf_X18_cell 20000 (xs (q + 1)).toInt (xs (q + 2)).toInt (xs (q + 3)).toInt K) T) : ∃ S3 P3 M1 M2, Sh L xs P3 S3 ∧ qM P3 S3 = M2 ∧ Fg 165263992197562149737978827008192759957101170741070304821162198818601447809077836456297302609928821211897803006255839576064 M M1 ∧ Fg 1461501637330902918203684832716283019655932542976 M1 M2 ∧ T M1 M2 ∧ zf_L_law_J5810 20000 k 0 6 2156 2332 (Int32.ofNat q) rc rs S = k 0 6 2156 2332 (Int32.ofNat q + 7) (rc - 2) (rs - 12) S3 := by
  obtain ⟨v, S1, u, S2, M1, M2, b, P1, P2, a1, a3, a4, c1, c3, c4, h0, hc, hu, f0, g0, hT⟩ := ld_callG (re_of (qz_L_cell (i1 := (xs (q + 1))) (i2 := (xs (q + 2))) (i3 := (xs (q + 3))) hS hM rfl rfl rfl)) (fun P1 S1 M1 s1 m1 => (re_of (qz_X18_cell (i1 := (xs (q + 1))) (i2 := (xs (q + 2))) (i3 := (xs (q + 3))) s1 m1 rfl rfl rfl))) (fr_L_cell Fg_refl) (fun M1 => fr_X18_cell Fg_refl) rfl hop
  obtain ⟨S3, s1, s2, s3⟩ := ld_tailI (v := v) (X := fun S3 => k 0 6 2156 2332 (Int32.ofNat q + 7) (rc - 2) (rs - 12) S3) c3 c4 h0 hc hu
  refine ⟨S3, P2, M1, M2, s1, s2, f0, g0, hT, ?_⟩
  unfold zf_L_law_J5810
  refine zb_to (sh_argk (k := 1) hS hL (by omega)) ?_
  refine zb_to (sh_argk (k := 2) hS hL (by omega)) ?_
  refine zb_to (sh_argk (k := 3) hS hL (by omega)) ?_
  rw [if_pos hr]
  refine zb_to a1 ?_
  refine zb_to (sh_argk (k := 1) a3 hL (by omega)) ?_
  refine zb_to (sh_argk (k := 2) a3 hL (by omega)) ?_
  refine zb_to (sh_argk (k := 3) a3 hL (by omega)) ?_
  refine zb_to (sh_zi a3) ?_
  refine zb_to c1 ?_
  exact s3

theorem lx_pass {M : qm} {k : Nat → Nat → Nat → Nat → Int32 → Nat → Nat → zm_S → Option ((Int32 × zm_S) ⊕ (Unit × zm_S))} {q rc rs : Nat} {T : qm → qm → Prop} (hS : Sh L xs P S) (hM : qM P S = M) (hL : L < 2147483648) (hq : q + 7 ≤ L) (hr : 2 ≤ rc ∧ 12 ≤ rs) (hop : ∀ K, Fg 165263992197562149737978827008192759957101170741070304821162198818601447809077858585024447730712042700203293417508486250498 M K → oK2 cI (qf_L_pass 20000 (xs (q + 1)).toInt M) (qf_X18_pass 20000 (xs (q + 1)).toInt K) T) : ∃ S3 P3 M1 M2, Sh L xs P3 S3 ∧ qM P3 S3 = M2 ∧ Fg 165263992197562149737978827008192759957101170741070304821162198818601447809077858585024447730712042700203293417508486250498 M M1 ∧ Fg 131694898927831736381312881657692929566851318366731015927044283881285592839106715859867495973283449385769025998275718676480 M1 M2 ∧ T M1 M2 ∧ zf_L_law_J5890 20000 k 0 6 2156 2332 (Int32.ofNat q) rc rs S = k 0 6 2156 2332 (Int32.ofNat q + 7) (rc - 2) (rs - 12) S3 := by
  obtain ⟨v, S1, u, S2, M1, M2, b, P1, P2, a1, a3, a4, c1, c3, c4, h0, hc, hu, f0, g0, hT⟩ := ld_callG (re_of (qz_L_pass (i1 := (xs (q + 1))) hS hM rfl)) (fun P1 S1 M1 s1 m1 => (re_of (qz_X18_pass (i1 := (xs (q + 1))) s1 m1 rfl))) (fr_L_pass Fg_refl) (fun M1 => fr_X18_pass Fg_refl) rfl hop
  obtain ⟨S3, s1, s2, s3⟩ := ld_tailI (v := v) (X := fun S3 => k 0 6 2156 2332 (Int32.ofNat q + 7) (rc - 2) (rs - 12) S3) c3 c4 h0 hc hu
  refine ⟨S3, P2, M1, M2, s1, s2, f0, g0, hT, ?_⟩
  unfold zf_L_law_J5890
  refine zb_to (sh_argk (k := 1) hS hL (by omega)) ?_
  rw [if_pos hr]
  refine zb_to a1 ?_
  refine zb_to (sh_argk (k := 1) a3 hL (by omega)) ?_
  refine zb_to (sh_zi a3) ?_
  refine zb_to c1 ?_
  exact s3

theorem lx_told {M : qm} {k : Nat → Nat → Nat → Nat → Int32 → Nat → Nat → zm_S → Option ((Int32 × zm_S) ⊕ (Unit × zm_S))} {q rc rs : Nat} {T : qm → qm → Prop} (hS : Sh L xs P S) (hM : qM P S = M) (hL : L < 2147483648) (hq : q + 7 ≤ L) (hr : 2 ≤ rc ∧ 12 ≤ rs) (hop : ∀ K, Fg 165263992197562149737978827008192759957101170741070304821162198818601447809077836456297302609928821211897803006255839576064 M K → oK2 cI (qf_L_told 20000 (xs (q + 1)).toInt M) (qf_X18_told 20000 (xs (q + 1)).toInt K) T) : ∃ S3 P3 M1 M2, Sh L xs P3 S3 ∧ qM P3 S3 = M2 ∧ Fg 165263992197562149737978827008192759957101170741070304821162198818601447809077836456297302609928821211897803006255839576064 M M1 ∧ Fg 1461501637330902918203684832716283019655932542976 M1 M2 ∧ T M1 M2 ∧ zf_L_law_J5946 20000 k 0 6 2156 2332 (Int32.ofNat q) rc rs S = k 0 6 2156 2332 (Int32.ofNat q + 7) (rc - 2) (rs - 12) S3 := by
  obtain ⟨v, S1, u, S2, M1, M2, b, P1, P2, a1, a3, a4, c1, c3, c4, h0, hc, hu, f0, g0, hT⟩ := ld_callG (re_of (qz_L_told (i1 := (xs (q + 1))) hS hM rfl)) (fun P1 S1 M1 s1 m1 => (re_of (qz_X18_told (i1 := (xs (q + 1))) s1 m1 rfl))) (fr_L_told Fg_refl) (fun M1 => fr_X18_told Fg_refl) rfl hop
  obtain ⟨S3, s1, s2, s3⟩ := ld_tailI (v := v) (X := fun S3 => k 0 6 2156 2332 (Int32.ofNat q + 7) (rc - 2) (rs - 12) S3) c3 c4 h0 hc hu
  refine ⟨S3, P2, M1, M2, s1, s2, f0, g0, hT, ?_⟩
  unfold zf_L_law_J5946
  refine zb_to (sh_argk (k := 1) hS hL (by omega)) ?_
  rw [if_pos hr]
  refine zb_to a1 ?_
  refine zb_to (sh_argk (k := 1) a3 hL (by omega)) ?_
  refine zb_to (sh_zi a3) ?_
  refine zb_to c1 ?_
  exact s3

end LW
