/-! ===== the law's steps for rules and build (wip/tools/q/genlx.py) ===== -/
section LXo
variable {L : Nat} {xs : Nat → Int32} {P : Nat → Nat} {S : zm_S}
theorem sh_zi6 (h : Sh L xs P S) : zi S 6 11 = some () := by
  have q : qs ((zi S 6 11).bind (fun _ => some ())) (some ()) (fun x _ => x = some ()) := qs_zi h pl_6 ts_6 (fun _ _ => rfl)
  have q2 := q () rfl
  cases e : zi S 6 11 with
  | none => rw [e] at q2; cases q2
  | some u => rfl
theorem lx_rules {M : qm} {k : Nat → Nat → Nat → Nat → Int32 → Nat → Nat → zm_S → Option ((Int32 × zm_S) ⊕ (Unit × zm_S))} {q rc rs : Nat} {T : qm → qm → Prop} (hS : Sh L xs P S) (hM : qM P S = M) (hop : ∀ K, Fg 66039266148352 M K → ∃ v M' K', qf_X11_rules 20000 M = some (v, M') ∧ qf_X18_rules 20000 K = some (v, K') ∧ T M' K') : ∃ S3 P3 M1 M2, Sh L xs P3 S3 ∧ qM P3 S3 = M2 ∧ Fg 66039266148352 M M1 ∧ Fg 7293489685104096497870743727564561935524838121701721493880610488046866923520 M1 M2 ∧ T M1 M2 ∧ zf_L_law_J1447 20000 k 0 6 2156 2332 (Int32.ofNat q) rc rs S = k 0 6 2156 2332 (Int32.ofNat q + 7) rc rs S3 := by
  obtain ⟨v0, M0, _, e0, _, _⟩ := hop M Fg_refl
  have f0 := fr_X11_rules (M0 := M) Fg_refl _ e0
  obtain ⟨v, M1, M2, e1, e2, hT⟩ := hop M0 f0
  have q0 : (v0, M0) = (v, M1) := Option.some.inj (e0.symm.trans e1)
  obtain ⟨rfl, rfl⟩ := Prod.mk.inj q0
  obtain ⟨⟨u, S1⟩, a1, a2, a3, a4⟩ := qz_X11_rules hS hM _ e1
  obtain ⟨⟨w, S2⟩, c1, c2, c3, c4⟩ := qz_X18_rules a3 a4 _ e2
  refine ⟨S2, P, M0, M2, c3, c4, f0, fr_X18_rules Fg_refl _ e2, hT, ?_⟩
  have uw : u = w := Int32.toInt_inj.mp ((show u.toInt = v0 from a2).trans (show w.toInt = v0 from c2).symm)
  unfold zf_L_law_J1447
  refine zb_to (sh_zi6 hS) ?_
  refine zb_to a1 ?_
  refine zb_to (sh_zi a3) ?_
  refine zb_to c1 ?_
  exact if_pos uw
/-- what comes of the one comes of the other -/
theorem ob_f {α β : Type} {x : Option α} {f g : α → Option β} (h : ∀ r a, f r = some a → g r = some a) : ∀ a, x.bind f = some a → x.bind g = some a := by
  intro a e
  cases hx : x with
  | none => rw [hx] at e; cases e
  | some r =>
    rw [hx] at e
    exact h r a e
theorem ob_x {α β : Type} {x y : Option α} {f : α → Option β} (h : ∀ r, x = some r → y = some r) : ∀ a, x.bind f = some a → y.bind f = some a := by
  intro a e
  cases hx : x with
  | none => rw [hx] at e; cases e
  | some r =>
    rw [h r hx]
    rw [hx] at e
    exact e
theorem ob_if {β : Type} {c : Prop} {d : Decidable c} {x y x' y' : Option β} (h1 : ∀ a, x = some a → x' = some a) (h2 : ∀ a, y = some a → y' = some a) : ∀ a, (@ite _ c d x y) = some a → (@ite _ c d x' y') = some a := by
  intro a e
  by_cases h : c
  · rw [if_pos h] at e ⊢
    exact h1 a e
  · rw [if_neg h] at e ⊢
    exact h2 a e
theorem ob_no {β : Type} {y : Option β} : ∀ a, (none : Option β) = some a → y = some a := fun a e => by cases e
theorem bz_J48 {i1 t0 : Int32} {S : zm_S} : ∀ a, zf_X11_build_c_J48 20000 6 i1 t0 S = some a → zf_X11_build_J48 20000 6 i1 t0 S = some a := by
  unfold zf_X11_build_c_J48 zf_X11_build_J48
  refine ob_f (fun r => ?_)
  rcases r with ⟨u | X, S7⟩
  · (try dsimp only)
    exact ob_f (fun b8 => ob_f (fun _ => ob_f (fun r10 => ob_f (fun b11 => ob_f (fun _ => ob_f (fun r13 => ob_if ob_no (fun _ e => e)))))))
  · exact fun _ e => e
theorem bz_X {i1 : Int32} {S : zm_S} : ∀ a, zf_X11_build_c 20000 6 i1 S = some a → zf_X11_build 20000 6 i1 S = some a := by
  unfold zf_X11_build_c zf_X11_build zf_X11_build_c_J47 zf_X11_build_J47
  refine ob_f (fun r2 => ob_f (fun r => ?_))
  rcases r with ⟨u | X, S4⟩
  · (try dsimp only)
    exact ob_f (fun v5 => ob_if (ob_f (fun b14 => ob_f (fun v15 => ob_if bz_J48 (ob_f (fun b16 => ob_f (fun v17 => ob_f (fun r19 => ob_if bz_J48 bz_J48))))))) bz_J48)
  · exact fun _ e => e
theorem bz_L {i1 : Int32} {S : zm_S} : ∀ a, zf_L_build_c 20000 6 i1 2332 S = some a → zf_L_build 20000 6 i1 2332 S = some a := by
  unfold zf_L_build_c zf_L_build
  exact ob_f (fun _ => ob_x bz_X)
/-- without building there is no more than refusing: then it was built -/
theorem bc_J48 {i1 t0 : Int} {M : qm} : qP (qf_X11_build_J48 20000 i1 t0 M) (fun r => (t0 ≠ 0 ∧ r.2 6 11 0 = 1) ∨ qf_X11_build_c_J48 20000 i1 t0 M = some r) := by
  intro r e
  unfold qf_X11_build_J48 at e
  unfold qf_X11_build_c_J48
  cases h0 : qf_X11_needState 20000 t0 M with
  | none => rw [h0] at e; cases e
  | some s =>
    rw [h0] at e
    rcases s with u | X
    · have ht := needState_q (M := M) (t := t0) _ h0 u rfl
      (try dsimp only at e ⊢)
      cases h1 : qf_X7_askAll 20000 i1 M with
      | none =>
        rw [Option.bind_some, h1] at e
        cases e
      | some r10 =>
        rw [Option.bind_some, h1, Option.bind_some] at e
        rw [Option.bind_some]
        (try dsimp only)
        rw [Option.bind_some]
        cases h2 : qf_X7_firstRefusing 20000 r10.2 with
        | none =>
          rw [h2] at e
          cases e
        | some r13 =>
          rw [h2, Option.bind_some] at e
          by_cases g : r13 = -1
          · rw [if_pos g] at e
            refine Or.inl ⟨ht, ?_⟩
            have key : qP (qbnd (qw r10.2 6 11 0 1) (fun M14 => (qf_X10_numberCells 20000 M14).bind (fun r17 => (qf_X0_findPortals 20000 r17.2).bind (fun r21 => qbnd (qw r21.2 1172 2 0 (w32 ((r21.2 51 3 0) + 10))) (fun M25 => some ((Sum.inl (M25 824 3 0) : Int ⊕ String), M25)))))) (fun r => r.2 6 11 0 = 1) := by
              refine qP_bn (qP_bind (fr_X10_numberCells Fg_refl) (fun r17 f1 => qP_bind (fr_X0_findPortals Fg_refl) (fun r21 f2 => qP_bn (qP_some ?_))))
              (try dsimp only)
              rw [qw_a (by decide), f2 6 11 0 rfl, f1 6 11 0 rfl]
              exact qw_s
            exact key _ e
          · rw [if_neg g] at e
            refine Or.inr ?_
            rw [Option.bind_some, if_neg g]
            exact e
    · exact Or.inr e
theorem bc_X {i1 : Int} {M : qm} : qP (qf_X11_build 20000 i1 M) (fun r => (M 6 11 0 = 0 ∧ r.2 6 11 0 = 1) ∨ qf_X11_build_c 20000 i1 M = some r) := by
  intro r e
  unfold qf_X11_build qf_X11_build_J47 at e
  unfold qf_X11_build_c qf_X11_build_c_J47
  have no : ∀ {r}, qf_X11_build_J48 20000 i1 0 M = some r → qf_X11_build_c_J48 20000 i1 0 M = some r := fun {r} e => (bc_J48 _ e).resolve_left (fun z => z.1 rfl)
  cases h0 : qf_X11_isWithin 20000 i1 0 1000000 M with
  | none => rw [h0] at e; cases e
  | some v =>
    rw [h0, Option.bind_some] at e
    rw [Option.bind_some]
    cases h1 : qf_X11_needArgument 20000 v M with
    | none => rw [h1] at e; cases e
    | some s =>
      rw [h1, Option.bind_some] at e
      rw [Option.bind_some]
      rcases s with u | X
      · (try dsimp only at e ⊢)
        by_cases g : M 6 11 0 = 0
        · rw [if_pos g] at e ⊢
          by_cases g2 : M 51 2 0 = 0
          · rw [if_pos g2] at e ⊢
            exact Or.inr (no e)
          · rw [if_neg g2] at e ⊢
            cases h2 : qf_X11_isWithin 20000 (M 51 3 0) 1 40 M with
            | none => rw [h2] at e; cases e
            | some w =>
              rw [h2, Option.bind_some] at e
              rw [Option.bind_some]
              by_cases g3 : w = 0
              · rw [if_pos g3] at e ⊢
                exact Or.inr (no e)
              · rw [if_neg g3] at e ⊢
                rcases bc_J48 _ e with z | z
                · exact Or.inl ⟨g, z.2⟩
                · exact Or.inr z
        · rw [if_neg g] at e ⊢
          exact Or.inr (no e)
      · exact Or.inr e
theorem bc_L {i1 : Int} {M : qm} : qP (qf_L_build 20000 i1 M) (fun r => qf_L_build_c 20000 i1 M = none → M 6 11 0 = 0 ∧ r.2 6 11 0 = 1) := by
  intro r e
  unfold qf_L_build at e
  unfold qf_L_build_c
  intro z
  cases h0 : qf_X11_build 20000 i1 M with
  | none => rw [h0] at e; cases e
  | some s =>
    rw [h0, Option.bind_some] at e
    rcases bc_X _ h0 with w | w
    · refine ⟨w.1, ?_⟩
      obtain ⟨v | X, M2⟩ := s
      · have e2 := Option.some.inj e
        rw [← e2]
        exact (show qw M2 2332 0 0 v 6 11 0 = 1 from (qw_a (by decide)).trans w.2)
      · (try dsimp only at e)
        by_cases g : X = "java/lang/IllegalArgumentException"
        · rw [if_pos g] at e
          rw [← Option.some.inj e]
          exact w.2
        · rw [if_neg g] at e
          by_cases g2 : X = "java/lang/IllegalStateException"
          · rw [if_pos g2] at e
            rw [← Option.some.inj e]
            exact w.2
          · rw [if_neg g2] at e
            cases e
    · rw [w, Option.bind_some] at z
      exact absurd (e.symm.trans z) (by intro y; cases y)
theorem lx_build {M : qm} {k : Nat → Nat → Nat → Nat → Int32 → Nat → Nat → zm_S → Option ((Int32 × zm_S) ⊕ (Unit × zm_S))} {q rc rs : Nat} {T : qm → qm → Prop} (hS : Sh L xs P S) (hM : qM P S = M) (hL : L < 2147483648) (hq : q + 7 ≤ L) (hr : 2 ≤ rc ∧ 12 ≤ rs) (hr2 : M 6 11 0 = 0 → 5 ≤ rc ∧ 124092 ≤ rs) (hop : ∀ K, Fg 165263992197562149737978827008192759957101170741070304821162198818601447809077836456467443793389290445697309287080832008193 M K → oK2 cI (qf_L_build 20000 (xs (q + 1)).toInt M) (qf_X18_build 20000 (xs (q + 1)).toInt K) T) : ∃ S3 P3 M1 M2, Sh L xs P3 S3 ∧ qM P3 S3 = M2 ∧ Fg 165263992197562149737978827008192759957101170741070304821162198818601447809077836456467443793389290445697309287080832008193 M M1 ∧ Fg 30986998542435156845919751155270389942184787437303800526344525357710070764039390293639472650722518226656026570471319273472 M1 M2 ∧ T M1 M2 ∧ (zf_L_law_J1794 20000 k 0 6 2156 2332 (Int32.ofNat q) rc rs S = k 0 6 2156 2332 (Int32.ofNat q + 7) (rc - 2) (rs - 12) S3 ∨ (M 6 11 0 = 0 ∧ M1 6 11 0 = 1 ∧ zf_L_law_J1794 20000 k 0 6 2156 2332 (Int32.ofNat q) rc rs S = k 0 6 2156 2332 (Int32.ofNat q + 7) (rc - 5) (rs - 124092) S3)) := by
  have hop2 : ∀ K, Fg 165263992197562149737978827008192759957101170741070304821162198818601447809077836456467443793389290445697309287080832008193 M K → oK2 cI (qf_L_build 20000 (xs (q + 1)).toInt M) (qf_X18_build 20000 (xs (q + 1)).toInt K) (fun A B => T A B ∧ (qf_L_build_c 20000 (xs (q + 1)).toInt M = none → M 6 11 0 = 0 ∧ A 6 11 0 = 1)) := fun K hK => li_mk (A := 165263992197562149737978827008192759957101170741070304821162198818601447809077836456467443793389290445697309287080832008193) (B := 30986998542435156845919751155270389942184787437303800526344525357710070764039390293639472650722518226656026570471319273472) (hop K hK) (fr_L_build Fg_refl) (fr_X18_build Fg_refl) bc_L qP_tt (fun A B hT _ _ hX _ => by
    obtain ⟨r, hx, er⟩ := hX
    rw [er] at hx
    exact ⟨hT, hx⟩)
  obtain ⟨v, S1, u, S2, M1, M2, b, P1, P2, a1, a3, a4, c1, c3, c4, h0, hc, hu, f0, g0, hT, hN⟩ := ld_callG (qz_L_build (i1 := (xs (q + 1))) hS hM rfl) (fun P1 S1 M1 s1 m1 => (re_of (qz_X18_build (i1 := (xs (q + 1))) s1 m1 rfl))) (fr_L_build Fg_refl) (fun M1 => fr_X18_build Fg_refl) rfl hop2
  cases hz : zf_L_build_c 20000 6 (xs (q + 1)) 2332 S with
  | some a =>
    have ea : a = (v, S1) := Option.some.inj ((bz_L a hz).symm.trans a1)
    obtain ⟨S3, s1, s2, s3⟩ := ld_tailI (v := v) (X := fun S3 => k 0 6 2156 2332 (Int32.ofNat q + 7) (rc - 2) (rs - 12) S3) c3 c4 h0 hc hu
    refine ⟨S3, P2, M1, M2, s1, s2, f0, g0, hT, Or.inl ?_⟩
    unfold zf_L_law_J1794
    refine zb_to (sh_argk (k := 1) hS hL (by omega)) ?_
    rw [hz, if_pos (show (some a).isSome = true from rfl), if_pos hr]
    refine zb_to (congrArg some ea) ?_
    refine zb_to (sh_argk (k := 1) a3 hL (by omega)) ?_
    refine zb_to (sh_zi a3) ?_
    refine zb_to c1 ?_
    exact s3
  | none =>
    have hn : qf_L_build_c 20000 (xs (q + 1)).toInt M = none := by
      cases hq' : qf_L_build_c 20000 (xs (q + 1)).toInt M with
      | none => rfl
      | some b' =>
        obtain ⟨a, ha, _⟩ := qz_L_build_c (i1 := (xs (q + 1))) hS hM rfl _ hq'
        rw [hz] at ha
        cases ha
    have hb := hN hn
    obtain ⟨S3, s1, s2, s3⟩ := ld_tailI (v := v) (X := fun S3 => k 0 6 2156 2332 (Int32.ofNat q + 7) (rc - 5) (rs - 124092) S3) c3 c4 h0 hc hu
    refine ⟨S3, P2, M1, M2, s1, s2, f0, g0, hT, Or.inr ⟨hb.1, hb.2, ?_⟩⟩
    unfold zf_L_law_J1794
    refine zb_to (sh_argk (k := 1) hS hL (by omega)) ?_
    rw [hz, if_neg (by decide), if_pos (hr2 hb.1)]
    refine zb_to a1 ?_
    refine zb_to (sh_argk (k := 1) a3 hL (by omega)) ?_
    refine zb_to (sh_zi a3) ?_
    refine zb_to c1 ?_
    exact s3
end LXo
