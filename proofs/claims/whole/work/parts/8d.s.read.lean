/-! ===== rules: both sides read all rules ===== -/
section WDs
variable {M K A Z D W W' Z2 A' Z' B : qm} {T kd vl pl : Int → Int} {L p q e k v i j x y z c d f n w t s a u ns g o b cl o' b' c1 cl0 rr ro ro' day r : Int} {N m mo : Nat}
theorem rul1_tr (h : RUL1 kd vl n s day K ro o b r mo) (f0 : ∀ bb : Nat, 2189 ≤ bb → bb ≤ 2191 → Z bb (ro' + r) 0 = K bb (ro + r) 0) (f1 : ∀ (bb : Nat) (q : Int), 2192 ≤ bb → bb ≤ 2195 → K 2189 (ro + r) 0 ≤ q → q ≤ K 2189 (ro + r) 0 + mo → Z bb (o' + q) 0 = K bb (o + q) 0) (f2 : ∀ q i, K 2189 (ro + r) 0 ≤ q → q ≤ K 2189 (ro + r) 0 + mo → 0 ≤ i → i < K 2194 (o + q) 0 → Z 2196 (b' + i) 0 = K 2196 (b + i) 0 ∧ Z 2197 (b' + i) 0 = K 2197 (b + i) 0) : RUL1 kd vl n s day Z ro' o' b' r mo := by
  obtain ⟨h1, h2, h3, h4, h5, h6, c', h7, h8⟩ := h
  unfold RUL1
  rw [f0 2189 (by decide) (by decide), f0 2190 (by decide) (by decide), f0 2191 (by decide) (by decide)]
  exact ⟨h1, h2, h3, h4, h5, clk_tr h6 (fun bb z1 z2 => f1 bb _ z1 z2 (Int.le_refl _) (by omega)) (fun i z1 z2 => f2 _ i (Int.le_refl _) (by omega) z1 z2), c', exp_tr h7 (fun bb q z1 z2 z3 z4 => f1 bb q z1 z2 (by omega) (by omega)) (fun q i z1 z2 z3 z4 => f2 q i (by omega) (by omega) z3 z4), h8⟩
/-- both have read the same rules, up to word c -/
def RIV (kd vl : Int → Int) (n rr c : Int) (A Z : qm) : Prop := A 727 6 0 = rr ∧ A 727 5 0 = c ∧ Z 2184 32 0 = rr ∧ 0 ≤ rr ∧ rr ≤ 12 ∧ KDS A kd ∧ (∀ j, 0 ≤ j → j ≤ 120 → A 730 j 0 = vl j) ∧ (∀ r, 0 ≤ r → r < rr → A 732 (0 + r) 0 = Z 2188 (12 + r) 0 ∧ ∃ mo, RUL1 kd vl n (A 733 r 0) (A 734 r 0) Z 12 60 400 r mo ∧ Z 2189 (12 + r) 0 + mo < Z 2184 33 0) ∧ 0 ≤ Z 2184 33 0 ∧ 3 * Z 2184 33 0 ≤ c ∧ 0 ≤ Z 2184 34 0 ∧ Z 2184 34 0 ≤ 2 * c ∧ STB Z (Z 2184 33 0) (Z 2184 34 0)
theorem riv_w (h : RIV kd vl n rr c A Z) (hc : c ≤ d) (fA : ∀ b x y, ¬ (b = 727 ∧ x = 5) → A' b x y = A b x y) (hA : A' 727 5 0 = d) (fZ : FW Z Z') : RIV kd vl n rr d A' Z' := by
  obtain ⟨a1, a2, a3, a4, a5, a6, a7, a8, a9, a10, a11, a12, a13⟩ := h
  have z33 : Z' 2184 33 0 = Z 2184 33 0 := fZ _ _ _ (by omega)
  have z34 : Z' 2184 34 0 = Z 2184 34 0 := fZ _ _ _ (by omega)
  refine ⟨(fA _ _ _ (by omega)).trans a1, hA, (fZ _ _ _ (by omega)).trans a3, a4, a5, fun j j0 j1 => (fA _ _ _ (by omega)).trans (a6 j j0 j1), fun j j0 j1 => (fA _ _ _ (by omega)).trans (a7 j j0 j1), fun r r0 r1 => ?_, by omega, by omega, by omega, by omega, ?_⟩
  · obtain ⟨b1, mo, b2, b3⟩ := a8 r r0 r1
    rw [fA 732 _ _ (by omega), fA 733 _ _ (by omega), fA 734 _ _ (by omega), fZ 2188 _ _ (by omega), fZ 2189 _ _ (by omega), z33]
    exact ⟨b1, mo, rul1_tr b2 (fun bb _ _ => fZ _ _ _ (by omega)) (fun bb q _ _ _ _ => fZ _ _ _ (by omega)) (fun q i _ _ _ _ => ⟨fZ _ _ _ (by omega), fZ _ _ _ (by omega)⟩), b3⟩
  · rw [z33, z34]
    intro x x0 x1
    rw [fZ 2194 _ _ (by omega)]
    exact a13 x x0 x1
/-- what reading changes -/
def FC0 (M A : qm) : Prop := ∀ b x y, ¬ (b = 727 ∧ (x = 5 ∨ x = 6)) → ¬ (732 ≤ b ∧ b ≤ 734) → A b x y = M b x y
def OLR (K Z : qm) : Prop := ∀ b x y, ¬ (b = 2184 ∧ 26 ≤ x ∧ x ≤ 36) → ¬ b = 2205 → ¬ ((b = 2196 ∨ b = 2197) ∧ 400 ≤ x) → ¬ (2192 ≤ b ∧ b ≤ 2195 ∧ 60 ≤ x) → ¬ (2188 ≤ b ∧ b ≤ 2191 ∧ 12 ≤ x) → Z b x y = K b x y
theorem old_t (h : OLR K Z) (h2 : OLR Z W) : OLR K W := fun b x y z1 z2 z3 z4 z5 => (h2 b x y z1 z2 z3 z4 z5).trans (h b x y z1 z2 z3 z4 z5)
theorem old_w (h : FW K Z) : OLR K Z := fun b x y z1 _ _ _ _ => h b x y (by omega)
theorem fc_t (h : FC0 M A) (h2 : FC0 A B) : FC0 M B := fun b x y z1 z2 => (h2 b x y z1 z2).trans (h b x y z1 z2)
/-- one rule -/
theorem rule_both (hW : WDS T L kd vl pl n) (hl : LSW kd n) (hr : RWD T L kd vl pl n c Z) (h : RIV kd vl n rr c A Z) : ∃ b A' Z' c', qf_X6_readRule 20000 A = some (b, A') ∧ qf_X15_rule 20000 Z = some ((), Z') ∧ FC0 A A' ∧ OLR Z Z' ∧ A' 727 5 0 = c' ∧ 0 ≤ c' ∧ c' ≤ n ∧ KDS A' kd ∧ ((b = 1 ∧ kd c' ≠ 63 ∧ RWD T L kd vl pl n c' Z' ∧ RIV kd vl n (rr + 1) c' A' Z') ∨ ((b = 0 ∨ (b = 1 ∧ kd c' = 63)) ∧ Z' 2184 31 0 = 1 ∧ Z' 2184 26 0 = pl c')) := by
  have h' := h
  obtain ⟨a1, a2, a3, a4, a5, a6, a7, a8, a9, a10, a11, a12, a13⟩ := h
  have n1 := hW.2.2.2.1
  have c0 := hr.2.2.1
  have cn := hr.2.2.2.1
  have cuA : cu A c = A := qw_eqv a2
  have nw : NEW A 732 0 rr (vl c) = NEW Z 2188 12 rr (vl c) := by
    unfold NEW
    exact propext ⟨fun z r r0 r1 => by rw [← (a8 r r0 r1).1]; exact z r r0 r1, fun z r r0 r1 => by rw [(a8 r r0 r1).1]; exact z r r0 r1⟩
  by_cases ok : kd c = 97 ∧ rr < 12 ∧ NEW A 732 0 rr (vl c)
  · obtain ⟨k97, r12, nn⟩ := ok
    obtain ⟨A', e1, fA, cA, hA⟩ := rule1_C (M := A) (vl := vl) hl a6 a1 a4 r12 a7 c0 cn k97 nn
    rw [cuA] at e1
    have nn2 := nn
    rw [nw] at nn2
    obtain ⟨Z', e2, fZ, hZ⟩ := ruleY_K (vl := vl) hW hl hr a3 a4 r12 k97 nn2 rfl a9 a10 a11 a12 a13
    obtain ⟨p1, p2, p3⟩ := pR_ok (vl := vl) hl c0 cn k97
    have kA : KDS A' kd := fun j j0 j1 => (fA _ _ _ (by omega) (by omega)).trans (a6 j j0 j1)
    refine ⟨_, A', Z', _, e1, e2, fun b x y z1 z2 => fA b x y z1 (by omega), fun b x y z1 z2 z3 z4 z5 => fZ b x y z1 z2 (by omega) (by omega) (by omega), cA, by omega, p3, kA, ?_⟩
    rcases hZ with ⟨z1, z2, z3, z4, z5, z6, ⟨mo, z7, z8⟩, z9, z10, z11, z12, z13⟩ | ⟨z1, z2, z3⟩
    · obtain ⟨y1, y2, y3, y4⟩ := hA z1
      refine Or.inl ⟨z1, z2, z3, y1, cA, z5, by omega, by omega, kA, fun j j0 j1 => (fA _ _ _ (by omega) (by omega)).trans (a7 j j0 j1), fun r r0 r1 => ?_, by omega, z10, by omega, z12, z13⟩
      by_cases g : r = rr
      · rw [g, Int.zero_add, y2, y3, y4, z6]
        exact ⟨rfl, mo, z7, z8⟩
      · obtain ⟨b1, mo', b2, b3⟩ := a8 r r0 (by omega)
        rw [fA 732 _ _ (by omega) (by omega), fA 733 _ _ (by omega) (by omega), fA 734 _ _ (by omega) (by omega), z4 2188 _ _ (by omega) (by omega) (by omega) (by omega) (by omega), z4 2189 _ _ (by omega) (by omega) (by omega) (by omega) (by omega)]
        have q0 := b2.2.1
        refine ⟨b1, mo', rul1_tr b2 (fun bb _ _ => z4 _ _ _ (by omega) (by omega) (by omega) (by omega) (by omega)) (fun bb q _ _ _ _ => z4 _ _ _ (by omega) (by omega) (by omega) (by omega) (by omega)) (fun q i x0 x1 i0 i1 => ?_), by omega⟩
        have := a13 q (by omega) (by omega)
        exact ⟨z4 _ _ _ (by omega) (by omega) (by omega) (by omega) (by omega), z4 _ _ _ (by omega) (by omega) (by omega) (by omega) (by omega)⟩
    · refine Or.inr ⟨?_, z2, z3⟩
      rcases z1 with z1 | z1
      · exact Or.inl z1
      · rcases p1 with p | p
        · exact Or.inl p
        · exact Or.inr ⟨p, z1⟩
  · have e1 := rule0_C (M := A) (vl := vl) hl a6 a1 a4 a5 (a7 c c0 (by omega)) c0 cn ok
    rw [cuA] at e1
    obtain ⟨Z', e2, fZ, z1, z2⟩ := ruleN_K (vl := vl) hW hr a3 a4 a5 (Or.inr (by rw [← nw]; exact ok))
    exact ⟨0, A, Z', c, e1, e2, fun _ _ _ _ _ => rfl, fun b x y z1 z2 z3 z4 z5 => fZ b x y z1 z2 (by omega) (by omega) (by omega), a2, c0, cn, a6, Or.inr ⟨Or.inl rfl, z1, z2⟩⟩
theorem l38_go (h : qf_X15_read_L38_b 20000 K = some (.inr W)) (N : Nat) : qf_X15_read_L38 20000 (N + 1) K = qf_X15_read_L38 20000 N W := by
  show qloop _ (N + 1) K = _
  rw [qloop.eq_2]
  (try dsimp only)
  rw [h]
  rfl
theorem l38_stop (h : K 2184 31 0 = 1 ∨ K 2184 28 0 = 0) (N : Nat) : qf_X15_read_L38 20000 (N + 1) K = some (.inr ((), K)) := by
  show qloop _ (N + 1) K = _
  rw [qloop.eq_2]
  (try dsimp only)
  have : qf_X15_read_L38_b 20000 K = some (.inl (.inr ((), K))) := by
    unfold qf_X15_read_L38_b
    by_cases g : K 2184 31 0 = 0
    · rw [if_pos g, if_pos (by omega)]
    · rw [if_neg g]
  rw [this]
/-- all rules -/
theorem all_both (hW : WDS T L kd vl pl n) (hl : LSW kd n) : ∀ (m N N2 : Nat) (i c : Int) (A Z : qm), i + m = 13 → m < N → m + 2 < N2 → RIV kd vl n i c A Z → RWD T L kd vl pl n c Z → ∃ A' Z' res, qf_X6_readRules_L16 20000 N i A = some (.inl (res, A')) ∧ (qf_X15_rule 20000 Z).bind (fun r => qf_X15_read_L38 20000 N2 r.2) = some (.inr ((), Z')) ∧ FC0 A A' ∧ OLR Z Z' ∧ ((res = 1 ∧ Z' 2184 31 0 = 0 ∧ ∃ rr c, RIV kd vl n rr c A' Z' ∧ c ≤ n) ∨ (res = 0 ∧ Z' 2184 31 0 = 1 ∧ ∃ c', Z' 2184 26 0 = pl c' ∧ A' 727 5 0 = c' ∧ 0 ≤ c' ∧ c' ≤ n)) := by
  have n1 := hW.2.2.2.1
  intro m
  induction m with
  | zero =>
    intro N N2 i c A Z h1 _ _ h
    have := h.2.2.2.2.1
    omega
  | succ m ih =>
    intro N N2 i c A Z h1 hN hN2 h hr
    obtain ⟨N, rfl⟩ : ∃ N', N = N' + 1 := ⟨N - 1, by omega⟩
    obtain ⟨N2, rfl⟩ : ∃ N', N2 = N' + 1 := ⟨N2 - 1, by omega⟩
    obtain ⟨b, A1, Z1, c1, e1, e2, fA, fZ, cA, c0, cn, kA, hb⟩ := rule_both hW hl hr h
    have i12 := h.2.2.2.2.1
    have i00 := h.2.2.2.1
    have cuA : cu A1 c1 = A1 := qw_eqv cA
    rw [e2]
    simp only [Option.bind_some]
    -- the class's step behind the rule
    have stC : b = 1 → qf_X6_readRules_L16_b 20000 i A = (if kd c1 = 101 then some (.inl (.inl (1, A1))) else (qf_X6_skipSign 20000 59 A1).bind (fun r11 => if r11.1 = 0 then some (.inl (.inl (0, r11.2))) else if 0 ≤ (r11.2 727 5 0) ∧ (r11.2 727 5 0) < 121 then if (r11.2 729 (r11.2 727 5 0) 0) = 101 then some (.inl (.inl (1, r11.2))) else some (.inr ((w32 (i + 1)), r11.2)) else none)) := fun hb1 => by
      unfold qf_X6_readRules_L16_b
      rw [if_neg (by omega), e1]
      simp only [Option.bind_some]
      rw [if_neg (by omega), cA, if_pos (show 0 ≤ c1 ∧ c1 < 121 by omega), kA c1 c0 (by omega)]
    have stE : ∀ (res : Int) (X : qm), qf_X6_readRules_L16_b 20000 i A = some (.inl (.inl (res, X))) → qf_X6_readRules_L16 20000 (N + 1) i A = some (.inl (res, X)) := fun res X hx => by
      show qloop _ (N + 1) (i, A) = _
      rw [qloop.eq_2]
      (try dsimp only)
      rw [hx]
    have stG : ∀ (j : Int) (X : qm), qf_X6_readRules_L16_b 20000 i A = some (.inr (j, X)) → qf_X6_readRules_L16 20000 (N + 1) i A = qf_X6_readRules_L16 20000 N j X := fun j X hx => by
      show qloop _ (N + 1) (i, A) = _
      rw [qloop.eq_2]
      (try dsimp only)
      rw [hx]
      rfl
    rcases hb with ⟨b1, b2, b3, b4⟩ | ⟨b1, b2, b3⟩
    · have r12 := b4.2.2.2.2.1
      obtain ⟨d1, d2, d3, d4⟩ := rwd_k b3 b2
      have ks := kr_small d3
      have k59 := kr_iff d3 (s := 59) (by unfold isG; decide)
      have s1 := stC b1
      by_cases g : kd c1 = 101
      · rw [if_pos g] at s1
        exact ⟨A1, Z1, 1, stE _ _ s1, l38_stop (Or.inr (by rw [d2]; exact ks.2.2.1.mpr g)) N2, fA, fZ, Or.inl ⟨rfl, d1, _, _, b4, cn⟩⟩
      · rw [if_neg g] at s1
        by_cases g59 : kd c1 = 59
        · have l1 := lst_lt hl cn g b2
          obtain ⟨U, e3, fU, rU, _⟩ := take1_K hW b3 b2 g
          obtain ⟨A2, hA2⟩ : ∃ X, cu A1 (c1 + 1) = X := ⟨_, rfl⟩
          have sk : qf_X6_skipSign 20000 59 A1 = some (1, A2) := by
            rw [← cuA, skip_y hl kA c0 cn g59 (by decide) (by decide), hA2]
          have cA2 : A2 727 5 0 = c1 + 1 := by rw [← hA2]; exact cu_c
          have fA2 : ∀ b x y, ¬ (b = 727 ∧ x = 5) → A2 b x y = A1 b x y := fun b x y z => by rw [← hA2]; exact cu_o z
          have kA2 : KDS A2 kd := fun j j0 j1 => (fA2 _ _ _ (by omega)).trans (kA j j0 j1)
          have ri2 : RIV kd vl n (i + 1) (c1 + 1) A2 U := riv_w b4 (by omega) fA2 cA2 fU
          have fcA2 : FC0 A A2 := fc_t fA (fun b x y z1 z2 => fA2 b x y (by omega))
          have olU : OLR Z U := old_t fZ (old_w fU)
          rw [sk] at s1
          simp only [Option.bind_some] at s1
          rw [if_neg (by decide), cA2, if_pos (show 0 ≤ c1 + 1 ∧ c1 + 1 < 121 by omega), kA2 (c1 + 1) (by omega) (by omega), w32_id (x := i + 1) (by omega) (by omega)] at s1
          have j67 : qf_X15_read_L38_b 20000 Z1 = (if U 2184 31 0 = 0 then if U 2184 28 0 = 0 then some (.inr U) else (qf_X15_rule 20000 U).bind (fun r19 => some (.inr r19.2)) else some (.inr U)) := by
            unfold qf_X15_read_L38_b qf_X15_read_J67
            rw [if_pos d1, d2, if_neg (fun z => g (ks.2.2.1.mp z)), if_pos (k59.mpr g59), e3]
            rfl
          obtain ⟨N2, rfl⟩ : ∃ N', N2 = N' + 1 := ⟨N2 - 1, by omega⟩
          by_cases w63 : kd (c1 + 1) = 63
          · have U1 : U 2184 31 0 = 1 := by
              rcases rU.2.2.2.2.2 with ⟨_, y⟩ | ⟨x, _⟩
              · exact y
              · exact absurd w63 x
            rw [if_neg (by omega)] at s1 j67
            obtain ⟨N, rfl⟩ : ∃ N', N = N' + 1 := ⟨N - 1, by omega⟩
            have e5 := rule0_C (M := A2) (vl := vl) hl kA2 ri2.1 ri2.2.2.2.1 ri2.2.2.2.2.1 (ri2.2.2.2.2.2.2.1 (c1 + 1) (by omega) (by omega)) (show 0 ≤ c1 + 1 by omega) (by omega) (fun z => by omega)
            rw [show cu A2 (c1 + 1) = A2 from qw_eqv cA2] at e5
            refine ⟨A2, U, 0, ?_, ?_, fcA2, olU, Or.inr ⟨rfl, U1, c1 + 1, rU.2.2.2.2.1, cA2, by omega, by omega⟩⟩
            · rw [stG _ _ s1]
              show qloop _ (N + 1) (i + 1, A2) = _
              rw [qloop.eq_2]
              (try dsimp only)
              have : qf_X6_readRules_L16_b 20000 (i + 1) A2 = some (.inl (.inl (0, A2))) := by
                unfold qf_X6_readRules_L16_b
                rw [if_neg (by omega), e5]
                simp only [Option.bind_some]
                (first | rw [if_pos trivial] | rw [if_pos rfl])
              rw [this]
            · rw [l38_go j67]
              exact l38_stop (Or.inl U1) N2
          · obtain ⟨u1, u2, u3, u4⟩ := rwd_k rU w63
            have ks2 := kr_small u3
            rw [if_pos u1, u2] at j67
            by_cases g101 : kd (c1 + 1) = 101
            · rw [if_pos g101] at s1
              rw [if_pos (ks2.2.2.1.mpr g101)] at j67
              refine ⟨A2, U, 1, stE _ _ s1, ?_, fcA2, olU, Or.inl ⟨rfl, u1, _, _, ri2, by omega⟩⟩
              rw [l38_go j67]
              exact l38_stop (Or.inr (by rw [u2]; exact ks2.2.2.1.mpr g101)) N2
            · rw [if_neg g101] at s1
              rw [if_neg (fun z => g101 (ks2.2.2.1.mp z))] at j67
              obtain ⟨A', Z', res, x1, x2, x3, x4, x5⟩ := ih N (N2 + 1) (i + 1) (c1 + 1) A2 U (by omega) (by omega) (by omega) ri2 rU
              refine ⟨A', Z', res, (stG _ _ s1).trans x1, ?_, fc_t fcA2 x3, old_t olU x4, x5⟩
              obtain ⟨⟨_, Y⟩, hY⟩ : ∃ Y, qf_X15_rule 20000 U = some Y := by
                rcases hq : qf_X15_rule 20000 U with _ | Y
                · rw [hq] at x2
                  cases x2
                · exact ⟨Y, rfl⟩
              rw [hY] at j67 x2
              rw [l38_go j67]
              exact x2
        · have sk : qf_X6_skipSign 20000 59 A1 = some (0, A1) := by
            rw [← cuA, skip_n hl kA c0 cn g59, cuA]
          rw [sk] at s1
          simp only [Option.bind_some] at s1
          (first | rw [if_pos trivial] at s1 | rw [if_pos rfl] at s1)
          have j67 : qf_X15_read_L38_b 20000 Z1 = some (.inr (qw Z1 2184 31 0 1)) := by
            unfold qf_X15_read_L38_b qf_X15_read_J67
            rw [if_pos d1, d2, if_neg (fun z => g (ks.2.2.1.mp z)), if_neg (fun z => g59 (k59.mp z)), take0_K (Or.inl d1)]
            simp only [Option.bind_some]
            rw [if_neg (show ¬ qw Z1 2184 31 0 1 2184 31 0 = 0 by rw [qw_s]; decide)]
          obtain ⟨N2, rfl⟩ : ∃ N', N2 = N' + 1 := ⟨N2 - 1, by omega⟩
          refine ⟨A1, qw Z1 2184 31 0 1, 0, stE _ _ s1, ?_, fA, old_t fZ (fun b x y z1 z2 z3 z4 z5 => by rw [qw_ap, if_neg (by omega)]), Or.inr ⟨rfl, qw_s, c1, (qw_i (by decide)).trans b3.2.2.2.2.1, cA, c0, cn⟩⟩
          rw [l38_go j67]
          exact l38_stop (Or.inl qw_s) N2
    · have en := l38_stop (Or.inl b2) N2
      rcases b1 with b1 | ⟨b1, k63⟩
      · have s1 : qf_X6_readRules_L16_b 20000 i A = some (.inl (.inl (0, A1))) := by
          unfold qf_X6_readRules_L16_b
          rw [if_neg (by omega), e1]
          simp only [Option.bind_some]
          rw [if_pos b1]
        exact ⟨A1, Z1, 0, stE _ _ s1, en, fA, fZ, Or.inr ⟨rfl, b2, c1, b3, cA, c0, cn⟩⟩
      · have s1 := stC b1
        rw [if_neg (by omega), ← cuA, skip_n hl kA c0 cn (by omega), cuA] at s1
        simp only [Option.bind_some] at s1
        (first | rw [if_pos trivial] at s1 | rw [if_pos rfl] at s1)
        exact ⟨A1, Z1, 0, stE _ _ s1, en, fA, fZ, Or.inr ⟨rfl, b2, c1, b3, cA, c0, cn⟩⟩
end WDs
