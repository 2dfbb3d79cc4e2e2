/-! ===== rules: the reference reads a rule ===== -/
section WDr
variable {M K A Z D W W' Z2 : qm} {T kd vl pl : Int → Int} {L p q e k v i j x y z c d f n w t s a u ns g o b cl o' b' c1 cl0 rr : Int} {N m : Nat}
/-- rule r of the reference is what stands at word s -/
def RUL1 (kd vl : Int → Int) (n s day : Int) (K : qm) (ro o b r : Int) (mo : Nat) : Prop := K 2190 (ro + r) 0 = mo ∧ 0 ≤ K 2189 (ro + r) 0 ∧ K 2191 (ro + r) 0 = day ∧ 0 ≤ s ∧ s ≤ n ∧ CLK kd vl K o b (K 2189 (ro + r) 0) s ∧ ∃ c', EXP kd vl K o b mo (pC kd vl s).2 (K 2189 (ro + r) 0 + 1) c' ∧ kd c' ≠ 33
/-- what reading a rule changes in the reference -/
def RFK (K Z : qm) (rr ns g : Int) : Prop := ∀ b x y, ¬ (b = 2184 ∧ 26 ≤ x ∧ x ≤ 36) → ¬ b = 2205 → ¬ ((b = 2196 ∨ b = 2197) ∧ 400 + ns ≤ x) → ¬ (2192 ≤ b ∧ b ≤ 2195 ∧ 60 + g ≤ x) → ¬ (2188 ≤ b ∧ b ≤ 2191 ∧ x = 12 + rr) → Z b x y = K b x y
theorem ruleN_K (hW : WDS T L kd vl pl n) (hr : RWD T L kd vl pl n c K) (h32 : K 2184 32 0 = rr) (r0 : 0 ≤ rr) (r1 : rr ≤ 12) (hn : kd c = 63 ∨ ¬ (kd c = 97 ∧ rr < 12 ∧ NEW K 2188 12 rr (vl c))) : ∃ Z, qf_X15_rule 20000 K = some ((), Z) ∧ RFK K Z rr 0 0 ∧ Z 2184 31 0 = 1 ∧ Z 2184 26 0 = pl c := by
  have j36 : qf_X15_rule_J36 20000 K = some ((), qw K 2184 31 0 1) := by
    unfold qf_X15_rule_J36 qf_X15_rule_J41 qbnd
    rw [if_pos (Or.inr rfl : (1 : Int) = 0 ∨ (1 : Int) = 1)]
    (try dsimp only)
    rw [if_neg (show ¬ qw K 2184 31 0 1 2184 31 0 = 0 by rw [qw_s]; decide)]
  refine ⟨qw K 2184 31 0 1, ?_, fun b x y z1 z2 z3 z4 z5 => by rw [qw_ap, if_neg (by omega)], qw_s, (qw_i (by decide)).trans hr.2.2.2.2.1⟩
  unfold qf_X15_rule
  by_cases g : kd c = 63
  · have : K 2184 31 0 = 1 := by
      rcases hr.2.2.2.2.2 with ⟨_, y⟩ | ⟨x, _⟩
      · exact y
      · exact absurd g x
    rw [if_neg (by omega)]
    exact j36
  · obtain ⟨b1, b2, b3, b4⟩ := rwd_k hr g
    have ks := kr_small b3
    rw [if_pos b1, b2]
    by_cases g2 : kd c = 97
    · rw [if_pos (ks.2.1.mpr g2), h32]
      by_cases g3 : rr = 12
      · rw [if_pos g3]
        exact j36
      · rw [if_neg g3, isnew_K h32 r0 r1, b4 (Or.inr g2)]
        have nn : ¬ NEW K 2188 12 rr (vl c) := fun z => by
          rcases hn with h | h
          · exact g h
          · exact h ⟨g2, by omega, z⟩
        rw [b01_f nn]
        simp only [Option.bind_some]
        rw [if_pos trivial]
        exact j36
    · rw [if_neg (fun z => g2 (ks.2.1.mp z))]
      exact j36
/-- behind the clauses: the day -/
theorem day_K (hW : WDS T L kd vl pl n) (hl : LSW kd n) (q0 : 0 ≤ q) (q1 : q < 24) (hr : RWD T L kd vl pl n c K) (h63 : kd c ≠ 63) : ∃ Z, qf_X15_rule_J183 20000 q K = some ((), Z) ∧ (∀ b x y, ¬ (b = 2184 ∧ 26 ≤ x ∧ x ≤ 31) → ¬ (b = 2191 ∧ x = q) → Z b x y = K b x y) ∧ ((kd c = 64 ∧ kd (c + 1) = 48 ∧ RWD T L kd vl pl n (c + 2) Z ∧ Z 2191 q 0 = w32 (vl (c + 1))) ∨ (kd c = 64 ∧ kd (c + 1) ≠ 48 ∧ Z 2184 31 0 = 1 ∧ Z 2184 26 0 = pl (c + 1)) ∨ (kd c ≠ 64 ∧ RWD T L kd vl pl n c Z ∧ Z 2191 q 0 = K 2191 q 0)) := by
  have c0 := hr.2.2.1
  have cn := hr.2.2.2.1
  obtain ⟨b1, b2, b3, b4⟩ := rwd_k hr h63
  have k64 := kr_iff b3 (s := 64) (by unfold isG; decide)
  unfold qf_X15_rule_J183 qbnd
  rw [if_pos b1, b2]
  by_cases g : kd c = 64
  · rw [if_pos (k64.mpr g)]
    obtain ⟨U, e1, fU, rU, cl⟩ := take1_K hW hr h63 (by omega)
    obtain ⟨V, hV⟩ : ∃ V, qw U 2191 q 0 (w32 (U 2184 29 0)) = V := ⟨_, rfl⟩
    have fV : ∀ b x y, ¬ (b = 2191 ∧ x = q) → V b x y = U b x y := fun b x y z => by rw [← hV, qw_ap, if_neg (by omega)]
    have rV : RWD T L kd vl pl n (c + 1) V := rwd_fr rU (fun b x y z => fV b x y (by omega))
    have sV : ∀ b x y, ¬ (b = 2184 ∧ 26 ≤ x ∧ x ≤ 31) → ¬ (b = 2191 ∧ x = q) → V b x y = K b x y := fun b x y z1 z2 => by
      rw [fV b x y z2]
      exact fU b x y z1
    rw [e1]
    simp only [Option.bind_some]
    rw [if_pos (show 0 ≤ q ∧ q < 24 from ⟨q0, q1⟩), hV]
    (try dsimp only)
    by_cases w63 : kd (c + 1) = 63
    · have V1 : V 2184 31 0 = 1 := by
        rcases rV.2.2.2.2.2 with ⟨_, y⟩ | ⟨x, _⟩
        · exact y
        · exact absurd w63 x
      rw [takew_K V1, takew_K V1]
      refine ⟨V, ?_, sV, Or.inr (Or.inl ⟨g, by omega, V1, rV.2.2.2.2.1⟩)⟩
      by_cases g2 : V 2184 28 0 = 1
      · rw [if_pos g2]
        rfl
      · rw [if_neg g2]
        rfl
    · obtain ⟨d1, d2, d3, d4⟩ := rwd_k rV w63
      have ks := kr_small d3
      rw [d2]
      by_cases g2 : kd (c + 1) = 48
      · obtain ⟨X, e2, fX, rX, cl2⟩ := take1_K hW rV w63 (by omega)
        rw [if_pos (ks.1.mpr g2), e2]
        refine ⟨X, rfl, fun b x y z1 z2 => by rw [fX b x y z1]; exact sV b x y z1 z2, Or.inl ⟨g, g2, ?_, ?_⟩⟩
        · rw [show c + 2 = c + 1 + 1 by omega]
          exact rX
        · rw [fX _ _ _ (by omega), ← hV, qw_s]
          obtain ⟨u1, u2, u3, u4⟩ := rwd_k rU w63
          rw [u4 (Or.inl g2)]
      · rw [if_neg (fun z => g2 (ks.1.mp z)), take0_K (Or.inl d1)]
        refine ⟨qw V 2184 31 0 1, rfl, fun b x y z1 z2 => by rw [qw_ap, if_neg (by omega)]; exact sV b x y z1 z2, Or.inr (Or.inl ⟨g, g2, qw_s, (qw_i (by decide)).trans rV.2.2.2.2.1⟩)⟩
  · rw [if_neg (fun z => g (k64.mp z))]
    exact ⟨K, rfl, fun _ _ _ _ _ => rfl, Or.inr (Or.inr ⟨g, hr, rfl⟩)⟩
theorem ruleY_K (hW : WDS T L kd vl pl n) (hl : LSW kd n) (hr : RWD T L kd vl pl n c K) (h32 : K 2184 32 0 = rr) (r0 : 0 ≤ rr) (r1 : rr < 12) (h97 : kd c = 97) (hn : NEW K 2188 12 rr (vl c)) (hg : K 2184 33 0 = g) (g0 : 0 ≤ g) (g1 : 3 * g ≤ c) (s0 : 0 ≤ K 2184 34 0) (s1 : K 2184 34 0 ≤ 2 * c) (hS : STB K g (K 2184 34 0)) : ∃ Z, qf_X15_rule 20000 K = some ((), Z) ∧ RFK K Z rr 0 0 ∧ (((pR kd vl c).1 = 1 ∧ kd (pR kd vl c).2.1 ≠ 63 ∧ RWD T L kd vl pl n (pR kd vl c).2.1 Z ∧ RFK K Z rr (K 2184 34 0) g ∧ Z 2184 32 0 = rr + 1 ∧ Z 2188 (12 + rr) 0 = vl c ∧ (∃ mo, RUL1 kd vl n (c + 2) (pR kd vl c).2.2 Z 12 60 400 rr mo ∧ Z 2189 (12 + rr) 0 + mo < Z 2184 33 0) ∧ g ≤ Z 2184 33 0 ∧ 3 * Z 2184 33 0 ≤ (pR kd vl c).2.1 ∧ K 2184 34 0 ≤ Z 2184 34 0 ∧ Z 2184 34 0 ≤ 2 * (pR kd vl c).2.1 ∧ STB Z (Z 2184 33 0) (Z 2184 34 0)) ∨ (((pR kd vl c).1 = 0 ∨ kd (pR kd vl c).2.1 = 63) ∧ Z 2184 31 0 = 1 ∧ Z 2184 26 0 = pl (pR kd vl c).2.1)) := by
  have n1 := hW.2.2.2.1
  have c0 := hr.2.2.1
  have cn := hr.2.2.2.1
  have cq : 0 ≤ 12 + rr ∧ 12 + rr < 24 := by omega
  obtain ⟨b1, b2, b3, b4⟩ := rwd_k hr (by omega)
  have ks := kr_small b3
  obtain ⟨X, hX⟩ : ∃ X, qw (qw (qw (qw (qw K 2184 32 0 (rr + 1)) 2188 (12 + rr) 0 (vl c)) 2189 (12 + rr) 0 g) 2190 (12 + rr) 0 0) 2191 (12 + rr) 0 0 = X := ⟨_, rfl⟩
  have fX : ∀ b x y, ¬ (b = 2184 ∧ x = 32) → ¬ (2188 ≤ b ∧ b ≤ 2191 ∧ x = 12 + rr) → X b x y = K b x y := fun b x y z1 z2 => by
    rw [← hX, qw_ap, if_neg (by omega), qw_ap, if_neg (by omega), qw_ap, if_neg (by omega), qw_ap, if_neg (by omega), qw_ap, if_neg (by omega)]
  have X32 : X 2184 32 0 = rr + 1 := by rw [← hX, qw_a (by decide), qw_a (by decide), qw_a (by decide), qw_a (by decide)]; exact qw_s
  have X88 : X 2188 (12 + rr) 0 = vl c := by rw [← hX, qw_a (by decide), qw_a (by decide), qw_a (by decide)]; exact qw_s
  have X89 : X 2189 (12 + rr) 0 = g := by rw [← hX, qw_a (by decide), qw_a (by decide)]; exact qw_s
  have X90 : X 2190 (12 + rr) 0 = 0 := by rw [← hX, qw_a (by decide)]; exact qw_s
  have X91 : X 2191 (12 + rr) 0 = 0 := by rw [← hX]; exact qw_s
  have rX : RWD T L kd vl pl n c X := rwd_fr hr (fun b x y z => fX b x y (by omega) (by omega))
  obtain ⟨U, e1, fU, rU, cl⟩ := take1_K hW rX (by omega) (by omega)
  have st : qf_X15_rule 20000 K = if U 2184 28 0 = 58 then qf_X15_rule_J124 20000 (12 + rr) 1 U else qf_X15_rule_J124 20000 (12 + rr) 0 U := by
    unfold qf_X15_rule
    rw [if_pos b1, b2, if_pos (ks.2.1.mpr h97), h32, if_neg (by omega), isnew_K h32 r0 (by omega), b4 (Or.inr h97), b01_t hn]
    simp only [Option.bind_some]
    rw [if_neg (by decide)]
    unfold qf_X15_rule_J41 qbnd
    rw [if_pos (Or.inl rfl : (0 : Int) = 0 ∨ (0 : Int) = 1), qw_eqv b1]
    (try dsimp only)
    rw [if_pos b1, h32, w32_id (x := 12 + rr) (by omega) (by omega), w32_id (x := rr + 1) (by omega) (by omega), if_pos cq, show qw K 2184 32 0 (rr + 1) 2184 29 0 = vl c from (qw_i (by decide)).trans (b4 (Or.inr h97)), if_pos cq, show qw (qw K 2184 32 0 (rr + 1)) 2188 (12 + rr) 0 (vl c) 2184 33 0 = g from (qw_a (by decide)).trans ((qw_i (by decide)).trans hg), if_pos cq, if_pos cq, hX, e1]
    rfl
  -- wrong: nothing more is read
  have done : ∀ V : qm, V 2184 31 0 = 1 → (qf_X15_rule_L138 20000 20000 (12 + rr) V).bind (fun r => (match r with | .inl o => some o | .inr (_, M33) => qf_X15_rule_J183 20000 (12 + rr) M33)) = some ((), V) := fun V h => by
    have : qf_X15_rule_L138 20000 20000 (12 + rr) V = some (.inr ((), V)) := by
      show qloop _ (19999 + 1) (12 + rr, V) = _
      rw [qloop.eq_2]
      (try dsimp only)
      have : qf_X15_rule_L138_b 20000 (12 + rr) V = some (.inl (.inr ((), V))) := by
        unfold qf_X15_rule_L138_b
        rw [if_neg (by omega)]
      rw [this]
    rw [this]
    simp only [Option.bind_some]
    unfold qf_X15_rule_J183
    rw [if_neg (by omega)]
  have stop : ∀ (V W : qm) (t : Int), qf_X15_take 20000 t V = some ((), W) → W 2184 31 0 = 1 → qf_X15_rule_J124 20000 (12 + rr) t V = some ((), W) := fun V W t h1 h2 => by
    unfold qf_X15_rule_J124
    rw [h1]
    simp only [Option.bind_some]
    rw [if_neg (by omega)]
    exact done W h2
  have fKU : ∀ b x y, ¬ (b = 2184 ∧ 26 ≤ x ∧ x ≤ 32) → ¬ (2188 ≤ b ∧ b ≤ 2191 ∧ x = 12 + rr) → U b x y = K b x y := fun b x y z1 z2 => by
    rw [fU b x y (by omega)]
    exact fX b x y (by omega) z2
  rw [st]
  unfold pR
  by_cases w63 : kd (c + 1) = 63
  · have U1 : U 2184 31 0 = 1 := by
      rcases rU.2.2.2.2.2 with ⟨_, y⟩ | ⟨x, _⟩
      · exact y
      · exact absurd w63 x
    rw [if_neg (show ¬ kd (c + 1) = 58 by omega)]
    refine ⟨U, ?_, fun b x y z1 z2 z3 z4 z5 => fKU b x y (by omega) z5, Or.inr ⟨Or.inl rfl, U1, rU.2.2.2.2.1⟩⟩
    by_cases g2 : U 2184 28 0 = 58
    · rw [if_pos g2]
      exact stop U U 1 (takew_K U1) U1
    · rw [if_neg g2]
      exact stop U U 0 (takew_K U1) U1
  · obtain ⟨d1, d2, d3, d4⟩ := rwd_k rU w63
    have k58 := kr_iff d3 (s := 58) (by unfold isG; decide)
    rw [d2]
    by_cases g58 : kd (c + 1) = 58
    · rw [if_pos (k58.mpr g58), if_pos g58]
      obtain ⟨V, e2, fV, rV, cl2⟩ := take1_K hW rU w63 (by omega)
      rw [show c + 1 + 1 = c + 2 by omega] at rV
      have fKV : ∀ b x y, ¬ (b = 2184 ∧ 26 ≤ x ∧ x ≤ 32) → ¬ (2188 ≤ b ∧ b ≤ 2191 ∧ x = 12 + rr) → V b x y = K b x y := fun b x y z1 z2 => by
        rw [fV b x y (by omega)]
        exact fKU b x y z1 z2
      obtain ⟨o1, o2, o3, o4⟩ := pC_ok (vl := vl) hl (show 0 ≤ c + 2 by omega) (by omega)
      by_cases v63 : kd (c + 2) = 63
      · have V1 : V 2184 31 0 = 1 := by
          rcases rV.2.2.2.2.2 with ⟨_, y⟩ | ⟨x, _⟩
          · exact y
          · exact absurd v63 x
        have pe : pC kd vl (c + 2) = (0, c + 2) := by
          have h6 := pS_63 (vl := vl) (m := 12) (d := 0) v63
          unfold pC
          rw [if_pos h6.1, h6.2]
        rw [pe, if_pos rfl]
        exact ⟨V, stop U V 1 e2 V1, fun b x y z1 z2 z3 z4 z5 => fKV b x y (by omega) z5, Or.inr ⟨Or.inl rfl, V1, rV.2.2.2.2.1⟩⟩
      · have V1 := (rwd_k rV v63).1
        have V34 : V 2184 34 0 = K 2184 34 0 := fKV _ _ _ (by omega) (by omega)
        have V33 : V 2184 33 0 = g := (fKV _ _ _ (by omega) (by omega)).trans hg
        have VS : STB V g (K 2184 34 0) := fun x x0 x1 => by
          rw [fKV _ _ _ (by omega) (by omega)]
          exact hS x x0 x1
        have V8 : ∀ bb : Nat, 2188 ≤ bb → bb ≤ 2191 → V bb (12 + rr) 0 = X bb (12 + rr) 0 := fun bb z1 z2 => by
          rw [fV _ _ _ (by omega)]
          exact fU _ _ _ (by omega)
        have V32 : V 2184 32 0 = rr + 1 := by
          rw [fV _ _ _ (by omega), fU _ _ _ (by omega)]
          exact X32
        obtain ⟨Y, e3, cY, hY⟩ := clause_K (vl := vl) hW hl rV v63 (by omega) (by omega) V33 g0 (by omega)
        have e4 : qf_X15_rule_J124 20000 (12 + rr) 1 U = (qf_X15_rule_L138 20000 20000 (12 + rr) Y).bind (fun r => (match r with | .inl o => some o | .inr (_, M33) => qf_X15_rule_J183 20000 (12 + rr) M33)) := by
          unfold qf_X15_rule_J124
          rw [e2]
          simp only [Option.bind_some]
          rw [if_pos V1, e3]
          rfl
        rw [e4]
        have fKY : RFK K Y rr 0 0 := fun b x y z1 z2 z3 z4 z5 => by
          rw [cY b x y (by omega) z2 z3 (by omega)]
          exact fKV b x y (by omega) z5
        rcases hY with ⟨y1, y2, y3, y4, y5, y6, yt, y7, y8⟩ | ⟨y1, y2, y3⟩
        · rw [if_neg (show ¬ (pC kd vl (c + 2)).1 = 0 by omega)]
          have o5 := o4 y1
          have Y90 : Y 2190 (12 + rr) 0 = ((0 : Nat) : Int) := by
            rw [y8 _ _ _ (by omega) (by omega) (by omega) (by omega), V8 _ (by decide) (by decide), X90]
            rfl
          have YS : STB Y (g + 1 + ((0 : Nat) : Int)) (Y 2184 34 0) := by
            rw [show g + 1 + ((0 : Nat) : Int) = g + 1 by omega]
            rw [V34] at y5
            exact stb_s VS y8 (by omega) y5
          obtain ⟨Q, e5, fQ, hQ⟩ := exc_K (vl := vl) (q := 12 + rr) (cl0 := g) (c1 := (pC kd vl (c + 2)).2) hW hl cq.1 cq.2 g0 120 20000 (pC kd vl (c + 2)).2 Y 0 (by omega) (by decide) y3 y2 Y90 (by omega) rfl YS (by omega) y6 (by omega)
          rw [e5]
          simp only [Option.bind_some]
          have fKQ : RFK K Q rr 0 0 := fun b x y z1 z2 z3 z4 z5 => by
            rw [fQ b x y (by omega) z2 z3 (by omega) (by omega)]
            exact fKY b x y z1 z2 z3 z4 z5
          obtain ⟨p1, p2, p3⟩ := pX_ok (vl := vl) hl 120 (pC kd vl (c + 2)).2 (by omega) o3
          obtain ⟨c5, hc5⟩ : ∃ x, (pX kd vl 120 (pC kd vl (c + 2)).2).2 = x := ⟨_, rfl⟩
          rw [hc5] at p2 p3 hQ ⊢
          rcases hQ with ⟨t1, t2, t3, t4, mo', t5, t6, t7, t8, t9, t10, t11, t12, t13, t14⟩ | ⟨t1, t2, t3⟩
          · rw [if_neg (show ¬ (pX kd vl 120 (pC kd vl (c + 2)).2).1 = 0 by omega)]
            obtain ⟨R, e6, fR, hR⟩ := day_K hW hl cq.1 cq.2 t3 t2
            rw [e6]
            have fKR : RFK K R rr 0 0 := fun b x y z1 z2 z3 z4 z5 => by
              rw [fR b x y (by omega) (by omega)]
              exact fKQ b x y z1 z2 z3 z4 z5
            -- what stands of the rule
            have fKR2 : RFK K R rr (K 2184 34 0) g := fun b x y z1 z2 z3 z4 z5 => by
              rw [fR b x y (by omega) (by omega), t12 b x y (by omega) z2 (by omega) (by omega) (by omega), y8 b x y (by omega) z2 (by omega) (by omega)]
              exact fKV b x y (by omega) z5
            have Q8 : ∀ bb : Nat, 2188 ≤ bb → bb ≤ 2191 → bb ≠ 2190 → Q bb (12 + rr) 0 = X bb (12 + rr) 0 := fun bb z1 z2 z3 => by
              rw [t12 _ _ _ (by omega) (by omega) (by omega) (by omega) (by omega), y8 _ _ _ (by omega) (by omega) (by omega) (by omega)]
              exact V8 bb z1 z2
            have R89 : R 2189 (12 + rr) 0 = g := by
              rw [fR _ _ _ (by omega) (by omega), Q8 _ (by decide) (by decide) (by decide)]
              exact X89
            have R88 : R 2188 (12 + rr) 0 = vl c := by
              rw [fR _ _ _ (by omega) (by omega), Q8 _ (by decide) (by decide) (by decide)]
              exact X88
            have R90 : R 2190 (12 + rr) 0 = mo' := (fR _ _ _ (by omega) (by omega)).trans t5
            have R32 : R 2184 32 0 = rr + 1 := by
              rw [fR _ _ _ (by omega) (by omega), t12 _ _ _ (by omega) (by omega) (by omega) (by omega) (by omega), y8 _ _ _ (by omega) (by omega) (by omega) (by omega)]
              exact V32
            have R33 : R 2184 33 0 = g + 1 + mo' := (fR _ _ _ (by omega) (by omega)).trans t6
            have R34 : R 2184 34 0 = Q 2184 34 0 := fR _ _ _ (by omega) (by omega)
            have clR : CLK kd vl R 60 400 g (c + 2) := by
              have yt2 : Y 2194 (60 + g) 0 = Y 2184 34 0 := yt
              refine clk_tr y7 (fun bb z1 z2 => ?_) (fun i i0 i1 => ?_)
              · rw [fR _ _ _ (by omega) (by omega)]
                exact t12 _ _ _ (by omega) (by omega) (by omega) (by omega) (by omega)
              · exact ⟨by rw [fR _ _ _ (by omega) (by omega)]; exact t12 _ _ _ (by omega) (by omega) (by omega) (by omega) (by omega), by rw [fR _ _ _ (by omega) (by omega)]; exact t12 _ _ _ (by omega) (by omega) (by omega) (by omega) (by omega)⟩
            have exR : EXP kd vl R 60 400 mo' (pC kd vl (c + 2)).2 (g + 1) c5 := exp_tr t7 (fun bb x z1 z2 z3 z4 => fR _ _ _ (by omega) (by omega)) (fun x i z1 z2 z3 z4 => ⟨fR _ _ _ (by omega) (by omega), fR _ _ _ (by omega) (by omega)⟩)
            have stR : STB R (R 2184 33 0) (R 2184 34 0) := fun x x0 x1 => by
              rw [fR _ _ _ (by omega) (by omega), R34]
              exact t8 x x0 (by omega)
            have mk : ∀ day, R 2191 (12 + rr) 0 = day → ∃ mo, RUL1 kd vl n (c + 2) day R 12 60 400 rr mo ∧ R 2189 (12 + rr) 0 + mo < R 2184 33 0 := fun day h => by
              refine ⟨mo', ⟨R90, by omega, h, by omega, by omega, ?_, c5, ?_, t4⟩, by omega⟩
              · rw [R89]
                exact clR
              · rw [R89]
                exact exR
            rcases hR with ⟨g4, g5, hR⟩ | ⟨g4, g5, hR⟩ | ⟨g4, hR⟩
            · rw [if_pos g4]
              · rw [if_pos g5]
                by_cases e63 : kd (c5 + 2) = 63
                · have R1 : R 2184 31 0 = 1 := by
                    rcases hR.1.2.2.2.2.2 with ⟨_, y⟩ | ⟨x, _⟩
                    · exact y
                    · exact absurd e63 x
                  exact ⟨R, rfl, fKR, Or.inr ⟨Or.inr e63, R1, hR.1.2.2.2.2.1⟩⟩
                · exact ⟨R, rfl, fKR, Or.inl ⟨rfl, e63, hR.1, fKR2, R32, R88, mk _ hR.2, by omega, by show 3 * R 2184 33 0 ≤ c5 + 2; omega, by omega, by show R 2184 34 0 ≤ 2 * (c5 + 2); omega, stR⟩⟩
            · rw [if_pos g4, if_neg g5]
              exact ⟨R, rfl, fKR, Or.inr ⟨Or.inl rfl, hR.1, hR.2⟩⟩
            · rw [if_neg g4]
              have q91 : Q 2191 (12 + rr) 0 = 0 := (Q8 _ (by decide) (by decide) (by decide)).trans X91
              exact ⟨R, rfl, fKR, Or.inl ⟨rfl, t2, hR.1, fKR2, R32, R88, mk _ (hR.2.trans q91), by omega, by show 3 * R 2184 33 0 ≤ c5; omega, by omega, by show R 2184 34 0 ≤ 2 * c5; omega, stR⟩⟩
          · have e6 : qf_X15_rule_J183 20000 (12 + rr) Q = some ((), Q) := by
              unfold qf_X15_rule_J183
              rw [if_neg (by omega)]
            rw [e6]
            by_cases g3 : (pX kd vl 120 (pC kd vl (c + 2)).2).1 = 0
            · rw [if_pos g3]
              exact ⟨Q, rfl, fKQ, Or.inr ⟨Or.inl rfl, t2, t3⟩⟩
            · have k6 : kd c5 = 63 := by omega
              rw [if_neg g3, if_neg (by omega)]
              exact ⟨Q, rfl, fKQ, Or.inr ⟨Or.inr k6, t2, t3⟩⟩
        · rw [done Y y2]
          by_cases g2 : (pC kd vl (c + 2)).1 = 0
          · rw [if_pos g2]
            exact ⟨Y, rfl, fKY, Or.inr ⟨Or.inl rfl, y2, y3⟩⟩
          · have k6 : kd (pC kd vl (c + 2)).2 = 63 := by omega
            have pe : pX kd vl 120 (pC kd vl (c + 2)).2 = (1, (pC kd vl (c + 2)).2) := by
              show pX kd vl (119 + 1) _ = _
              unfold pX
              rw [if_neg (by omega)]
            rw [if_neg g2, pe, if_neg (show ¬ ((1 : Int), (pC kd vl (c + 2)).2).1 = 0 from (by decide : ¬ (1 : Int) = 0)), if_neg (by show ¬ kd (pC kd vl (c + 2)).2 = 64; omega)]
            exact ⟨Y, rfl, fKY, Or.inr ⟨Or.inr k6, y2, y3⟩⟩
    · rw [if_neg (fun z => g58 (k58.mp z)), if_neg g58]
      refine ⟨qw U 2184 31 0 1, stop U _ 0 (take0_K (Or.inl d1)) qw_s, fun b x y z1 z2 z3 z4 z5 => ?_, Or.inr ⟨Or.inl rfl, qw_s, (qw_i (by decide)).trans rU.2.2.2.2.1⟩⟩
      rw [qw_ap, if_neg (by omega)]
      exact fKU b x y (by omega) z5
end WDr
