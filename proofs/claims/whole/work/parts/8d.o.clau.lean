/-! ===== rules: the reference's clause ===== -/
section WDo
variable {M K A Z D W W' Z2 : qm} {T kd vl pl : Int → Int} {L p q e k v i j x y z c d f n w t s a u ns g o b cl : Int} {N m : Nat}
/-- clause cl is what stands at word c -/
def CLK (kd vl : Int → Int) (K : qm) (o b cl c : Int) : Prop := 0 ≤ K 2192 (o + cl) 0 ∧ K 2194 (o + cl) 0 ≤ 400 ∧ K 2193 (o + cl) 0 = K 2192 (o + cl) 0 + (pS kd vl 12 0 c).2.2.length ∧ K 2194 (o + cl) 0 = K 2193 (o + cl) 0 + (pS kd vl 12 0 ((pS kd vl 12 0 c).2.1 + 1)).2.2.length ∧ K 2195 (o + cl) 0 = rel (kd (pS kd vl 12 0 c).2.1) ∧ isR (kd (pS kd vl 12 0 c).2.1) ∧ RAT K (b + K 2192 (o + cl) 0) (pS kd vl 12 0 c).2.2 ∧ RAT K (b + K 2193 (o + cl) 0) (pS kd vl 12 0 ((pS kd vl 12 0 c).2.1 + 1)).2.2 ∧ (pS kd vl 12 0 c).1 = 1 ∧ (pS kd vl 12 0 ((pS kd vl 12 0 c).2.1 + 1)).1 = 1
def CLF (K Z : qm) (ns g : Int) : Prop := ∀ b x y, ¬ (b = 2184 ∧ ((26 ≤ x ∧ x ≤ 31) ∨ (33 ≤ x ∧ x ≤ 36))) → ¬ b = 2205 → ¬ ((b = 2196 ∨ b = 2197) ∧ 400 + ns ≤ x) → ¬ (2192 ≤ b ∧ b ≤ 2195 ∧ x = 60 + g) → Z b x y = K b x y
theorem relany : ∃ r, qf_X15_relation N k M = some r := by
  unfold qf_X15_relation
  by_cases g1 : k = 60
  · exact ⟨_, if_pos g1⟩
  rw [if_neg g1]
  by_cases g2 : k = 316
  · exact ⟨_, if_pos g2⟩
  rw [if_neg g2]
  by_cases g3 : k = 61
  · exact ⟨_, if_pos g3⟩
  rw [if_neg g3]
  by_cases g4 : k = 318
  · exact ⟨_, if_pos g4⟩
  rw [if_neg g4]
  by_cases g5 : k = 62
  · exact ⟨_, if_pos g5⟩
  rw [if_neg g5]
  exact ⟨_, rfl⟩
theorem clause_K (hW : WDS T L kd vl pl n) (hl : LSW kd n) (hr : RWD T L kd vl pl n c K) (h63 : kd c ≠ 63) (s0 : 0 ≤ K 2184 34 0) (s1 : K 2184 34 0 ≤ 2 * c) (hg : K 2184 33 0 = g) (g0 : 0 ≤ g) (g1 : 3 * g ≤ c) : ∃ Z, qf_X15_clause 20000 K = some ((), Z) ∧ CLF K Z 0 g ∧ (((pC kd vl c).1 = 1 ∧ kd (pC kd vl c).2 ≠ 63 ∧ RWD T L kd vl pl n (pC kd vl c).2 Z ∧ Z 2184 33 0 = g + 1 ∧ K 2184 34 0 ≤ Z 2184 34 0 ∧ Z 2184 34 0 ≤ 2 * (pC kd vl c).2 ∧ Z 2194 (60 + g) 0 = Z 2184 34 0 ∧ CLK kd vl Z 60 400 g c ∧ CLF K Z (K 2184 34 0) g) ∨ (((pC kd vl c).1 = 0 ∨ kd (pC kd vl c).2 = 63) ∧ Z 2184 31 0 = 1 ∧ Z 2184 26 0 = pl (pC kd vl c).2)) := by
  have n1 := hW.2.2.2.1
  have c0 := hr.2.2.1
  have c1 := hr.2.2.2.1
  have cg : 0 ≤ 60 + g ∧ 60 + g < 120 := by omega
  obtain ⟨W, hW0⟩ : ∃ W, qw (qw K 2184 33 0 (g + 1)) 2192 (60 + g) 0 (K 2184 34 0) = W := ⟨_, rfl⟩
  have fW : ∀ b x y, ¬ (b = 2184 ∧ x = 33) → ¬ (b = 2192 ∧ x = 60 + g) → W b x y = K b x y := fun b x y h1 h2 => by
    rw [← hW0, qw_ap, if_neg (by omega), qw_ap, if_neg (by omega)]
  have W34 : W 2184 34 0 = K 2184 34 0 := fW _ _ _ (by omega) (by omega)
  have W33 : W 2184 33 0 = g + 1 := by rw [← hW0, qw_a (by decide)]; exact qw_s
  have WF : W 2192 (60 + g) 0 = K 2184 34 0 := by rw [← hW0]; exact qw_s
  have rW : RWD T L kd vl pl n c W := rwd_fr hr (fun b x y z => fW b x y (by omega) (by omega))
  obtain ⟨X, e1, sX, hX⟩ := side_K (K := W) hW hl rW h63 (by omega) (by omega)
  obtain ⟨Y, hY⟩ : ∃ Y, qw X 2193 (60 + g) 0 (X 2184 34 0) = Y := ⟨_, rfl⟩
  have fY : ∀ b x y, ¬ (b = 2193 ∧ x = 60 + g) → Y b x y = X b x y := fun b x y h1 => by
    rw [← hY, qw_ap, if_neg (by omega)]
  have Y28 : Y 2184 28 0 = X 2184 28 0 := fY _ _ _ (by omega)
  have st : ∀ r, qf_X15_relation 20000 (X 2184 28 0) Y = some r → qf_X15_clause 20000 K = (if (qw Y 2195 (60 + g) 0 r) 2184 31 0 = 0 then (qf_X15_relation 20000 ((qw Y 2195 (60 + g) 0 r) 2184 28 0) (qw Y 2195 (60 + g) 0 r)).bind (fun r28 => if r28 < 0 then qf_X15_clause_J77 20000 (60 + g) (qw Y 2195 (60 + g) 0 r) else qf_X15_clause_J78 20000 (60 + g) 1 (qw Y 2195 (60 + g) 0 r)) else qf_X15_clause_J77 20000 (60 + g) (qw Y 2195 (60 + g) 0 r)) := fun r er => by
    unfold qf_X15_clause qbnd
    (try dsimp only)
    rw [hg, w32_id (x := g + 1) (by omega) (by omega), w32_id (x := 60 + g) (by omega) (by omega), if_pos cg, show qw K 2184 33 0 (g + 1) 2184 34 0 = K 2184 34 0 from qw_i (by decide), hW0, e1]
    simp only [Option.bind_some]
    rw [if_pos cg, hY, Y28, er]
    simp only [Option.bind_some]
    rw [if_pos cg]
  have j92 : ∀ V : qm, qf_X15_clause_J92 20000 (60 + g) V = some ((), qw V 2194 (60 + g) 0 (V 2184 34 0)) := fun V => by
    unfold qf_X15_clause_J92 qbnd
    rw [if_pos cg]
  -- wrong: nothing more is read
  have bad : ∀ (V : qm) (t : Int), V 2184 31 0 = 1 → qf_X15_clause_J78 20000 (60 + g) t V = some ((), qw V 2194 (60 + g) 0 (V 2184 34 0)) := fun V t h => by
    unfold qf_X15_clause_J78
    rw [takew_K h]
    simp only [Option.bind_some]
    rw [if_neg (by omega)]
    exact j92 V
  have ok := pS_ok (vl := vl) hl 12 0 c c0 c1
  obtain ⟨o1, o2, o3, o4⟩ := ok
  have sfX : ∀ b x y, ¬ (b = 2184 ∧ ((26 ≤ x ∧ x ≤ 31) ∨ (33 ≤ x ∧ x ≤ 36))) → ¬ b = 2205 → ¬ ((b = 2196 ∨ b = 2197) ∧ 400 ≤ x) → ¬ (2192 ≤ b ∧ b ≤ 2195 ∧ x = 60 + g) → X b x y = K b x y := fun b x y h1 h2 h3 h4 => by
    rw [sX b x y (by omega) (by omega) (by omega)]
    exact fW b x y (by omega) (by omega)
  rcases hX with ⟨x1, x2, x3, x4, x5, x6, x7⟩ | ⟨x1, x2, x3⟩
  · have o5 := o4 x1
    obtain ⟨c2, hc2⟩ : ∃ c2, (pS kd vl 12 0 c).2.1 = c2 := ⟨_, rfl⟩
    rw [hc2] at x2 x3 x6 o2 o3 o5
    obtain ⟨y1, y2, y3, y4⟩ := rwd_k x3 x2
    have er : qf_X15_relation 20000 (X 2184 28 0) Y = some (rel (kd c2)) := by
      rw [y2]
      exact rel_K y3
    obtain ⟨V, hV⟩ : ∃ V, qw Y 2195 (60 + g) 0 (rel (kd c2)) = V := ⟨_, rfl⟩
    have fV : ∀ b x y, ¬ ((b = 2193 ∨ b = 2195) ∧ x = 60 + g) → V b x y = X b x y := fun b x y h1 => by
      rw [← hV, qw_ap, if_neg (by omega)]
      exact fY b x y (by omega)
    have V28 : V 2184 28 0 = kr (kd c2) := (fV _ _ _ (by omega)).trans y2
    have V31 : V 2184 31 0 = 0 := (fV _ _ _ (by omega)).trans y1
    have V34 : V 2184 34 0 = X 2184 34 0 := fV _ _ _ (by omega)
    have VM : V 2193 (60 + g) 0 = X 2184 34 0 := by rw [← hV, qw_a (by decide), ← hY]; exact qw_s
    have VS : V 2195 (60 + g) 0 = rel (kd c2) := by rw [← hV]; exact qw_s
    have rV : RWD T L kd vl pl n c2 V := rwd_fr x3 (fun b x y z => fV b x y (by omega))
    have cV : ∀ b x y, ¬ (b = 2184 ∧ ((26 ≤ x ∧ x ≤ 31) ∨ (33 ≤ x ∧ x ≤ 36))) → ¬ b = 2205 → ¬ ((b = 2196 ∨ b = 2197) ∧ 400 ≤ x) → ¬ (2192 ≤ b ∧ b ≤ 2195 ∧ x = 60 + g) → V b x y = K b x y := fun b x y h1 h2 h3 h4 => by
      rw [fV b x y (by omega)]
      exact sfX b x y h1 h2 h3 h4
    have s2 := st _ er
    rw [hV, V28, rel_K y3] at s2
    simp only [Option.bind_some] at s2
    rw [if_pos V31] at s2
    rw [s2]
    unfold pC
    rw [hc2, if_neg (show ¬ (pS kd vl 12 0 c).1 = 0 by omega)]
    rcases relk_c (k := kd c2) with ⟨r1, r2, r3⟩ | ⟨r1, r2⟩
    · have ln := lst_lt hl o3 (by unfold isR at r1; omega) (by unfold isR at r1; omega)
      obtain ⟨p1, p2, p3, p4⟩ := pS_ok (vl := vl) hl 12 0 (c2 + 1) (by omega) (by omega)
      rw [if_pos r1, if_neg (by omega)]
      unfold qf_X15_clause_J78
      obtain ⟨U, e3, fU, rU, _⟩ := take1_K hW rV x2 (by unfold isR at r1; omega)
      rw [e3]
      simp only [Option.bind_some]
      by_cases w63 : kd (c2 + 1) = 63
      · have h6 := pS_63 (vl := vl) (m := 12) (d := 0) w63
        have U31 : U 2184 31 0 = 1 := by
          rcases rU.2.2.2.2.2 with ⟨_, y⟩ | ⟨x, _⟩
          · exact y
          · exact absurd w63 x
        rw [if_neg (by omega), j92]
        refine ⟨_, rfl, fun b x y h1 h2 h3 h4 => ?_, Or.inr ⟨Or.inl h6.1, (qw_a (by decide)).trans U31, ?_⟩⟩
        · rw [qw_ap, if_neg (by omega), fU b x y (by omega)]
          exact cV b x y h1 h2 (by omega) h4
        · rw [h6.2]
          exact (qw_a (by decide)).trans rU.2.2.2.2.1
      · have u31 := (rwd_k rU w63).1
        have U34 : U 2184 34 0 = X 2184 34 0 := (fU _ _ _ (by omega)).trans V34
        rw [if_pos u31]
        obtain ⟨Q, e4, sQ, hQ⟩ := side_K (K := U) hW hl rU w63 (by omega) (by omega)
        rw [e4]
        simp only [Option.bind_some]
        rw [j92]
        obtain ⟨c3, hc3⟩ : ∃ c3, (pS kd vl 12 0 (c2 + 1)).2.1 = c3 := ⟨_, rfl⟩
        rw [hc3] at hQ p2 p3 p4 ⊢
        rcases hQ with ⟨q1, q2, q3, q4, q5, q6, q7⟩ | ⟨q1, q2, q3⟩
        · obtain ⟨R, hR⟩ : ∃ R, qw Q 2194 (60 + g) 0 (Q 2184 34 0) = R := ⟨_, rfl⟩
          rw [hR]
          have fR : ∀ b x y, ¬ (b = 2194 ∧ x = 60 + g) → R b x y = Q b x y := fun b x y h1 => by
            rw [← hR, qw_ap, if_neg (by omega)]
          have RT : R 2194 (60 + g) 0 = Q 2184 34 0 := by rw [← hR]; exact qw_s
          have R34 : R 2184 34 0 = Q 2184 34 0 := fR _ _ _ (by omega)
          have RF : R 2192 (60 + g) 0 = K 2184 34 0 := by
            rw [fR _ _ _ (by omega), q7 _ _ _ (by omega) (by omega) (by omega), fU _ _ _ (by omega), fV _ _ _ (by omega), x7 _ _ _ (by omega) (by omega) (by omega)]
            exact WF
          have RM : R 2193 (60 + g) 0 = X 2184 34 0 := by
            rw [fR _ _ _ (by omega), q7 _ _ _ (by omega) (by omega) (by omega), fU _ _ _ (by omega)]
            exact VM
          have RS : R 2195 (60 + g) 0 = rel (kd c2) := by
            rw [fR _ _ _ (by omega), q7 _ _ _ (by omega) (by omega) (by omega), fU _ _ _ (by omega)]
            exact VS
          have R33 : R 2184 33 0 = g + 1 := by
            rw [fR _ _ _ (by omega), q7 _ _ _ (by omega) (by omega) (by omega), fU _ _ _ (by omega), fV _ _ _ (by omega), x7 _ _ _ (by omega) (by omega) (by omega)]
            exact W33
          have ra1 : RAT R (400 + K 2184 34 0) (pS kd vl 12 0 c).2.2 := by
            rw [W34] at x5
            refine rat_fr (fun i i0 i1 => ?_) x5
            exact ⟨by rw [fR _ _ _ (by omega), q7 _ _ _ (by omega) (by omega) (by omega), fU _ _ _ (by omega), fV _ _ _ (by omega)], by rw [fR _ _ _ (by omega), q7 _ _ _ (by omega) (by omega) (by omega), fU _ _ _ (by omega), fV _ _ _ (by omega)]⟩
          have ra2 : RAT R (400 + X 2184 34 0) (pS kd vl 12 0 (c2 + 1)).2.2 := by
            rw [U34] at q5
            exact rat_fr (fun i i0 i1 => ⟨fR _ _ _ (by omega), fR _ _ _ (by omega)⟩) q5
          have cR : CLF K R (K 2184 34 0) g := fun b x y h1 h2 h3 h4 => by
            rw [fR b x y (by omega), q7 b x y (by omega) (by omega) (by omega), fU b x y (by omega), fV b x y (by omega), x7 b x y (by omega) (by omega) (by omega)]
            exact fW b x y (by omega) (by omega)
          refine ⟨R, rfl, fun b x y h1 h2 h3 h4 => cR b x y h1 h2 (by omega) h4, Or.inl ⟨q1, q2, rwd_fr q3 (fun b x y z => fR b x y (by omega)), R33, by omega, ?_, RT.trans R34.symm, ?_, cR⟩⟩
          · show R 2184 34 0 ≤ 2 * c3
            omega
          · unfold CLK
            rw [hc2, RF, RM, RT, RS]
            exact ⟨by omega, by omega, by omega, by omega, rfl, r1, ra1, ra2, x1, q1⟩
        · refine ⟨_, rfl, fun b x y h1 h2 h3 h4 => ?_, Or.inr ⟨q1, (qw_a (by decide)).trans q2, (qw_a (by decide)).trans q3⟩⟩
          rw [qw_ap, if_neg (by omega), sQ b x y (by omega) (by omega) (by omega), fU b x y (by omega)]
          exact cV b x y h1 h2 (by omega) h4
    · rw [if_neg r1, if_pos (by omega)]
      unfold qf_X15_clause_J77 qf_X15_clause_J78
      rw [take0_K (Or.inl V31)]
      simp only [Option.bind_some]
      have o : ∀ b x y, ¬ (b = 2184 ∧ x = 31) → qw V 2184 31 0 1 b x y = V b x y := fun b x y h => by rw [qw_ap, if_neg (by omega)]
      rw [if_neg (show ¬ qw V 2184 31 0 1 2184 31 0 = 0 by rw [qw_s]; decide), j92]
      refine ⟨_, rfl, fun b x y h1 h2 h3 h4 => ?_, Or.inr ⟨Or.inl trivial, (qw_a (by decide)).trans qw_s, ?_⟩⟩
      · rw [qw_ap, if_neg (by omega), o b x y (by omega)]
        exact cV b x y h1 h2 (by omega) h4
      · rw [qw_a (by decide), o _ _ _ (by decide)]
        exact rV.2.2.2.2.1
  · obtain ⟨r, er⟩ := relany (N := 20000) (k := X 2184 28 0) (M := Y)
    obtain ⟨V, hV⟩ : ∃ V, qw Y 2195 (60 + g) 0 r = V := ⟨_, rfl⟩
    have fV : ∀ b x y, ¬ ((b = 2193 ∨ b = 2195) ∧ x = 60 + g) → V b x y = X b x y := fun b x y h1 => by
      rw [← hV, qw_ap, if_neg (by omega)]
      exact fY b x y (by omega)
    have V31 : V 2184 31 0 = 1 := (fV _ _ _ (by omega)).trans x2
    have V26 : V 2184 26 0 = pl (pS kd vl 12 0 c).2.1 := (fV _ _ _ (by omega)).trans x3
    have s2 := st _ er
    rw [hV, if_neg (by omega)] at s2
    unfold qf_X15_clause_J77 at s2
    rw [s2, bad V 0 V31]
    have pe : pC kd vl c = (0, (pS kd vl 12 0 c).2.1) := by
      unfold pC
      by_cases gz : (pS kd vl 12 0 c).1 = 0
      · rw [if_pos gz]
      · rw [if_neg gz, if_neg (show ¬ isR (kd (pS kd vl 12 0 c).2.1) from fun z => by unfold isR at z; omega)]
    rw [pe]
    refine ⟨_, rfl, fun b x y h1 h2 h3 h4 => ?_, Or.inr ⟨Or.inl rfl, (qw_a (by decide)).trans V31, (qw_a (by decide)).trans V26⟩⟩
    rw [qw_ap, if_neg (by omega), fV b x y (by omega)]
    exact sfX b x y h1 h2 (by omega) h4
end WDo
