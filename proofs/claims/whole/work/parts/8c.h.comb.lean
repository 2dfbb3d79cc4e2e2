/-! ===== the class combines two fractions ===== -/
section LWh
variable {M N K : qm} {a b c d s x y u l v n m : Int}
/-- a step that may find something too great -/
def MUC (N N' : qm) (v r : Int) : Prop := FIT v ∧ (∀ x i j, ¬ (x = 735 ∧ i = 12) → N' x i j = N x i j) ∧ ((FIT r ∧ v = r ∧ N' 735 12 0 = N 735 12 0) ∨ (¬ FIT r ∧ N' 735 12 0 = 2))
theorem mu_C (a0 : FIT a) (b0 : FIT b) (N : qm) : ∃ v N', qf_X7_multiply 20000 a b N = some (v, N') ∧ MUC N N' v (a * b) := by
  rcases mult_C (M := N) a0 b0 with ⟨f, e⟩ | ⟨f, v, fv, e⟩
  · exact ⟨_, _, e, f, fun _ _ _ _ => rfl, Or.inl ⟨f, rfl, rfl⟩⟩
  · exact ⟨_, _, e, fv, fun x i j h => by rw [qw_ap, if_neg (by omega)], Or.inr ⟨f, qw_s⟩⟩
theorem ad_C (a0 : FIT a) (b0 : FIT b) (N : qm) : ∃ v N', qf_X7_add 20000 a b N = some (v, N') ∧ MUC N N' v (a + b) := by
  rcases add_C (M := N) a0 b0 with ⟨f, e⟩ | ⟨f, v, fv, e⟩
  · exact ⟨_, _, e, f, fun _ _ _ _ => rfl, Or.inl ⟨f, rfl, rfl⟩⟩
  · exact ⟨_, _, e, fv, fun x i j h => by rw [qw_ap, if_neg (by omega)], Or.inr ⟨f, qw_s⟩⟩
theorem su_C (a0 : FIT a) (b0 : FIT b) (N : qm) : ∃ v N', qf_X7_subtract 20000 a b N = some (v, N') ∧ MUC N N' v (a - b) := by
  rcases sub_C (M := N) a0 b0 with ⟨f, e⟩ | ⟨f, v, fv, e⟩
  · exact ⟨_, _, e, f, fun _ _ _ _ => rfl, Or.inl ⟨f, rfl, rfl⟩⟩
  · exact ⟨_, _, e, fv, fun x i j h => by rw [qw_ap, if_neg (by omega)], Or.inr ⟨f, qw_s⟩⟩
/-- a / b with c / d, by the sign s: n / m, not yet in lowest terms -/
def OKS (s a b c d n m : Int) : Prop := (s = 42 ∧ FIT (a * c) ∧ FIT (b * d) ∧ n = a * c ∧ m = b * d) ∨ (s = 47 ∧ c ≠ 0 ∧ FIT (a * d) ∧ FIT (b * c) ∧ n = a * d ∧ m = b * c) ∨ (s = 43 ∧ FIT (a * d) ∧ FIT (c * b) ∧ FIT (a * d + c * b) ∧ FIT (b * d) ∧ n = a * d + c * b ∧ m = b * d) ∨ (s = 45 ∧ FIT (a * d) ∧ FIT (c * b) ∧ FIT (a * d - c * b) ∧ FIT (b * d) ∧ n = a * d - c * b ∧ m = b * d)
theorem comb_C (hs : s = 42 ∨ s = 43 ∨ s = 45 ∨ s = 47) (hw : (M 735 12 0) = 0) (hc : (M 735 14 0) = c) (hd : (M 735 15 0) = d) (a0 : FIT a) (b0 : FIT b) (c0 : FIT c) (d0 : FIT d) : ∃ A, qf_X7_combine 20000 s a b M = some ((), A) ∧ (∀ x i j, ¬ (x = 735 ∧ (i = 12 ∨ i = 14 ∨ i = 15)) → A x i j = M x i j) ∧ ((∃ n m, OKS s a b c d n m ∧ (A 735 12 0) = 0 ∧ (A 735 14 0) = n ∧ (A 735 15 0) = m) ∨ ((∀ n m, ¬ OKS s a b c d n m) ∧ (A 735 12 0) = if s = 47 ∧ c = 0 then 3 else 2)) := by
  have bb : ∀ {α β : Type} (a : α) (f : α → Option β), (some a).bind f = f a := fun _ _ => rfl
  unfold qf_X7_combine
  rw [if_pos hw, hc, hd]
  rcases hs with z | z | z | z
  · rw [if_pos z]
    obtain ⟨v1, N1, e1, f1, g1, h1⟩ := mu_C a0 c0 M
    rw [e1, bb]
    unfold qbnd
    (try dsimp only)
    obtain ⟨N2, hN2⟩ : ∃ W, qw N1 735 14 0 v1 = W := ⟨_, rfl⟩
    rw [hN2]
    have k2 : ∀ x i j, ¬ (x = 735 ∧ i = 14) → N2 x i j = N1 x i j := fun x i j h => by rw [← hN2, qw_ap, if_neg (by omega)]
    have t2 : N2 735 14 0 = v1 := by rw [← hN2]; exact qw_s
    obtain ⟨v3, N3, e3, f3, g3, h3⟩ := mu_C b0 d0 N2
    rw [e3, bb]
    (try dsimp only)
    have w2 : N2 735 12 0 = N1 735 12 0 := k2 _ _ _ (by decide)
    refine ⟨_, rfl, fun x i j h => ?_, ?_⟩
    · rw [qw_ap, if_neg (by omega), g3 _ _ _ (by omega), k2 _ _ _ (by omega), g1 _ _ _ (by omega)]
    · have rw1 : qw N3 735 15 0 v3 735 12 0 = N3 735 12 0 := by rw [qw_ap, if_neg (by decide)]
      have rw2 : qw N3 735 15 0 v3 735 14 0 = v1 := by rw [qw_ap, if_neg (by decide), g3 _ _ _ (by decide)]; exact t2
      rw [rw1, rw2, if_neg (fun y => by omega)]
      unfold OKS
      by_cases ok : FIT (a * c) ∧ FIT (b * d)
      · left
        rcases h1 with ⟨_, x1, x2⟩ | ⟨x1, _⟩
        · rcases h3 with ⟨_, y1, y2⟩ | ⟨y1, _⟩
          · exact ⟨a * c, b * d, Or.inl ⟨z, ok.1, ok.2, rfl, rfl⟩, by omega, x1, qw_s.trans y1⟩
          · exact absurd ok.2 y1
        · exact absurd ok.1 x1
      · right
        refine ⟨fun n m o => ?_, ?_⟩
        · rcases o with o | o | o | o
          · exact ok ⟨o.2.1, o.2.2.1⟩
          · omega
          · omega
          · omega
        · rcases h3 with ⟨y0, y1, y2⟩ | ⟨_, y1⟩
          · rcases h1 with ⟨x0, _, _⟩ | ⟨_, x1⟩
            · exact absurd ⟨x0, y0⟩ ok
            · omega
          · exact y1
  · rw [if_neg (by omega : ¬ s = 42)]
    obtain ⟨v1, N1, e1, f1, g1, h1⟩ := mu_C a0 d0 M
    rw [e1, bb]
    unfold qbnd
    (try dsimp only)
    obtain ⟨N2, hN2⟩ : ∃ W, qw N1 735 14 0 v1 = W := ⟨_, rfl⟩
    rw [hN2, if_neg (by omega : ¬ s = 47)]
    have k2 : ∀ x i j, ¬ (x = 735 ∧ i = 14) → N2 x i j = N1 x i j := fun x i j h => by rw [← hN2, qw_ap, if_neg (by omega)]
    have t2 : N2 735 14 0 = v1 := by rw [← hN2]; exact qw_s
    have w2 : N2 735 12 0 = N1 735 12 0 := k2 _ _ _ (by decide)
    obtain ⟨v3, N3, e3, f3, g3, h3⟩ := mu_C c0 b0 N2
    rw [e3, bb]
    (try dsimp only)
    have t3 : N3 735 14 0 = v1 := (g3 _ _ _ (by decide)).trans t2
    rw [t3, if_pos z]
    obtain ⟨v5, N5, e5, f5, g5, h5⟩ := ad_C f1 f3 N3
    rw [e5, bb]
    unfold qf_X7_combine_J139 qbnd
    (try dsimp only)
    obtain ⟨N6, hN6⟩ : ∃ W, qw N5 735 14 0 v5 = W := ⟨_, rfl⟩
    rw [hN6]
    have k6 : ∀ x i j, ¬ (x = 735 ∧ i = 14) → N6 x i j = N5 x i j := fun x i j h => by rw [← hN6, qw_ap, if_neg (by omega)]
    have t6 : N6 735 14 0 = v5 := by rw [← hN6]; exact qw_s
    have w6 : N6 735 12 0 = N5 735 12 0 := k6 _ _ _ (by decide)
    obtain ⟨v7, N7, e7, f7, g7, h7⟩ := mu_C b0 d0 N6
    rw [e7, bb]
    (try dsimp only)
    refine ⟨_, rfl, fun x i j h => ?_, ?_⟩
    · rw [qw_ap, if_neg (by omega), g7 _ _ _ (by omega), k6 _ _ _ (by omega), g5 _ _ _ (by omega), g3 _ _ _ (by omega), k2 _ _ _ (by omega), g1 _ _ _ (by omega)]
    · have rw1 : qw N7 735 15 0 v7 735 12 0 = N7 735 12 0 := by rw [qw_ap, if_neg (by decide)]
      have rw2 : qw N7 735 15 0 v7 735 14 0 = v5 := by rw [qw_ap, if_neg (by decide), g7 _ _ _ (by decide)]; exact t6
      rw [rw1, rw2, if_neg (fun y => by omega)]
      unfold OKS
      by_cases ok : FIT (a * d) ∧ FIT (c * b) ∧ FIT (a * d + c * b) ∧ FIT (b * d)
      · left
        rcases h1 with ⟨_, x1, x2⟩ | ⟨x1, _⟩
        · rcases h3 with ⟨_, y1, y2⟩ | ⟨y1, _⟩
          · rw [x1, y1] at h5
            rcases h5 with ⟨_, p1, p2⟩ | ⟨p1, _⟩
            · rcases h7 with ⟨_, q1, q2⟩ | ⟨q1, _⟩
              · exact ⟨_, _, Or.inr (Or.inr (Or.inl ⟨z, ok.1, ok.2.1, ok.2.2.1, ok.2.2.2, rfl, rfl⟩)), by omega, p1, qw_s.trans q1⟩
              · exact absurd ok.2.2.2 q1
            · exact absurd ok.2.2.1 p1
          · exact absurd ok.2.1 y1
        · exact absurd ok.1 x1
      · right
        refine ⟨fun n m o => ?_, ?_⟩
        · rcases o with o | o | o | o
          · omega
          · omega
          · exact ok ⟨o.2.1, o.2.2.1, o.2.2.2.1, o.2.2.2.2.1⟩
          · omega
        · rcases h7 with ⟨q0, _, q2⟩ | ⟨_, q1⟩
          · rcases h5 with ⟨p0, p1, p2⟩ | ⟨_, p1⟩
            · rcases h3 with ⟨y0, y1, y2⟩ | ⟨_, y1⟩
              · rcases h1 with ⟨x0, x1, x2⟩ | ⟨_, x1⟩
                · rw [x1, y1] at p0
                  exact absurd ⟨x0, y0, p0, q0⟩ ok
                · omega
              · omega
            · omega
          · exact q1
  · rw [if_neg (by omega : ¬ s = 42)]
    obtain ⟨v1, N1, e1, f1, g1, h1⟩ := mu_C a0 d0 M
    rw [e1, bb]
    unfold qbnd
    (try dsimp only)
    obtain ⟨N2, hN2⟩ : ∃ W, qw N1 735 14 0 v1 = W := ⟨_, rfl⟩
    rw [hN2, if_neg (by omega : ¬ s = 47)]
    have k2 : ∀ x i j, ¬ (x = 735 ∧ i = 14) → N2 x i j = N1 x i j := fun x i j h => by rw [← hN2, qw_ap, if_neg (by omega)]
    have t2 : N2 735 14 0 = v1 := by rw [← hN2]; exact qw_s
    have w2 : N2 735 12 0 = N1 735 12 0 := k2 _ _ _ (by decide)
    obtain ⟨v3, N3, e3, f3, g3, h3⟩ := mu_C c0 b0 N2
    rw [e3, bb]
    (try dsimp only)
    have t3 : N3 735 14 0 = v1 := (g3 _ _ _ (by decide)).trans t2
    rw [t3, if_neg (by omega : ¬ s = 43)]
    obtain ⟨v5, N5, e5, f5, g5, h5⟩ := su_C f1 f3 N3
    rw [e5, bb]
    unfold qf_X7_combine_J139 qbnd
    (try dsimp only)
    obtain ⟨N6, hN6⟩ : ∃ W, qw N5 735 14 0 v5 = W := ⟨_, rfl⟩
    rw [hN6]
    have k6 : ∀ x i j, ¬ (x = 735 ∧ i = 14) → N6 x i j = N5 x i j := fun x i j h => by rw [← hN6, qw_ap, if_neg (by omega)]
    have t6 : N6 735 14 0 = v5 := by rw [← hN6]; exact qw_s
    have w6 : N6 735 12 0 = N5 735 12 0 := k6 _ _ _ (by decide)
    obtain ⟨v7, N7, e7, f7, g7, h7⟩ := mu_C b0 d0 N6
    rw [e7, bb]
    (try dsimp only)
    refine ⟨_, rfl, fun x i j h => ?_, ?_⟩
    · rw [qw_ap, if_neg (by omega), g7 _ _ _ (by omega), k6 _ _ _ (by omega), g5 _ _ _ (by omega), g3 _ _ _ (by omega), k2 _ _ _ (by omega), g1 _ _ _ (by omega)]
    · have rw1 : qw N7 735 15 0 v7 735 12 0 = N7 735 12 0 := by rw [qw_ap, if_neg (by decide)]
      have rw2 : qw N7 735 15 0 v7 735 14 0 = v5 := by rw [qw_ap, if_neg (by decide), g7 _ _ _ (by decide)]; exact t6
      rw [rw1, rw2, if_neg (fun y => by omega)]
      unfold OKS
      by_cases ok : FIT (a * d) ∧ FIT (c * b) ∧ FIT (a * d - c * b) ∧ FIT (b * d)
      · left
        rcases h1 with ⟨_, x1, x2⟩ | ⟨x1, _⟩
        · rcases h3 with ⟨_, y1, y2⟩ | ⟨y1, _⟩
          · rw [x1, y1] at h5
            rcases h5 with ⟨_, p1, p2⟩ | ⟨p1, _⟩
            · rcases h7 with ⟨_, q1, q2⟩ | ⟨q1, _⟩
              · exact ⟨_, _, Or.inr (Or.inr (Or.inr ⟨z, ok.1, ok.2.1, ok.2.2.1, ok.2.2.2, rfl, rfl⟩)), by omega, p1, qw_s.trans q1⟩
              · exact absurd ok.2.2.2 q1
            · exact absurd ok.2.2.1 p1
          · exact absurd ok.2.1 y1
        · exact absurd ok.1 x1
      · right
        refine ⟨fun n m o => ?_, ?_⟩
        · rcases o with o | o | o | o
          · omega
          · omega
          · omega
          · exact ok ⟨o.2.1, o.2.2.1, o.2.2.2.1, o.2.2.2.2.1⟩
        · rcases h7 with ⟨q0, _, q2⟩ | ⟨_, q1⟩
          · rcases h5 with ⟨p0, p1, p2⟩ | ⟨_, p1⟩
            · rcases h3 with ⟨y0, y1, y2⟩ | ⟨_, y1⟩
              · rcases h1 with ⟨x0, x1, x2⟩ | ⟨_, x1⟩
                · rw [x1, y1] at p0
                  exact absurd ⟨x0, y0, p0, q0⟩ ok
                · omega
              · omega
            · omega
          · exact q1
  · rw [if_neg (by omega : ¬ s = 42)]
    obtain ⟨v1, N1, e1, f1, g1, h1⟩ := mu_C a0 d0 M
    rw [e1, bb]
    unfold qbnd
    (try dsimp only)
    obtain ⟨N2, hN2⟩ : ∃ W, qw N1 735 14 0 v1 = W := ⟨_, rfl⟩
    rw [hN2, if_pos z]
    have k2 : ∀ x i j, ¬ (x = 735 ∧ i = 14) → N2 x i j = N1 x i j := fun x i j h => by rw [← hN2, qw_ap, if_neg (by omega)]
    have t2 : N2 735 14 0 = v1 := by rw [← hN2]; exact qw_s
    have w2 : N2 735 12 0 = N1 735 12 0 := k2 _ _ _ (by decide)
    obtain ⟨v3, N3, e3, f3, g3, h3⟩ := mu_C b0 c0 N2
    rw [e3, bb]
    (try dsimp only)
    obtain ⟨N4, hN4⟩ : ∃ W, qw N3 735 15 0 v3 = W := ⟨_, rfl⟩
    rw [hN4]
    have k4 : ∀ x i j, ¬ (x = 735 ∧ i = 15) → N4 x i j = N3 x i j := fun x i j h => by rw [← hN4, qw_ap, if_neg (by omega)]
    have t4 : N4 735 15 0 = v3 := by rw [← hN4]; exact qw_s
    have w4 : N4 735 12 0 = N3 735 12 0 := k4 _ _ _ (by decide)
    have fr : ∀ v x i j, ¬ (x = 735 ∧ (i = 12 ∨ i = 14 ∨ i = 15)) → qw N4 735 12 0 v x i j = M x i j := fun v x i j h => by
      rw [qw_ap, if_neg (by omega), k4 _ _ _ (by omega), g3 _ _ _ (by omega), k2 _ _ _ (by omega), g1 _ _ _ (by omega)]
    unfold OKS
    by_cases cz : c = 0
    · rw [if_pos cz]
      refine ⟨_, rfl, fr 3, Or.inr ⟨fun n m o => ?_, ?_⟩⟩
      · rcases o with o | o | o | o
        · omega
        · exact o.2.1 cz
        · omega
        · omega
      · rw [if_pos ⟨z, cz⟩]
        exact qw_s
    · rw [if_neg cz]
      refine ⟨_, rfl, fr _, ?_⟩
      have r2 : qw N4 735 12 0 (N4 735 12 0) 735 14 0 = v1 := by
        rw [qw_ap, if_neg (by decide), k4 _ _ _ (by decide), g3 _ _ _ (by decide)]
        exact t2
      have r3 : qw N4 735 12 0 (N4 735 12 0) 735 15 0 = v3 := by
        rw [qw_ap, if_neg (by decide)]
        exact t4
      have r1 : qw N4 735 12 0 (N4 735 12 0) 735 12 0 = N4 735 12 0 := qw_s
      rw [r1, r2, r3, if_neg (fun y => cz y.2)]
      by_cases ok : FIT (a * d) ∧ FIT (b * c)
      · left
        rcases h1 with ⟨_, x1, x2⟩ | ⟨x1, _⟩
        · rcases h3 with ⟨_, y1, y2⟩ | ⟨y1, _⟩
          · exact ⟨_, _, Or.inr (Or.inl ⟨z, cz, ok.1, ok.2, rfl, rfl⟩), by omega, x1, y1⟩
          · exact absurd ok.2 y1
        · exact absurd ok.1 x1
      · right
        refine ⟨fun n m o => ?_, ?_⟩
        · rcases o with o | o | o | o
          · omega
          · exact ok ⟨o.2.2.1, o.2.2.2.1⟩
          · omega
          · omega
        · rcases h3 with ⟨y0, y1, y2⟩ | ⟨_, y1⟩
          · rcases h1 with ⟨x0, _, _⟩ | ⟨_, x1⟩
            · exact absurd ⟨x0, y0⟩ ok
            · omega
          · omega
end LWh
