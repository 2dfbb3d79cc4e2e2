section LWc
variable {M K N : qm} {x y u l i g w c v : Int}
/-- what a fraction that is put on the pile changes -/
def PUF (K W : qm) (v : Int) : Prop := ∀ b i j, ¬ (b = 2206 ∧ i = v ∧ j = 0) → ¬ (b = 2207 ∧ i = v ∧ j = 0) → ¬ (b = 2184 ∧ (i = 39 ∨ i = 40 ∨ i = 41)) → W b i j = K b i j
theorem push_e (hv : (K 2184 39 0) = v) (v0 : 0 ≤ v) (v1 : v < 130) (ho : (K 2184 40 0) = 0) (u0 : -9223372036854775808 ≤ u) (u1 : u < 9223372036854775808) (l0 : -9223372036854775808 ≤ l) (l1 : l < 9223372036854775808) (ln : l ≠ 0) : ∃ W, qf_X15_push 20000 u l K = some ((), W) ∧ PUF K W v ∧ (W 2184 39 0) = v + 1 ∧ ((∃ p q, lwF u l = some (p, q) ∧ (W 2184 40 0) = 0 ∧ (W 2184 41 0) = (K 2184 41 0) ∧ (W 2206 v 0) = p ∧ (W 2207 v 0) = q) ∨ (lwF u l = none ∧ (W 2184 40 0) = 2 ∧ (W 2184 41 0) = 0)) := by
  obtain ⟨G, U, V, hG, G1, Gb, eU, eV, du, dv, U0, U1, V0, V1, Vn, GM⟩ := gcd_f u0 u1 l0 l1 ln
  have cv : 0 ≤ v ∧ v < 130 := ⟨v0, v1⟩
  obtain ⟨o, eo, w, rfl, w1, w2⟩ := euc_K (K := K) (u := u) (l := l) (by omega) u1 l1
  -- from the quotients on
  have fin : ∀ t X Y : Int, t ≠ 0 → Int.tdiv u t = X → Int.tdiv l t = Y → -9223372036854775808 ≤ X → X < 9223372036854775808 → -9223372036854775808 ≤ Y → Y < 9223372036854775808 → (lwF u l = if 0 ≤ Y then some (X, Y) else if X = -9223372036854775808 then none else if Y = -9223372036854775808 then none else some (-X, -Y)) → ∃ W, qf_X15_push_J46 20000 u l t K = some ((), W) ∧ PUF K W v ∧ (W 2184 39 0) = v + 1 ∧ ((∃ p q, lwF u l = some (p, q) ∧ (W 2184 40 0) = 0 ∧ (W 2184 41 0) = (K 2184 41 0) ∧ (W 2206 v 0) = p ∧ (W 2207 v 0) = q) ∨ (lwF u l = none ∧ (W 2184 40 0) = 2 ∧ (W 2184 41 0) = 0)) := fun t X Y t0 eX eY X0 X1 Y0 Y1 hF => by
    unfold qf_X15_push_J46
    rw [if_neg t0, if_neg t0, hv, if_pos cv, eX, w64_id (x := X) (by omega) (by omega)]
    unfold qbnd
    (try dsimp only)
    obtain ⟨N1, hN1⟩ : ∃ W, qw K 2206 v 0 X = W := ⟨_, rfl⟩
    rw [hN1]
    have p1 : N1 2184 39 0 = v := by
      rw [← hN1, qw_ap, if_neg (by omega)]
      exact hv
    rw [if_neg t0, p1, if_pos cv, eY, w64_id (x := Y) (by omega) (by omega)]
    obtain ⟨N2, hN2⟩ : ∃ W, qw N1 2207 v 0 Y = W := ⟨_, rfl⟩
    rw [hN2]
    have n2 : ∀ b i j, b ≠ 2206 → b ≠ 2207 → N2 b i j = K b i j := fun b i j h1 h2 => by
      rw [← hN2, qw_a h2, ← hN1, qw_a h1]
    have n2' : PUF K N2 v := fun b i j h1 h2 _ => by
      rw [← hN2, qw_ap, if_neg h2, ← hN1, qw_ap, if_neg h1]
    have p2 : N2 2184 39 0 = v := (n2 _ _ _ (by decide) (by decide)).trans hv
    have lw : N2 2207 v 0 = Y := by rw [← hN2]; exact qw_s
    have up : N2 2206 v 0 = X := by
      rw [← hN2, qw_a (by decide), ← hN1]
      exact qw_s
    have op2 : N2 2184 40 0 = 0 := (n2 _ _ _ (by decide) (by decide)).trans ho
    have la2 : N2 2184 41 0 = K 2184 41 0 := n2 _ _ _ (by decide) (by decide)
    rw [p2, if_pos cv, lw]
    by_cases g1 : 0 ≤ Y
    · rw [if_pos g1] at hF
      rw [if_pos g1]
      unfold qf_X15_push_J171 qbnd
      rw [p2, w32_id (x := v + 1) (by omega) (by omega)]
      refine ⟨_, rfl, fun b i j h1 h2 h3 => ?_, qw_s, Or.inl ⟨X, Y, hF, ?_, ?_, ?_, ?_⟩⟩
      · rw [qw_ap, if_neg (by omega)]
        exact n2' b i j h1 h2 h3
      · rw [qw_ap, if_neg (by omega)]
        exact op2
      · rw [qw_ap, if_neg (by omega)]
        exact la2
      · rw [qw_a (by decide)]
        exact up
      · rw [qw_a (by decide)]
        exact lw
    · rw [if_neg g1] at hF
      rw [if_neg g1, if_pos cv, up, if_pos cv]
      -- the tail that turns the sign
      have tail : ∀ N3 : qm, N3 2184 39 0 = v → N3 2206 v 0 = X → N3 2207 v 0 = Y → ∃ W, qf_X15_push_J133 20000 N3 = some ((), W) ∧ (∀ b i j, ¬ (b = 2206 ∧ i = v ∧ j = 0) → ¬ (b = 2207 ∧ i = v ∧ j = 0) → ¬ (b = 2184 ∧ i = 39) → W b i j = N3 b i j) ∧ W 2184 39 0 = v + 1 ∧ W 2206 v 0 = w64 (-X) ∧ W 2207 v 0 = w64 (-Y) := fun N3 a1 a2 a3 => by
        unfold qf_X15_push_J133
        rw [a1, if_pos cv, if_pos cv, a2]
        unfold qbnd
        (try dsimp only)
        have b1 : qw N3 2206 v 0 (w64 (-X)) 2184 39 0 = v := by
          rw [qw_ap, if_neg (by omega)]
          exact a1
        have b2 : qw N3 2206 v 0 (w64 (-X)) 2207 v 0 = Y := by
          rw [qw_a (by decide)]
          exact a3
        rw [b1, if_pos cv, if_pos cv, b2]
        unfold qf_X15_push_J171 qbnd
        have b3 : qw (qw N3 2206 v 0 (w64 (-X))) 2207 v 0 (w64 (-Y)) 2184 39 0 = v := by
          rw [qw_ap, if_neg (by omega)]
          exact b1
        rw [b3, w32_id (x := v + 1) (by omega) (by omega)]
        refine ⟨_, rfl, fun b i j h1 h2 h3 => ?_, qw_s, ?_, ?_⟩
        · rw [qw_ap, if_neg (by omega), qw_ap, if_neg h2, qw_ap, if_neg h1]
        · rw [qw_a (by decide), qw_a (by decide)]
          exact qw_s
        · rw [qw_a (by decide)]
          exact qw_s
      have great : ∃ W, qf_X15_push_J127 20000 N2 = some ((), W) ∧ PUF K W v ∧ W 2184 39 0 = v + 1 ∧ W 2184 40 0 = 2 ∧ W 2184 41 0 = 0 := by
        unfold qf_X15_push_J127 qf_X15_opens
        rw [op2, if_pos rfl]
        unfold qbnd
        have c1 : ∀ b i j, ¬ (b = 2184 ∧ (i = 40 ∨ i = 41)) → qw (qw N2 2184 40 0 2) 2184 41 0 0 b i j = N2 b i j := fun b i j hb => by
          rw [qw_ap, if_neg (by omega), qw_ap, if_neg (by omega)]
        obtain ⟨W, eW, w3, w4, _⟩ := tail (qw (qw N2 2184 40 0 2) 2184 41 0 0) ((c1 _ _ _ (by decide)).trans p2) ((c1 _ _ _ (by omega)).trans up) ((c1 _ _ _ (by omega)).trans lw)
        refine ⟨W, eW, fun b i j h1 h2 h3 => ?_, w4, ?_, ?_⟩
        · rw [w3 b i j h1 h2 (by omega), c1 b i j (by omega)]
          exact n2' b i j h1 h2 h3
        · rw [w3 _ _ _ (by omega) (by omega) (by decide), qw_ap, if_neg (by omega)]
          exact qw_s
        · rw [w3 _ _ _ (by omega) (by omega) (by decide)]
          exact qw_s
      by_cases g2 : X = -9223372036854775808
      · rw [if_pos g2] at hF
        rw [if_pos g2]
        obtain ⟨W, eW, w3, w4, w5, w6⟩ := great
        exact ⟨W, eW, w3, w4, Or.inr ⟨hF, w5, w6⟩⟩
      · rw [if_neg g2] at hF
        rw [if_neg g2]
        by_cases g3 : Y = -9223372036854775808
        · rw [if_pos g3] at hF
          rw [if_pos g3]
          obtain ⟨W, eW, w3, w4, w5, w6⟩ := great
          exact ⟨W, eW, w3, w4, Or.inr ⟨hF, w5, w6⟩⟩
        · rw [if_neg g3] at hF
          rw [if_neg g3]
          obtain ⟨W, eW, w3, w4, w5, w6⟩ := tail N2 p2 up lw
          refine ⟨W, eW, fun b i j h1 h2 h3 => (w3 b i j h1 h2 (by omega)).trans (n2' b i j h1 h2 h3), w4, Or.inl ⟨-X, -Y, hF, ?_, ?_, ?_, ?_⟩⟩
          · rw [w3 _ _ _ (by omega) (by omega) (by decide)]
            exact op2
          · rw [w3 _ _ _ (by omega) (by omega) (by decide)]
            exact la2
          · rw [w5, w64_id (by omega) (by omega)]
          · rw [w6, w64_id (by omega) (by omega)]
  unfold qf_X15_push
  rw [eo]
  have bb : ∀ {α β : Type} (a : α) (f : α → Option β), (some a).bind f = f a := fun _ _ => rfl
  rw [bb]
  (try dsimp only)
  have lf : lwF u l = if 0 ≤ V then some (U, V) else if U = -9223372036854775808 then none else if V = -9223372036854775808 then none else some (-U, -V) := by
    unfold lwF
    rw [hG, du, dv]
  by_cases gG : G = 9223372036854775808
  · have gm := GM gG
    rw [if_neg (by omega), show w = -9223372036854775808 by omega]
    have e64 : w64 (-(-9223372036854775808)) = -9223372036854775808 := by decide
    rw [e64]
    have tu : Int.tdiv u (-9223372036854775808) = -U := by
      rw [Int.tdiv_neg, eU, gG, Int.mul_tdiv_cancel_left U (by decide)]
    have tl : Int.tdiv l (-9223372036854775808) = -V := by
      rw [Int.tdiv_neg, eV, gG, Int.mul_tdiv_cancel_left V (by decide)]
    refine fin _ (-U) (-V) (by decide) tu tl (by omega) (by omega) (by omega) (by omega) ?_
    rw [lf, if_neg (by omega), if_neg (by omega), if_neg (by omega), if_pos (by omega)]
  · have wt : (if 0 ≤ w then qf_X15_push_J46 20000 u l w K else qf_X15_push_J46 20000 u l (w64 (-w)) K) = qf_X15_push_J46 20000 u l G K := by
      by_cases z : 0 ≤ w
      · rw [if_pos z, show w = G by omega]
      · rw [if_neg z, show -w = G by omega, w64_id (x := G) (by omega) (by omega)]
    rw [wt]
    have tu : Int.tdiv u G = U := by rw [eU, Int.mul_tdiv_cancel_left U (by omega)]
    have tl : Int.tdiv l G = V := by rw [eV, Int.mul_tdiv_cancel_left V (by omega)]
    exact fin G U V (by omega) tu tl (by omega) (by omega) (by omega) (by omega) lf
end LWc
