/-! ===== what is open already stays so ===== -/
section LWg
variable {M K N : qm} {x y u l i g w c v : Int}
theorem push_any (hv : (K 2184 39 0) = v) (v0 : 0 ≤ v) (v1 : v < 130) (ho : (K 2184 40 0) ≠ 0) (fu : FIT u) (fl : FIT l) : ∃ W, qf_X15_push 20000 u l K = some ((), W) ∧ PUF K W v ∧ (W 2184 39 0) = v + 1 ∧ (W 2184 40 0) = (K 2184 40 0) ∧ (W 2184 41 0) = (K 2184 41 0) := by
  have u0 := fu.1
  have u1 := fu.2
  have l0 := fl.1
  have l1 := fl.2
  have cv : 0 ≤ v ∧ v < 130 := ⟨v0, v1⟩
  obtain ⟨o, eo, w, rfl, w1, w2⟩ := euc_K (K := K) (u := u) (l := l) (by omega) u1 l1
  have fin : ∀ t : Int, ∃ W, qf_X15_push_J46 20000 u l t K = some ((), W) ∧ PUF K W v ∧ (W 2184 39 0) = v + 1 ∧ (W 2184 40 0) = (K 2184 40 0) ∧ (W 2184 41 0) = (K 2184 41 0) := fun t => by
    have j171 : ∀ N : qm, N 2184 39 0 = v → PUF K N v → N 2184 40 0 = K 2184 40 0 → N 2184 41 0 = K 2184 41 0 → ∃ W, qf_X15_push_J171 20000 N = some ((), W) ∧ PUF K W v ∧ W 2184 39 0 = v + 1 ∧ W 2184 40 0 = K 2184 40 0 ∧ W 2184 41 0 = K 2184 41 0 := fun N a1 a2 a3 a4 => by
      unfold qf_X15_push_J171 qbnd
      rw [a1, w32_id (x := v + 1) (by omega) (by omega)]
      refine ⟨_, rfl, fun b i j h1 h2 h3 => ?_, qw_s, ?_, ?_⟩
      · rw [qw_ap, if_neg (by omega)]
        exact a2 b i j h1 h2 h3
      · rw [qw_ap, if_neg (by omega)]
        exact a3
      · rw [qw_ap, if_neg (by omega)]
        exact a4
    unfold qf_X15_push_J46
    by_cases t0 : t = 0
    · rw [if_pos t0]
      exact j171 K hv (fun _ _ _ _ _ _ => rfl) rfl rfl
    · rw [if_neg t0, if_neg t0, hv, if_pos cv]
      unfold qbnd
      (try dsimp only)
      obtain ⟨N1, hN1⟩ : ∃ W, qw K 2206 v 0 (w64 (Int.tdiv u t)) = W := ⟨_, rfl⟩
      rw [hN1]
      have p1 : N1 2184 39 0 = v := by
        rw [← hN1, qw_ap, if_neg (by omega)]
        exact hv
      rw [if_neg t0, p1, if_pos cv]
      obtain ⟨N2, hN2⟩ : ∃ W, qw N1 2207 v 0 (w64 (Int.tdiv l t)) = W := ⟨_, rfl⟩
      rw [hN2]
      have n2 : ∀ b i j, b ≠ 2206 → b ≠ 2207 → N2 b i j = K b i j := fun b i j h1 h2 => by
        rw [← hN2, qw_a h2, ← hN1, qw_a h1]
      have n2' : PUF K N2 v := fun b i j h1 h2 _ => by
        rw [← hN2, qw_ap, if_neg h2, ← hN1, qw_ap, if_neg h1]
      have p2 : N2 2184 39 0 = v := (n2 _ _ _ (by decide) (by decide)).trans hv
      have op2 : N2 2184 40 0 = K 2184 40 0 := n2 _ _ _ (by decide) (by decide)
      have la2 : N2 2184 41 0 = K 2184 41 0 := n2 _ _ _ (by decide) (by decide)
      have j133 : ∃ W, qf_X15_push_J133 20000 N2 = some ((), W) ∧ PUF K W v ∧ W 2184 39 0 = v + 1 ∧ W 2184 40 0 = K 2184 40 0 ∧ W 2184 41 0 = K 2184 41 0 := by
        unfold qf_X15_push_J133
        rw [p2, if_pos cv, if_pos cv]
        unfold qbnd
        (try dsimp only)
        obtain ⟨N3, hN3⟩ : ∃ W, qw N2 2206 v 0 (w64 (-(N2 2206 v 0))) = W := ⟨_, rfl⟩
        rw [hN3]
        have p3 : N3 2184 39 0 = v := by
          rw [← hN3, qw_ap, if_neg (by omega)]
          exact p2
        rw [p3, if_pos cv, if_pos cv]
        refine j171 _ ?_ (fun b i j h1 h2 h3 => ?_) ?_ ?_
        · rw [qw_ap, if_neg (by omega)]
          exact p3
        · rw [qw_ap, if_neg h2, ← hN3, qw_ap, if_neg h1]
          exact n2' b i j h1 h2 h3
        · rw [qw_ap, if_neg (by omega), ← hN3, qw_ap, if_neg (by omega)]
          exact op2
        · rw [qw_ap, if_neg (by omega), ← hN3, qw_ap, if_neg (by omega)]
          exact la2
      have j127 : ∃ W, qf_X15_push_J127 20000 N2 = some ((), W) ∧ PUF K W v ∧ W 2184 39 0 = v + 1 ∧ W 2184 40 0 = K 2184 40 0 ∧ W 2184 41 0 = K 2184 41 0 := by
        unfold qf_X15_push_J127 qf_X15_opens
        rw [if_neg (by rw [op2]; exact ho)]
        exact j133
      rw [p2, if_pos cv]
      by_cases g1 : 0 ≤ N2 2207 v 0
      · rw [if_pos g1]
        exact j171 N2 p2 n2' op2 la2
      · rw [if_neg g1, if_pos cv]
        by_cases g2 : N2 2206 v 0 = -9223372036854775808
        · rw [if_pos g2]
          exact j127
        · rw [if_neg g2, if_pos cv]
          by_cases g3 : N2 2207 v 0 = -9223372036854775808
          · rw [if_pos g3]
            exact j127
          · rw [if_neg g3]
            exact j133
  unfold qf_X15_push
  rw [eo]
  have bb : ∀ {α β : Type} (a : α) (f : α → Option β), (some a).bind f = f a := fun _ _ => rfl
  rw [bb]
  (try dsimp only)
  by_cases z : 0 ≤ w
  · rw [if_pos z]
    exact fin w
  · rw [if_neg z]
    exact fin _
end LWg
