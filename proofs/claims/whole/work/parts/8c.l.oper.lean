section LWl
variable {M N K : qm} {a b c d s x y u l v n m i z : Int}
theorem operate_K (hv : (K 2184 39 0) = v + 2) (v0 : 0 ≤ v) (v1 : v + 2 ≤ 130) (ho : (K 2184 40 0) = 0) (ha : (K 2206 v 0) = a) (hb : (K 2207 v 0) = b) (hc : (K 2206 (v + 1) 0) = c) (hd : (K 2207 (v + 1) 0) = d) (a0 : FIT a) (b0 : FIT b) (c0 : FIT c) (d0 : FIT d) (b1 : 1 ≤ b) (d1 : 1 ≤ d) (hs : (i = 2 ∧ s = 43) ∨ (i = 3 ∧ s = 45) ∨ (i = 4 ∧ s = 42) ∨ (i = 5 ∧ s = 47)) : ∃ W, qf_X15_operate 20000 i K = some ((), W) ∧ PUF K W v ∧ (W 2184 39 0) = v + 1 ∧ OPO K W v s a b c d := by
  have bb : ∀ {α β : Type} (a : α) (f : α → Option β), (some a).bind f = f a := fun _ _ => rfl
  have cv : 0 ≤ v ∧ v < 130 := by omega
  have cv1 : 0 ≤ v + 1 ∧ v + 1 < 130 := by omega
  have bd : b * d ≠ 0 := fun z => by
    rcases Int.mul_eq_zero.mp z with q | q <;> omega
  unfold qf_X15_operate
  rw [hv, show v + 2 - 2 = v by omega, w32_id (x := v) (by omega) (by omega)]
  unfold qbnd
  (try dsimp only)
  obtain ⟨K2, hK2⟩ : ∃ W, qw K 2184 39 0 v = W := ⟨_, rfl⟩
  rw [hK2]
  have k2 : ∀ b i j, ¬ (b = 2184 ∧ i = 39) → K2 b i j = K b i j := fun b i j h => by rw [← hK2, qw_ap, if_neg (by omega)]
  have p2 : K2 2184 39 0 = v := by rw [← hK2]; exact qw_s
  have o2 : K2 2184 40 0 = 0 := (k2 _ _ _ (by decide)).trans ho
  have l2 : K2 2184 41 0 = K 2184 41 0 := k2 _ _ _ (by decide)
  have ea : K2 2206 v 0 = a := (k2 _ _ _ (by omega)).trans ha
  have eb : K2 2207 v 0 = b := (k2 _ _ _ (by omega)).trans hb
  have ec : K2 2206 (v + 1) 0 = c := (k2 _ _ _ (by omega)).trans hc
  have ed : K2 2207 (v + 1) 0 = d := (k2 _ _ _ (by omega)).trans hd
  have pu : ∀ W, PUF K2 W v → PUF K W v := fun W h b i j h1 h2 h3 => (h b i j h1 h2 h3).trans (k2 b i j (by omega))
  rw [p2, if_pos cv, if_pos cv, w32_id (x := v + 1) (by omega) (by omega), if_pos cv1, if_pos cv1, ea, eb, ec, ed]
  have sA : i = 5 → s = 47 := fun z => by omega
  have sB : i ≠ 5 → s ≠ 47 := fun z => by omega
  have j84 : ¬ (s = 47 ∧ c = 0) → ∃ W, qf_X15_operate_J84 20000 i a b c d K2 = some ((), W) ∧ PUF K W v ∧ (W 2184 39 0) = v + 1 ∧ OPO K W v s a b c d := fun nz => by
    unfold qf_X15_operate_J84 qf_X15_operate_J104 OPO OKS
    rw [if_neg nz]
    rcases hs with ⟨rfl, rfl⟩ | ⟨rfl, rfl⟩ | ⟨rfl, rfl⟩ | ⟨rfl, rfl⟩
    · rw [if_pos (by decide)]
      obtain ⟨W, e, h1, h2, h3⟩ := sum_K (i := 0) p2 v0 cv.2 o2 a0 b0 c0 d0 (Or.inl rfl) bd
      rw [if_pos rfl, l2] at h3
      refine ⟨W, e, pu W h1, h2, ?_⟩
      rcases h3 with ⟨q1, q2, q3, q4, p, q, t⟩ | ⟨q1, q2, q3⟩
      · exact Or.inl ⟨_, _, p, q, Or.inr (Or.inr (Or.inl ⟨rfl, q1, q2, q3, q4, rfl, rfl⟩)), t⟩
      · refine Or.inr ⟨fun n m o => ?_, q2, q3⟩
        rcases o with o | o | o | o
        · omega
        · omega
        · rw [o.2.2.2.2.2.1, o.2.2.2.2.2.2]
          exact q1 o.2.1 o.2.2.1 o.2.2.2.1 o.2.2.2.2.1
        · omega
    · rw [if_pos (by decide)]
      obtain ⟨W, e, h1, h2, h3⟩ := sum_K (i := 1) p2 v0 cv.2 o2 a0 b0 c0 d0 (Or.inr rfl) bd
      rw [if_neg (by decide), l2] at h3
      refine ⟨W, e, pu W h1, h2, ?_⟩
      rcases h3 with ⟨q1, q2, q3, q4, p, q, t⟩ | ⟨q1, q2, q3⟩
      · exact Or.inl ⟨_, _, p, q, Or.inr (Or.inr (Or.inr ⟨rfl, q1, q2, q3, q4, rfl, rfl⟩)), t⟩
      · refine Or.inr ⟨fun n m o => ?_, q2, q3⟩
        rcases o with o | o | o | o
        · omega
        · omega
        · omega
        · rw [o.2.2.2.2.2.1, o.2.2.2.2.2.2]
          exact q1 o.2.1 o.2.2.1 o.2.2.2.1 o.2.2.2.2.1
    · rw [if_neg (by decide), if_pos rfl]
      obtain ⟨W, e, h1, h2, h3⟩ := prod_K (x := a) (y := c) (u := b) (l := d) p2 v0 cv.2 o2 a0 c0 b0 d0 bd
      rw [l2] at h3
      refine ⟨W, e, pu W h1, h2, ?_⟩
      rcases h3 with ⟨q1, q2, p, q, t⟩ | ⟨q1, q2, q3⟩
      · exact Or.inl ⟨_, _, p, q, Or.inl ⟨rfl, q1, q2, rfl, rfl⟩, t⟩
      · refine Or.inr ⟨fun n m o => ?_, q2, q3⟩
        rcases o with o | o | o | o
        · rw [o.2.2.2.1, o.2.2.2.2]
          exact q1 o.2.1 o.2.2.1
        · omega
        · omega
        · omega
    · rw [if_neg (by decide), if_neg (by decide)]
      have bc : b * c ≠ 0 := fun z => by
        rcases Int.mul_eq_zero.mp z with q | q
        · omega
        · exact nz ⟨rfl, q⟩
      obtain ⟨W, e, h1, h2, h3⟩ := prod_K (x := a) (y := d) (u := b) (l := c) p2 v0 cv.2 o2 a0 d0 b0 c0 bc
      rw [l2] at h3
      refine ⟨W, e, pu W h1, h2, ?_⟩
      rcases h3 with ⟨q1, q2, p, q, t⟩ | ⟨q1, q2, q3⟩
      · exact Or.inl ⟨_, _, p, q, Or.inr (Or.inl ⟨rfl, fun z => nz ⟨rfl, z⟩, q1, q2, rfl, rfl⟩), t⟩
      · refine Or.inr ⟨fun n m o => ?_, q2, q3⟩
        rcases o with o | o | o | o
        · omega
        · rw [o.2.2.2.2.1, o.2.2.2.2.2]
          exact q1 o.2.2.1 o.2.2.2.1
        · omega
        · omega
  by_cases g : i = 5
  · rw [if_pos g]
    have s47 : s = 47 := sA g
    by_cases cz : c = 0
    · clear j84
      rw [if_pos cz]
      have eo : qf_X15_opens 20000 3 0 K2 = some ((), qw (qw K2 2184 40 0 3) 2184 41 0 0) := by
        unfold qf_X15_opens
        rw [if_pos o2]
        rfl
      rw [eo, bb]
      (try dsimp only)
      obtain ⟨W, e, h1, h2, h3, h4⟩ := push_any (K := qw (qw K2 2184 40 0 3) 2184 41 0 0) (v := v) (u := 0) (l := 1) (by rw [qw_ap, if_neg (by decide), qw_ap, if_neg (by decide)]; exact p2) v0 cv.2 (by rw [qw_ap, if_neg (by decide), qw_s]; decide) (by unfold FIT; decide) (by unfold FIT; decide)
      rw [e, bb]
      refine ⟨W, rfl, fun b i j c1 c2 c3 => ?_, h2, Or.inr ⟨fun n m o => ?_, ?_, ?_⟩⟩
      · rw [h1 b i j c1 c2 c3, qw_ap, if_neg (by omega), qw_ap, if_neg (by omega)]
        exact k2 b i j (by omega)
      · unfold OKS at o
        rcases o with o | o | o | o
        · omega
        · exact absurd cz o.2.1
        · omega
        · omega
      · rw [if_pos ⟨s47, cz⟩, h3, qw_ap, if_neg (by decide)]
        exact qw_s
      · rw [h4]
        exact qw_s
    · rw [if_neg cz]
      exact j84 (fun z => cz z.2)
  · rw [if_neg g]
    exact j84 (fun z => sB g z.1)
end LWl
