section LWk
variable {M N K : qm} {a b c d s x y u l v n m i z : Int}
theorem sum_K (hv : (K 2184 39 0) = v) (v0 : 0 ≤ v) (v1 : v < 130) (ho : (K 2184 40 0) = 0) (a0 : FIT a) (b0 : FIT b) (c0 : FIT c) (d0 : FIT d) (hi : i = 0 ∨ i = 1) (ln : b * d ≠ 0) : ∃ W, (qf_X15_times 20000 a d K).bind (fun r16 => (qf_X15_times 20000 c b r16.2).bind (fun r18 => qf_X15_operate_J158 20000 b d r16.1 r18.1 i r18.2)) = some ((), W) ∧ PUF K W v ∧ (W 2184 39 0) = v + 1 ∧ ((FIT (a * d) ∧ FIT (c * b) ∧ FIT (if i = 0 then a * d + c * b else a * d - c * b) ∧ FIT (b * d) ∧ ∃ p q, lwF (if i = 0 then a * d + c * b else a * d - c * b) (b * d) = some (p, q) ∧ (W 2184 40 0) = 0 ∧ (W 2184 41 0) = (K 2184 41 0) ∧ (W 2206 v 0) = p ∧ (W 2207 v 0) = q) ∨ ((FIT (a * d) → FIT (c * b) → FIT (if i = 0 then a * d + c * b else a * d - c * b) → FIT (b * d) → lwF (if i = 0 then a * d + c * b else a * d - c * b) (b * d) = none) ∧ (W 2184 40 0) = 2 ∧ (W 2184 41 0) = 0)) := by
  have bb : ∀ {α β : Type} (a : α) (f : α → Option β), (some a).bind f = f a := fun _ _ => rfl
  obtain ⟨v1', N1, e1, f1, g1, h1⟩ := mu_K a0 d0 K
  rw [e1, bb]
  (try dsimp only)
  obtain ⟨v2, N2, e2, f2, g2, h2⟩ := mu_K c0 b0 N1
  rw [e2, bb]
  unfold qf_X15_operate_J158
  (try dsimp only)
  obtain ⟨v3, N3, e3, f3, g3, h3⟩ := pl_K f1 f2 hi N2
  rw [e3, bb]
  (try dsimp only)
  obtain ⟨v4, N4, e4, f4, g4, h4⟩ := mu_K b0 d0 N3
  rw [e4, bb]
  (try dsimp only)
  have val : (N4 2184 39 0) = v := by
    rw [g4 _ _ _ (by decide), g3 _ _ _ (by decide), g2 _ _ _ (by decide), g1 _ _ _ (by decide)]
    exact hv
  have lz : (N4 2184 40 0) = 0 → v4 ≠ 0 := fun z => by
    rcases h4 with ⟨_, _, q, _⟩ | ⟨_, _, q, _⟩ | ⟨q, e⟩
    · rw [q]
      exact ln
    · rw [q] at z
      omega
    · rw [e] at z
      exact absurd z q
  obtain ⟨W, e5, p5, v5, h5⟩ := push_go val v0 v1 f3 f4 lz
  rw [e5, bb]
  -- once open, it stays so
  have st : ∀ {N N' : qm} {v r : Int}, MUK N N' v r → (N 2184 40 0) = 2 → (N 2184 41 0) = 0 → (N' 2184 40 0) = 2 ∧ (N' 2184 41 0) = 0 := fun h o1 o2 => by
    rcases h.2.2 with ⟨y1, _⟩ | ⟨y1, _⟩ | ⟨_, y2⟩
    · omega
    · omega
    · rw [y2]
      exact ⟨o1, o2⟩
  have bad : ∀ {P : Prop}, (N4 2184 40 0) = 2 ∧ (N4 2184 41 0) = 0 → P → P ∧ (W 2184 40 0) = 2 ∧ (W 2184 41 0) = 0 := fun o2 hp => by
    rcases h5 with ⟨t0, _⟩ | ⟨t0, _⟩ | ⟨_, t1, t2⟩
    · omega
    · omega
    · exact ⟨hp, t1.trans o2.1, t2.trans o2.2⟩
  refine ⟨W, rfl, fun b i j c1 c2 c3 => ?_, v5, ?_⟩
  · rw [p5 b i j c1 c2 c3, g4 b i j (by omega), g3 b i j (by omega), g2 b i j (by omega), g1 b i j (by omega)]
  · rcases h1 with ⟨_, x1, x2, x3⟩ | ⟨_, x1, x2, x3⟩ | ⟨x1, _⟩
    · rcases h2 with ⟨_, y1, y2, y3⟩ | ⟨_, y1, y2, y3⟩ | ⟨y1, _⟩
      · rw [x2, y2] at h3
        rcases h3 with ⟨_, z1, z2, z3⟩ | ⟨_, z1, z2, z3⟩ | ⟨z1, _⟩
        · rcases h4 with ⟨_, w1, w2, w3⟩ | ⟨_, w1, w2, w3⟩ | ⟨w1, _⟩
          · rw [z2, w2, w3, z3, y3, x3] at h5
            rcases h5 with ⟨_, p, q, t1, t2, t3, t4, t5⟩ | ⟨_, t1, t2, t3⟩ | ⟨t1, _⟩
            · exact Or.inl ⟨x1, y1, z1, w1, p, q, t1, t2, t3, t4, t5⟩
            · exact Or.inr ⟨fun _ _ _ _ => t1, t2, t3⟩
            · exact absurd ho t1
          · exact Or.inr (bad ⟨w2, w3⟩ (fun _ _ _ q => absurd q w1))
          · rw [z3, y3, x3] at w1
            exact absurd ho w1
        · exact Or.inr (bad (st ⟨f4, g4, h4⟩ z2 z3) (fun _ _ q _ => absurd q z1))
        · rw [y3, x3] at z1
          exact absurd ho z1
      · have s3 := st ⟨f3, g3, h3⟩ y2 y3
        exact Or.inr (bad (st ⟨f4, g4, h4⟩ s3.1 s3.2) (fun _ q _ _ => absurd q y1))
      · rw [x3] at y1
        exact absurd ho y1
    · have s2 := st ⟨f2, g2, h2⟩ x2 x3
      have s3 := st ⟨f3, g3, h3⟩ s2.1 s2.2
      exact Or.inr (bad (st ⟨f4, g4, h4⟩ s3.1 s3.2) (fun q _ _ _ => absurd q x1))
    · exact absurd ho x1
end LWk
