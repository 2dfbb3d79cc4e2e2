section LWj
variable {M N K : qm} {a b c d s x y u l v n m i z : Int}
/-- a fraction is put on the pile, open or not -/
theorem push_go (hv : (K 2184 39 0) = v) (v0 : 0 ≤ v) (v1 : v < 130) (fu : FIT u) (fl : FIT l) (ln : (K 2184 40 0) = 0 → l ≠ 0) : ∃ W, qf_X15_push 20000 u l K = some ((), W) ∧ PUF K W v ∧ (W 2184 39 0) = v + 1 ∧ (((K 2184 40 0) = 0 ∧ ∃ p q, lwF u l = some (p, q) ∧ (W 2184 40 0) = 0 ∧ (W 2184 41 0) = (K 2184 41 0) ∧ (W 2206 v 0) = p ∧ (W 2207 v 0) = q) ∨ ((K 2184 40 0) = 0 ∧ lwF u l = none ∧ (W 2184 40 0) = 2 ∧ (W 2184 41 0) = 0) ∨ ((K 2184 40 0) ≠ 0 ∧ (W 2184 40 0) = (K 2184 40 0) ∧ (W 2184 41 0) = (K 2184 41 0))) := by
  by_cases ho : (K 2184 40 0) = 0
  · obtain ⟨W, e, h1, h2, h3⟩ := push_e hv v0 v1 ho fu.1 fu.2 fl.1 fl.2 (ln ho)
    refine ⟨W, e, h1, h2, ?_⟩
    rcases h3 with h3 | h3
    · exact Or.inl ⟨ho, h3⟩
    · exact Or.inr (Or.inl ⟨ho, h3⟩)
  · obtain ⟨W, e, h1, h2, h3, h4⟩ := push_any hv v0 v1 ho fu fl
    exact ⟨W, e, h1, h2, Or.inr (Or.inr ⟨ho, h3, h4⟩)⟩
/-- what comes of it, in the reference -/
def OPO (K W : qm) (v s a b c d : Int) : Prop := (∃ n m p q, OKS s a b c d n m ∧ lwF n m = some (p, q) ∧ (W 2184 40 0) = 0 ∧ (W 2184 41 0) = (K 2184 41 0) ∧ (W 2206 v 0) = p ∧ (W 2207 v 0) = q) ∨ ((∀ n m, OKS s a b c d n m → lwF n m = none) ∧ (W 2184 40 0) = (if s = 47 ∧ c = 0 then 3 else 2) ∧ (W 2184 41 0) = 0)
theorem prod_K (hv : (K 2184 39 0) = v) (v0 : 0 ≤ v) (v1 : v < 130) (ho : (K 2184 40 0) = 0) (x0 : FIT x) (y0 : FIT y) (u0 : FIT u) (l0 : FIT l) (ln : u * l ≠ 0) : ∃ W, (qf_X15_times 20000 x y K).bind (fun r => qf_X15_operate_J122 20000 r.1 u l r.2) = some ((), W) ∧ PUF K W v ∧ (W 2184 39 0) = v + 1 ∧ ((FIT (x * y) ∧ FIT (u * l) ∧ ∃ p q, lwF (x * y) (u * l) = some (p, q) ∧ (W 2184 40 0) = 0 ∧ (W 2184 41 0) = (K 2184 41 0) ∧ (W 2206 v 0) = p ∧ (W 2207 v 0) = q) ∨ ((FIT (x * y) → FIT (u * l) → lwF (x * y) (u * l) = none) ∧ (W 2184 40 0) = 2 ∧ (W 2184 41 0) = 0)) := by
  have bb : ∀ {α β : Type} (a : α) (f : α → Option β), (some a).bind f = f a := fun _ _ => rfl
  obtain ⟨v1', N1, e1, f1, g1, h1⟩ := mu_K x0 y0 K
  rw [e1, bb]
  unfold qf_X15_operate_J122
  obtain ⟨v2, N2, e2, f2, g2, h2⟩ := mu_K u0 l0 N1
  rw [e2, bb]
  (try dsimp only)
  have val : (N2 2184 39 0) = v := by
    rw [g2 _ _ _ (by decide), g1 _ _ _ (by decide)]
    exact hv
  have lz : (N2 2184 40 0) = 0 → v2 ≠ 0 := fun z => by
    rcases h2 with ⟨_, _, q, _⟩ | ⟨_, _, q, _⟩ | ⟨q, e⟩
    · rw [q]
      exact ln
    · rw [q] at z
      omega
    · rw [e] at z
      exact absurd z q
  obtain ⟨W, e3, p3, v3, h3⟩ := push_go val v0 v1 f1 f2 lz
  rw [e3, bb]
  refine ⟨W, rfl, fun b i j c1 c2 c3 => ?_, v3, ?_⟩
  · rw [p3 b i j c1 c2 c3, g2 b i j (by omega), g1 b i j (by omega)]
  · rcases h1 with ⟨_, x1, x2, x3⟩ | ⟨_, x1, x2, x3⟩ | ⟨x1, _⟩
    · rcases h2 with ⟨_, y1, y2, y3⟩ | ⟨_, y1, y2, y3⟩ | ⟨y1, _⟩
      · rw [x2, y2, y3, x3] at h3
        rcases h3 with ⟨_, p, q, t1, t2, t3, t4, t5⟩ | ⟨_, t1, t2, t3⟩ | ⟨t1, _⟩
        · exact Or.inl ⟨x1, y1, p, q, t1, t2, t3, t4, t5⟩
        · exact Or.inr ⟨fun _ _ => t1, t2, t3⟩
        · exact absurd ho t1
      · right
        rcases h3 with ⟨t0, _⟩ | ⟨t0, _⟩ | ⟨_, t1, t2⟩
        · omega
        · omega
        · exact ⟨fun _ z => absurd z y1, t1.trans y2, t2.trans y3⟩
      · rw [x3] at y1
        exact absurd ho y1
    · right
      have o2 : (N2 2184 40 0) = 2 ∧ (N2 2184 41 0) = 0 := by
        rcases h2 with ⟨y1, _⟩ | ⟨y1, _⟩ | ⟨_, y2⟩
        · omega
        · omega
        · rw [y2]
          exact ⟨x2, x3⟩
      rcases h3 with ⟨t0, _⟩ | ⟨t0, _⟩ | ⟨_, t1, t2⟩
      · omega
      · omega
      · exact ⟨fun z => absurd z x1, t1.trans o2.1, t2.trans o2.2⟩
    · exact absurd ho x1
end LWj
