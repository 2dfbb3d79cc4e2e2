section LWf
variable {M K : qm} {a b x y s v i : Int}
theorem plus_m (ho : (K 2184 40 0) = 0) (t : Int) : (t = 0 → qf_X15_plus_J136 20000 s t K = some (s, K)) ∧ (t = 1 → qf_X15_plus_J136 20000 s t K = some (s, qw (qw K 2184 40 0 2) 2184 41 0 0)) := by
  unfold qf_X15_plus_J136
  refine ⟨fun z => ?_, fun z => ?_⟩
  · rw [if_pos z]
  · rw [if_neg (by omega)]
    unfold qf_X15_opens
    rw [if_pos ho]
    rfl
theorem plus_K (a0 : FIT a) (b0 : FIT b) (hi : i = 0 ∨ i = 1) (ho : (K 2184 40 0) = 0) (hs : s = if i = 0 then a + b else a - b) : (FIT s ∧ qf_X15_plus 20000 a b i K = some (s, K)) ∨ (¬ FIT s ∧ ∃ v, FIT v ∧ qf_X15_plus 20000 a b i K = some (v, qw (qw K 2184 40 0 2) 2184 41 0 0)) := by
  have pm := fun s t => plus_m (s := s) ho t
  have main : ∀ r, r = w64 s → (qf_X15_plus_J14 20000 a b i r K = some (r, K) ∧ FIT s) ∨ (qf_X15_plus_J14 20000 a b i r K = some (r, qw (qw K 2184 40 0 2) 2184 41 0 0) ∧ ¬ FIT s) := by
    intro r hr
    unfold FIT at a0 b0 ⊢
    unfold w64 at hr
    have p0 := (pm r 0).1 rfl
    have p1 := (pm r 1).2 rfl
    rcases hi with z | z
    · rw [if_pos z] at hs
      unfold qf_X15_plus_J14 qf_X15_plus_J91 qf_X15_plus_J102 qf_X15_plus_J117 qf_X15_plus_J128 qf_X15_plus_J135
      rw [if_pos z]
      by_cases ga : 0 ≤ a
      · rw [if_pos ga]
        by_cases gb : 0 ≤ b
        · rw [if_pos gb, if_pos rfl]
          by_cases gr : 0 ≤ r
          · rw [if_pos gr, if_pos ga, if_pos rfl]
            exact Or.inl ⟨p0, by omega⟩
          · rw [if_neg gr, if_pos ga, if_neg (by decide)]
            exact Or.inr ⟨p1, by omega⟩
        · rw [if_neg gb, if_neg (by decide)]
          exact Or.inl ⟨p0, by omega⟩
      · rw [if_neg ga]
        by_cases gb : 0 ≤ b
        · rw [if_pos gb, if_neg (by decide)]
          exact Or.inl ⟨p0, by omega⟩
        · rw [if_neg gb, if_pos rfl]
          by_cases gr : 0 ≤ r
          · rw [if_pos gr, if_neg ga, if_neg (by decide)]
            exact Or.inr ⟨p1, by omega⟩
          · rw [if_neg gr, if_neg ga, if_pos rfl]
            exact Or.inl ⟨p0, by omega⟩
    · rw [if_neg (by omega)] at hs
      unfold qf_X15_plus_J14 qf_X15_plus_J32 qf_X15_plus_J43 qf_X15_plus_J58 qf_X15_plus_J69 qf_X15_plus_J76
      rw [if_neg (by omega)]
      by_cases ga : 0 ≤ a
      · rw [if_pos ga]
        by_cases gb : 0 ≤ b
        · rw [if_pos gb, if_pos rfl]
          exact Or.inl ⟨p0, by omega⟩
        · rw [if_neg gb, if_neg (by decide)]
          by_cases gr : 0 ≤ r
          · rw [if_pos gr, if_pos ga, if_pos rfl]
            exact Or.inl ⟨p0, by omega⟩
          · rw [if_neg gr, if_pos ga, if_neg (by decide)]
            exact Or.inr ⟨p1, by omega⟩
      · rw [if_neg ga]
        by_cases gb : 0 ≤ b
        · rw [if_pos gb, if_neg (by decide)]
          by_cases gr : 0 ≤ r
          · rw [if_pos gr, if_neg ga, if_neg (by decide)]
            exact Or.inr ⟨p1, by omega⟩
          · rw [if_neg gr, if_neg ga, if_pos rfl]
            exact Or.inl ⟨p0, by omega⟩
        · rw [if_neg gb, if_pos rfl]
          exact Or.inl ⟨p0, by omega⟩
  have top : qf_X15_plus 20000 a b i K = qf_X15_plus_J14 20000 a b i (w64 s) K := by
    unfold qf_X15_plus
    by_cases z : i = 0
    · rw [if_pos z] at hs ⊢
      rw [hs]
    · rw [if_neg z] at hs ⊢
      rw [hs]
  rw [top]
  rcases main (w64 s) rfl with ⟨e, f⟩ | ⟨e, f⟩
  · left
    rw [w64_id f.1 f.2] at e ⊢
    exact ⟨f, e⟩
  · exact Or.inr ⟨f, _, by unfold FIT w64; omega, e⟩
end LWf
