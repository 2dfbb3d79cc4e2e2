/-! ===== events ===== -/
def evA (b : Nat) : Bool := b == 2231 || b == 2232 || b == 2233
theorem tellL_r {K : qm} {a d : Int} : qW (qf_X14_tell_L11 20000 20000 a d 1 K) (fun o => match o with | .inl _ => False | .inr r => ∀ b x j, r.2 b x j = if evA b = true ∧ j = 0 ∧ 0 ≤ x ∧ x < 59 then K b (x + 1) 0 else K b x j) := by
  unfold qf_X14_tell_L11
  refine qW_for 59 (fun i t => t.1 = a ∧ t.2.1 = d ∧ t.2.2.1 = i + 1 ∧ ∀ b x j, t.2.2.2 b x j = if evA b = true ∧ j = 0 ∧ 0 ≤ x ∧ x < i then K b (x + 1) 0 else K b x j) ?_ ?_ ⟨rfl, rfl, rfl, fun b x j => by rw [if_neg (by omega)]⟩ (by omega) (by omega)
  · rintro i ⟨a', d', i', S⟩ i0 i1 ⟨e1, e2, e3, hS⟩
    (try dsimp only at *)
    subst e3
    unfold qf_X14_tell_L11_b
    have c1 : w32 (i + 1 - 1) = i := by rw [w32_id (by omega) (by omega)]; omega
    rw [if_neg (by omega), if_pos (by omega), c1, if_pos (by omega)]
    refine qW_bnd ?_
    rw [if_pos (by omega), if_pos (by omega)]
    refine qW_bnd ?_
    rw [if_pos (by omega), if_pos (by omega), w32_id (x := i + 1 + 1) (by omega) (by omega)]
    refine qW_bnd (qW_some ⟨e1, e2, rfl, fun b x j => ?_⟩)
    (try dsimp only)
    simp only [qw_ap]
    by_cases ex : x = i ∧ j = 0
    · obtain ⟨rfl, rfl⟩ := ex
      by_cases b1 : b = 2231
      · subst b1
        rw [if_neg (by omega), if_neg (by omega), if_pos (by omega), if_pos ⟨rfl, rfl, i0, by omega⟩, hS, if_neg (by omega)]
      · by_cases b2 : b = 2232
        · subst b2
          rw [if_neg (by omega), if_pos (by omega), if_neg (by omega), if_pos ⟨rfl, rfl, i0, by omega⟩, hS, if_neg (by omega)]
        · by_cases b3 : b = 2233
          · subst b3
            rw [if_pos (by omega), if_neg (by omega), if_neg (by omega), if_pos ⟨rfl, rfl, i0, by omega⟩, hS, if_neg (by omega)]
          · rw [if_neg (by omega), if_neg (by omega), if_neg (by omega), hS, if_neg (by omega), if_neg]
            rintro ⟨h, -⟩
            unfold evA at h
            simp only [Bool.or_eq_true, beq_iff_eq] at h
            omega
    · rw [if_neg (by omega), if_neg (by omega), if_neg (by omega), hS]
      by_cases c : evA b = true ∧ j = 0 ∧ 0 ≤ x ∧ x < i
      · rw [if_pos c, if_pos ⟨c.1, c.2.1, c.2.2.1, by omega⟩]
      · rw [if_neg c, if_neg (fun h => c ⟨h.1, h.2.1, h.2.2.1, by omega⟩)]
  · rintro ⟨a', d', i', S⟩ ⟨e1, e2, e3, hS⟩
    (try dsimp only at *)
    unfold qf_X14_tell_L11_b
    rw [if_pos (by omega)]
    exact qW_some hS
/-- an event is told (reference): the latest one is it, the others are one farther -/
def teW (K T : qm) (a d : Int) : Prop := (T 2208 30 0) = (if (K 2208 30 0) < 60 then (K 2208 30 0) + 1 else 60) ∧ (T 2231 ((T 2208 30 0) - 1) 0) = (K 2208 1 0) ∧ (T 2232 ((T 2208 30 0) - 1) 0) = a ∧ (T 2233 ((T 2208 30 0) - 1) 0) = d ∧ (∀ k, 1 ≤ k → k < (T 2208 30 0) → (T 2231 ((T 2208 30 0) - 1 - k) 0) = (K 2231 ((K 2208 30 0) - k) 0) ∧ (T 2232 ((T 2208 30 0) - 1 - k) 0) = (K 2232 ((K 2208 30 0) - k) 0) ∧ (T 2233 ((T 2208 30 0) - 1 - k) 0) = (K 2233 ((K 2208 30 0) - k) 0))
theorem tellJ_r {K : qm} {a d : Int} (e0 : 0 ≤ (K 2208 30 0)) (e1 : (K 2208 30 0) < 60) : qW (qf_X14_tell_J75 20000 a d K) (fun r => r.2 2208 30 0 = (K 2208 30 0) + 1 ∧ ∀ c x j, c ≠ 2208 ∨ x ≠ 30 → r.2 c x j = if c = 2231 ∧ x = (K 2208 30 0) ∧ j = 0 then (K 2208 1 0) else if c = 2232 ∧ x = (K 2208 30 0) ∧ j = 0 then a else if c = 2233 ∧ x = (K 2208 30 0) ∧ j = 0 then d else K c x j) := by
  unfold qf_X14_tell_J75
  have h : 0 ≤ (K 2208 30 0) ∧ (K 2208 30 0) < 60 := ⟨e0, e1⟩
  refine qW_pos h (qW_bnd ?_)
  refine qW_pos h (qW_bnd ?_)
  refine qW_pos h (qW_bnd ?_)
  refine qW_bnd (qW_some ⟨?_, fun c x j hc => ?_⟩)
  · show w32 ((K 2208 30 0) + 1) = _
    exact w32_id (by omega) (by omega)
  · (try dsimp only)
    show (qw _ 2208 30 0 _) c x j = _
    rw [qw_ap, if_neg (by omega)]
    show (qw (qw (qw K 2231 (K 2208 30 0) 0 (K 2208 1 0)) 2232 (K 2208 30 0) 0 a) 2233 (K 2208 30 0) 0 d) c x j = _
    simp only [qw_ap]
    by_cases b1 : c = 2231 ∧ x = (K 2208 30 0) ∧ j = 0
    · rw [if_neg (by omega), if_neg (by omega), if_pos b1, if_pos b1]
    · rw [if_neg b1, if_neg b1]
      by_cases b2 : c = 2232 ∧ x = (K 2208 30 0) ∧ j = 0
      · rw [if_neg (by omega), if_pos b2, if_pos b2]
      · rw [if_neg b2, if_neg b2]
theorem tell_r {K : qm} {a d : Int} (e0 : 0 ≤ (K 2208 30 0)) (e1 : (K 2208 30 0) ≤ 60) : qW (qf_X14_tell 20000 a d K) (fun r => teW K r.2 a d ∧ ∀ c x j, evA c = false → (c ≠ 2208 ∨ x ≠ 30) → r.2 c x j = K c x j) := by
  have nev : ∀ c, evA c = false → c ≠ 2231 ∧ c ≠ 2232 ∧ c ≠ 2233 := by
    intro c hc
    refine ⟨?_, ?_, ?_⟩ <;> (rintro rfl; cases hc)
  unfold qf_X14_tell
  by_cases e : (K 2208 30 0) = 60
  · rw [if_pos e]
    refine qW_call tellL_r ?_
    rintro (o | ⟨u, S⟩) hS
    · exact hS.elim
    · (try dsimp only at hS ⊢)
      have s1 : S 2208 30 0 = 60 := by rw [hS, if_neg (fun h => by cases h.1)]; exact e
      have s2 : S 2208 1 0 = (K 2208 1 0) := by rw [hS, if_neg (fun h => by cases h.1)]
      rw [s1, show w32 (60 - 1) = 59 by decide]
      refine qW_bnd ?_
      refine qW_mono (tellJ_r (K := qw S 2208 30 0 59) (show (0 : Int) ≤ 59 from by decide) (show (59 : Int) < 60 from by decide)) ?_
      rintro ⟨u2, T⟩ ⟨t1, t2⟩
      (try dsimp only at t1 t2 ⊢)
      have t1 : T 2208 30 0 = 60 := t1
      have e59 : (qw S 2208 30 0 59) 2208 30 0 = 59 := rfl
      rw [e59] at t2
      refine ⟨⟨?_, ?_, ?_, ?_, fun k k0 k1 => ?_⟩, fun c x j hc hx => ?_⟩
      · rw [t1, if_neg (by omega)]
      · rw [t1, t2 _ _ _ (by omega), if_pos ⟨rfl, rfl, rfl⟩]
        exact s2
      · rw [t1, t2 _ _ _ (by omega), if_neg (by omega), if_pos ⟨rfl, rfl, rfl⟩]
      · rw [t1, t2 _ _ _ (by omega), if_neg (by omega), if_neg (by omega), if_pos ⟨rfl, rfl, rfl⟩]
      · rw [t1] at k1 ⊢
        rw [e]
        refine ⟨?_, ?_, ?_⟩
        · rw [t2 _ _ _ (by omega), if_neg (by omega), if_neg (by omega), if_neg (by omega), qw_a (by decide), hS, if_pos ⟨rfl, rfl, by omega, by omega⟩, show 60 - 1 - k + 1 = 60 - k by omega]
        · rw [t2 _ _ _ (by omega), if_neg (by omega), if_neg (by omega), if_neg (by omega), qw_a (by decide), hS, if_pos ⟨rfl, rfl, by omega, by omega⟩, show 60 - 1 - k + 1 = 60 - k by omega]
        · rw [t2 _ _ _ (by omega), if_neg (by omega), if_neg (by omega), if_neg (by omega), qw_a (by decide), hS, if_pos ⟨rfl, rfl, by omega, by omega⟩, show 60 - 1 - k + 1 = 60 - k by omega]
      · obtain ⟨n1, n2, n3⟩ := nev c hc
        rw [t2 _ _ _ hx, if_neg (fun h => n1 h.1), if_neg (fun h => n2 h.1), if_neg (fun h => n3 h.1), qw_ap, if_neg (by omega), hS, if_neg (fun h => by rw [hc] at h; cases h.1)]
  · rw [if_neg e]
    refine qW_mono (tellJ_r e0 (by omega)) ?_
    rintro ⟨u2, T⟩ ⟨t1, t2⟩
    (try dsimp only at t1 t2 ⊢)
    have t1 : T 2208 30 0 = (K 2208 30 0) + 1 := t1
    have z : (K 2208 30 0) + 1 - 1 = (K 2208 30 0) := by omega
    refine ⟨⟨?_, ?_, ?_, ?_, fun k k0 k1 => ?_⟩, fun c x j hc hx => ?_⟩
    · rw [t1, if_pos (by omega)]
    · rw [t1, z, t2 _ _ _ (by omega), if_pos ⟨rfl, rfl, rfl⟩]
    · rw [t1, z, t2 _ _ _ (by omega), if_neg (by omega), if_pos ⟨rfl, rfl, rfl⟩]
    · rw [t1, z, t2 _ _ _ (by omega), if_neg (by omega), if_neg (by omega), if_pos ⟨rfl, rfl, rfl⟩]
    · rw [t1] at k1 ⊢
      rw [z]
      refine ⟨?_, ?_, ?_⟩ <;> rw [t2 _ _ _ (by omega), if_neg (by omega), if_neg (by omega), if_neg (by omega)]
    · obtain ⟨n1, n2, n3⟩ := nev c hc
      rw [t2 _ _ _ hx, if_neg (fun h => n1 h.1), if_neg (fun h => n2 h.1), if_neg (fun h => n3 h.1)]
