/-! ===== a telling more, both sides ===== -/
def TW (M K S T : qm) (kd w m : Int) : Prop := (S 824 12 0) = (M 824 12 0) + 1 ∧ (T 2156 45 0) = (M 824 12 0) + 1 ∧ (∀ t, (T 2319 t 0) = if t = (M 824 12 0) then kd else (K 2319 t 0)) ∧ (∀ t, (T 2320 t 0) = if t = (M 824 12 0) then w else (K 2320 t 0)) ∧ (∀ t, (T 2321 t 0) = if t = (M 824 12 0) then m else (K 2321 t 0))
section TWS
variable {M K S T : qm} {kd w m : Int}
theorem tel1_r (t0 : 0 ≤ (K 2156 45 0)) (t1 : (K 2156 45 0) < 4100) : qf_X18_tell 20000 kd w m K = some ((), qw (qw (qw (qw K 2319 (K 2156 45 0) 0 kd) 2320 (K 2156 45 0) 0 w) 2321 (K 2156 45 0) 0 m) 2156 45 0 ((K 2156 45 0) + 1)) := by
  have h : 0 ≤ (K 2156 45 0) ∧ (K 2156 45 0) < 4100 := ⟨t0, t1⟩
  unfold qf_X18_tell
  unfold qf_X18_tell_J45
  rw [if_neg (by omega), if_pos h]
  show (if 0 ≤ (K 2156 45 0) ∧ (K 2156 45 0) < 4100 then _ else _) = _
  rw [if_pos h]
  show (if 0 ≤ (K 2156 45 0) ∧ (K 2156 45 0) < 4100 then _ else _) = _
  rw [if_pos h]
  show some ((), qw (qw (qw (qw K 2319 (K 2156 45 0) 0 kd) 2320 (K 2156 45 0) 0 w) 2321 (K 2156 45 0) 0 m) 2156 45 0 (w32 ((K 2156 45 0) + 1))) = _
  rw [w32_id (by omega) (by omega)]
theorem tw_k (h : TW M K S T kd w m) {t : Int} (ht : t < (M 824 12 0)) : (T 2319 t 0) = (K 2319 t 0) ∧ (T 2320 t 0) = (K 2320 t 0) ∧ (T 2321 t 0) = (K 2321 t 0) := by
  rw [h.2.2.1, h.2.2.2.1, h.2.2.2.2, if_neg (by omega), if_neg (by omega), if_neg (by omega)]
  exact ⟨rfl, rfl, rfl⟩
theorem tw_n (h : TW M K S T kd w m) : (T 2319 (M 824 12 0) 0) = kd ∧ (T 2320 (M 824 12 0) 0) = w ∧ (T 2321 (M 824 12 0) 0) = m := by
  rw [h.2.2.1, h.2.2.2.1, h.2.2.2.2, if_pos rfl, if_pos rfl, if_pos rfl]
  exact ⟨rfl, rfl, rfl⟩
theorem tw_tellt (h : TW M K S T kd w m) (hr : R_tellt M K) (k0 : 0 ≤ kd) (k1 : kd ≤ 3) (w0 : 0 ≤ w) (m0 : 0 ≤ m) (h0 : kd = 0 → w < (S 824 8 0) ∧ (S 828 w 2) = (M 824 12 0)) (h1 : kd = 1 → w < (S 824 10 0) ∧ (S 889 w 5) = (M 824 12 0)) (hc : (M 824 8 0) ≤ (S 824 8 0)) (hct : ∀ c, c < (M 824 8 0) → (S 828 c 2) = (M 828 c 2)) (hg : (M 824 10 0) ≤ (S 824 10 0)) (hgt : ∀ c, c < (M 824 10 0) → (S 889 c 5) = (M 889 c 5)) : R_tellt S T := by
  intro t t0 t1
  rw [h.1] at t1
  by_cases e : t = (M 824 12 0)
  · rw [e, (tw_n h).1, (tw_n h).2.1, (tw_n h).2.2]
    exact ⟨k0, k1, w0, m0, h0, h1⟩
  · have q := hr t t0 (by omega)
    have z := tw_k h (t := t) (by omega)
    rw [z.1, z.2.1, z.2.2]
    refine ⟨q.1, q.2.1, q.2.2.1, q.2.2.2.1, fun x => ?_, fun x => ?_⟩
    · have y := q.2.2.2.2.1 x
      rw [hct _ y.1]
      exact ⟨by omega, y.2⟩
    · have y := q.2.2.2.2.2 x
      rw [hgt _ y.1]
      exact ⟨by omega, y.2⟩
theorem tw_tellc (h : TW M K S T kd w m) (hr : R_tellc M K) (n0 : 0 ≤ (M 824 12 0)) (hc : ∀ c, 0 ≤ c → c < (S 824 8 0) → (c < (M 824 8 0) ∧ (S 828 c 2) = (M 828 c 2)) ∨ (kd = 0 ∧ w = c ∧ (S 828 c 2) = (M 824 12 0))) : R_tellc S T := by
  intro c c0 c1
  rw [h.1]
  rcases hc c c0 c1 with ⟨h1, h2⟩ | ⟨h1, h2, h3⟩
  · have q := hr c c0 h1
    rw [h2, (tw_k h q.2.1).1, (tw_k h q.2.1).2.1]
    exact ⟨q.1, by omega, q.2.2⟩
  · rw [h3, (tw_n h).1, (tw_n h).2.1]
    exact ⟨n0, by omega, h1, h2⟩
theorem tw_tellr (h : TW M K S T kd w m) (hr : R_tellr M K) (n0 : 0 ≤ (M 824 12 0)) (hc : ∀ c, 0 ≤ c → c < (S 824 10 0) → (c < (M 824 10 0) ∧ (S 889 c 5) = (M 889 c 5)) ∨ (kd = 1 ∧ w = c ∧ (S 889 c 5) = (M 824 12 0))) : R_tellr S T := by
  intro c c0 c1
  rw [h.1]
  rcases hc c c0 c1 with ⟨h1, h2⟩ | ⟨h1, h2, h3⟩
  · have q := hr c c0 h1
    rw [h2, (tw_k h q.2.1).1, (tw_k h q.2.1).2.1]
    exact ⟨q.1, by omega, q.2.2⟩
  · rw [h3, (tw_n h).1, (tw_n h).2.1]
    exact ⟨n0, by omega, h1, h2⟩
theorem tw_notek (h : TW M K S T kd w m) (hr : R_notek M K) (n0 : 0 ≤ (M 824 12 0)) (w0 : 0 ≤ w) (hc : ∀ k, 0 ≤ k → k < (S 824 13 0) → (k < (M 824 13 0) ∧ (S 906 (3 * k) 0) = (M 906 (3 * k) 0) ∧ (S 906 (3 * k + 1) 0) = (M 906 (3 * k + 1) 0) ∧ (S 906 (3 * k + 2) 0) = (M 906 (3 * k + 2) 0)) ∨ (((kd = 2 ∧ w = (S 906 (3 * k) 0) ∧ w < 100) ∨ (kd = 3 ∧ w + 100 = (S 906 (3 * k) 0))) ∧ m = (S 906 (3 * k + 1) 0) ∧ (S 906 (3 * k + 2) 0) = (M 824 12 0))) : R_notek S T := by
  intro k k0 k1
  rw [h.1]
  rcases hc k k0 k1 with ⟨h1, h2, h3, h4⟩ | ⟨h1, h2, h3⟩
  · have q := hr k k0 h1
    rw [h2, h3, h4, (tw_k h q.2.1).1, (tw_k h q.2.1).2.1, (tw_k h q.2.1).2.2]
    exact ⟨q.1, by omega, q.2.2⟩
  · rw [h3, (tw_n h).1, (tw_n h).2.1, (tw_n h).2.2]
    refine ⟨n0, by omega, ?_, h2, w0⟩
    rcases h1 with h1 | h1
    · exact Or.inl ⟨h1.1, h1.2.1, by omega⟩
    · exact Or.inr h1
theorem tw_notex (h : TW M K S T kd w m) (hr : R_notex M K) (hs : (M 824 13 0) ≤ (S 824 13 0)) (hc : ∀ k, 0 ≤ k → k < (M 824 13 0) → (S 906 (3 * k + 2) 0) = (M 906 (3 * k + 2) 0)) (hn : 2 ≤ kd → ∃ k, 0 ≤ k ∧ k < (S 824 13 0) ∧ (S 906 (3 * k + 2) 0) = (M 824 12 0)) : R_notex S T := by
  intro t t0 t1 t2
  rw [h.1] at t1
  by_cases e : t = (M 824 12 0)
  · rw [e, (tw_n h).1] at t2
    rw [e]
    exact hn t2
  · rw [(tw_k h (t := t) (by omega)).1] at t2
    obtain ⟨k, k0, k1, k2⟩ := hr t t0 (by omega) t2
    exact ⟨k, k0, by omega, by rw [hc k k0 k1]; exact k2⟩
end TWS
