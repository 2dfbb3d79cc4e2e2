/-! ===== the bus: a telegram comes into a queue, both sides ===== -/
theorem enqueue_r {M : qm} {s p m n b g k : Int} (s0 : 0 ≤ s) (s1 : s < 8) (hk : (M 1140 s 0) = k) (k0 : 0 ≤ k) (k1 : k < 6) : qW (qf_X1_enqueue 20000 s p m g n b M) (fun r => r.1 = k + 1 ∧ (∀ i j, r.2 1140 i j = if i = s ∧ j = 0 then k + 1 else M 1140 i j) ∧ (∀ i j, (i ≠ s ∨ j < 7 * k ∨ 7 * k + 7 ≤ j) → r.2 1149 i j = M 1149 i j) ∧ (qC r.2 s k 0 = p ∧ qC r.2 s k 1 = (M 1140 s 6) ∧ qC r.2 s k 2 = m ∧ qC r.2 s k 3 = (if g = 0 then 0 else 1) ∧ qC r.2 s k 4 = n ∧ qC r.2 s k 5 = b ∧ qC r.2 s k 6 = 0) ∧ ∀ c i j, c ≠ 1140 → c ≠ 1149 → r.2 c i j = M c i j) := by
  have ea : w32 (k * 7) = 7 * k := by rw [w32_id (by omega) (by omega)]; omega
  generalize hz : 7 * k = a at ea ⊢
  have w : ∀ j : Int, 0 ≤ j → j ≤ 6 → w32 (a + j) = a + j := fun j _ _ => w32_id (by omega) (by omega)
  have i8 : 0 ≤ s ∧ s < 8 := ⟨s0, s1⟩
  unfold qf_X1_enqueue qf_X1_hasRoomInQueue
  rw [hk]
  simp only [ea, w 0 (by decide) (by decide), w 1 (by decide) (by decide), w 2 (by decide) (by decide), w 3 (by decide) (by decide)]
  rw [if_pos i8, if_pos i8, if_neg (by omega)]
  refine qW_bind (qW_some ?_)
  rw [if_neg (by decide), if_pos i8, if_pos (by omega)]
  refine qW_bnd ?_
  rw [if_pos (by omega)]
  refine qW_bnd ?_
  rw [if_pos (by omega)]
  refine qW_bnd ?_
  have fin : ∀ v : Int, v = (if g = 0 then 0 else 1) → qW (qf_X1_enqueue_J77 20000 n b s a s s (a + 3) v (qw (qw (qw M 1149 s (a + 0) p) 1149 s (a + 1) ((qw M 1149 s (a + 0) p) 1140 s 6)) 1149 s (a + 2) m)) (fun r => r.1 = k + 1 ∧ (∀ i j, r.2 1140 i j = if i = s ∧ j = 0 then k + 1 else M 1140 i j) ∧ (∀ i j, (i ≠ s ∨ j < a ∨ a + 7 ≤ j) → r.2 1149 i j = M 1149 i j) ∧ (qC r.2 s k 0 = p ∧ qC r.2 s k 1 = (M 1140 s 6) ∧ qC r.2 s k 2 = m ∧ qC r.2 s k 3 = (if g = 0 then 0 else 1) ∧ qC r.2 s k 4 = n ∧ qC r.2 s k 5 = b ∧ qC r.2 s k 6 = 0) ∧ ∀ c i j, c ≠ 1140 → c ≠ 1149 → r.2 c i j = M c i j) := by
    intro v hv
    unfold qf_X1_enqueue_J77 qf_X1_enqueue_J113
    rw [if_pos (by omega)]
    refine qW_bnd ?_
    rw [w 4 (by decide) (by decide), w 5 (by decide) (by decide), w 6 (by decide) (by decide), if_pos (by omega)]
    refine qW_bnd ?_
    rw [if_pos (by omega)]
    refine qW_bnd ?_
    rw [if_pos (by omega)]
    refine qW_bnd ?_
    refine qW_bnd (qW_some ?_)
    generalize hT : (qw (qw (qw (qw (qw (qw (qw M 1149 s (a + 0) p) 1149 s (a + 1) ((qw M 1149 s (a + 0) p) 1140 s 6)) 1149 s (a + 2) m) 1149 s (a + 3) v) 1149 s (a + 4) n) 1149 s (a + 5) b) 1149 s (a + 6) 0) = T
    have Tc : ∀ c x j, c ≠ 1149 → T c x j = M c x j := fun c x j hc => by rw [← hT, qw_a hc, qw_a hc, qw_a hc, qw_a hc, qw_a hc, qw_a hc, qw_a hc]
    have e1 : w32 (T 1140 s 0 + 1) = k + 1 := by
      rw [Tc _ _ _ (by decide), hk]
      exact w32_id (by omega) (by omega)
    rw [e1]
    refine ⟨qw_s, fun i j => ?_, fun i j hx => ?_, ?_, fun c i j c1 c2 => ?_⟩
    · (try dsimp only)
      rw [qw_ap]
      by_cases e : i = s ∧ j = 0
      · rw [if_pos e, if_pos ⟨rfl, e.1, e.2⟩]
      · rw [if_neg e, if_neg (fun x => e x.2), Tc _ _ _ (by decide)]
    · (try dsimp only)
      rw [qw_a (by decide), ← hT]
      simp only [qw_ap]
      rw [if_neg (by omega), if_neg (by omega), if_neg (by omega), if_neg (by omega), if_neg (by omega), if_neg (by omega), if_neg (by omega)]
    · have hq : ∀ j : Int, qC (qw T 1140 s 0 (k + 1)) s k j = T 1149 s (a + j) := fun j => by
        show (qw T 1140 s 0 (k + 1)) 1149 s (7 * k + j) = _
        rw [qw_a (by decide), hz]
      (try dsimp only)
      rw [hq, hq, hq, hq, hq, hq, hq, ← hT]
      refine ⟨?_, ?_, ?_, ?_, ?_, ?_, ?_⟩
      · rw [qw_j (by omega), qw_j (by omega), qw_j (by omega), qw_j (by omega), qw_j (by omega), qw_j (by omega), qw_s]
      · rw [qw_j (by omega), qw_j (by omega), qw_j (by omega), qw_j (by omega), qw_j (by omega), qw_s]
        rfl
      · rw [qw_j (by omega), qw_j (by omega), qw_j (by omega), qw_j (by omega), qw_s]
      · rw [qw_j (by omega), qw_j (by omega), qw_j (by omega), qw_s]
        exact hv
      · rw [qw_j (by omega), qw_j (by omega), qw_s]
      · rw [qw_j (by omega), qw_s]
      · rw [qw_s]
    · (try dsimp only)
      rw [qw_a c1, Tc _ _ _ c2]
  by_cases e : g = 0
  · rw [if_pos e]
    exact fin 0 (by rw [if_pos e])
  · rw [if_neg e]
    exact fin 1 (by rw [if_neg e])
/-- the queues, both sides -/
def R_bqueue (M K : qm) : Prop := ∀ s k, 0 ≤ s → s < 8 → 0 ≤ k → k < (M 1140 s 0) → qOK (qC M s k) ∧ (0 < k → qC M s k 6 = 0) ∧ tgIn K (qC M s k) (144 * s + 24 * k)
theorem tgIn_x {K K' : qm} {q q' : Int → Int} {a : Int} (h : tgIn K q a) (hK : ∀ i, a ≤ i → i < a + 24 → K' 2259 i 0 = K 2259 i 0) (hq : ∀ i, 0 ≤ i → i < 7 → q' i = q i) (ho : qOK q) : tgIn K' q' a := by
  obtain ⟨h1, h2, h3, h4⟩ := h
  have n1 := ho.2.2.2.2.2.2.2.1
  have n2 := ho.2.2.2.2.2.2.2.2.1
  have eB : ∀ j, tgB q' j = tgB q j := fun j => by
    unfold tgB
    rw [hq 0 (by decide) (by decide), hq 1 (by decide) (by decide), hq 2 (by decide) (by decide), hq 3 (by decide) (by decide), hq 4 (by decide) (by decide), hq 5 (by decide) (by decide), hq 6 (by decide) (by decide)]
  have eA : ∀ j, tgA q' j = tgA q j := fun j => by
    unfold tgA
    rw [hq 4 (by decide) (by decide), eB, funext eB]
  refine ⟨fun j j0 j1 => ?_, ?_, ?_, ?_⟩
  · rw [hq 4 (by decide) (by decide)] at j1
    rw [hK _ (by omega) (by omega), eA]
    exact h1 j j0 j1
  · rw [hK _ (by omega) (by omega), hq 4 (by decide) (by decide)]
    exact h2
  · rw [hK _ (by omega) (by omega), hq 0 (by decide) (by decide)]
    exact h3
  · rw [hK _ (by omega) (by omega), hq 6 (by decide) (by decide)]
    exact h4
theorem R_bqueue_x {M M' K K' : qm} (e1 : ∀ i j, M' 1140 i j = M 1140 i j) (e2 : ∀ i j, M' 1149 i j = M 1149 i j) (e3 : ∀ i j, K' 2259 i j = K 2259 i j) (h : R_bqueue M K) : R_bqueue M' K' := by
  intro s k s0 s1 k0 k1
  rw [e1] at k1
  obtain ⟨h1, h2, h3⟩ := h s k s0 s1 k0 k1
  have eq : qC M' s k = qC M s k := funext fun i => e2 s (7 * k + i)
  rw [eq]
  exact ⟨h1, h2, tgIn_x h3 (fun i _ _ => e3 i 0) (fun _ _ _ => rfl) h1⟩
