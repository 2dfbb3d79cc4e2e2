/-! ===== acts by rank ===== -/
theorem sm_perm : ∀ (n : Nat) (q f : Int → Int), (∀ k : Int, 0 ≤ k → k < n → 0 ≤ q k ∧ q k < n) → (∀ j k : Int, 0 ≤ j → j < k → k < n → q j ≠ q k) → sm (fun k => f (q k)) n = sm f n := by
  intro n
  induction n with
  | zero => intro q f _ _; rfl
  | succ n ih =>
    intro q f h1 h2
    obtain ⟨p, p0, p1, p2⟩ := pigeon (n + 1) q h1 h2 n (by omega) (by omega)
    show sm (fun k => f (q k)) n + f (q n) = sm f n + f n
    by_cases e : p = n
    · rw [e] at p2
      rw [p2]
      have := ih q f (fun k k0 k1 => by
        have a := h1 k k0 (by omega)
        have b := h2 k n k0 k1 (by omega)
        rw [p2] at b
        omega) (fun j k j0 jk k1 => h2 j k j0 jk (by omega))
      omega
    · have hq := ih (fun k => if k = p then q n else q k) f (fun k k0 k1 => by
        (try dsimp only)
        by_cases ek : k = p
        · rw [if_pos ek]
          have a := h1 n (by omega) (by omega)
          have b := h2 p n p0 (by omega) (by omega)
          rw [p2] at b
          omega
        · rw [if_neg ek]
          have a := h1 k k0 (by omega)
          have b : q k ≠ n := by
            rw [← p2]
            by_cases l : k < p
            · exact h2 k p k0 l (by omega)
            · exact (h2 p k p0 (by omega) (by omega)).symm
          omega) (fun j k j0 jk k1 => by
        (try dsimp only)
        by_cases ej : j = p
        · rw [if_pos ej, if_neg (by omega)]
          exact (h2 k n (by omega) k1 (by omega)).symm
        · rw [if_neg ej]
          by_cases ek : k = p
          · rw [if_pos ek]
            exact h2 j n j0 (by omega) (by omega)
          · rw [if_neg ek]
            exact h2 j k j0 jk (by omega))
      have hu := sm_u (f := fun k => f (q k)) (g := fun k => f (if k = p then q n else q k)) (c := p) n p0 (by omega) (fun k hk => by (try dsimp only); rw [if_neg hk])
      (try dsimp only at hu hq)
      rw [if_pos rfl, p2] at hu
      omega
theorem sI_perm {n : Int} {q f : Int → Int} (h1 : ∀ k, 0 ≤ k → k < n → 0 ≤ q k ∧ q k < n) (h2 : ∀ j k, 0 ≤ j → j < k → k < n → q j ≠ q k) : sI (fun k => f (q k)) n = sI f n := by
  unfold sI
  exact sm_perm n.toNat q f (fun k a b => by have := h1 k a (by omega); omega) (fun j k a b c => h2 j k a b (by omega))
theorem sI_cut {g h : Int → Int} {m : Int} : ∀ {n : Int}, 0 ≤ m → m ≤ n → (∀ k, 0 ≤ k → k < m → g k = h k) → (∀ k, m ≤ k → k < n → g k = 0) → sI g n = sI h m := by
  intro n m0 mn h1 h2
  have key : ∀ d : Nat, ∀ n : Int, n = m + d → (∀ k, m ≤ k → k < n → g k = 0) → sI g n = sI h m := by
    intro d
    induction d with
    | zero =>
      intro n hn _
      rw [show n = m by omega]
      exact sI_c h1
    | succ d ih =>
      intro n hn hz
      rw [show n = (m + d) + 1 by omega, sI_s (by omega), ih (m + d) rfl (fun k a b => hz k a (by omega)), hz (m + d) (by omega) (by omega)]
      omega
  exact key (n - m).toNat n (by omega) h2
/-- b comes before a -/
def snR (K : qm) (b a : Int) : Prop := (K 2221 a 0) < (K 2221 b 0) ∨ ((K 2221 b 0) = (K 2221 a 0) ∧ b < a)
noncomputable def cntR (K : qm) (a : Int) : Int := sI (fun b => b01 ((K 2219 b 0) ≠ 0 ∧ snR K b a)) 20
theorem rankL_e {K : qm} {p a : Int} (a0 : 0 ≤ a) (a1 : a < 20) : qf_X14_rankedOne_L13 20000 20000 p a 0 0 K = some (.inr (cntR K a)) := by
  refine qW_e ?_
  unfold qf_X14_rankedOne_L13 cntR
  refine qW_for 20 (fun i s => s = (p, a, sI (fun b => b01 ((K 2219 b 0) ≠ 0 ∧ snR K b a)) i, i)) ?_ ?_ rfl (by omega) (by omega)
  · rintro i _ i0 i1 rfl
    have hb := sI_b (g := fun b => b01 ((K 2219 b 0) ≠ 0 ∧ snR K b a)) i0 (fun _ _ _ => b01_b)
    have hs := sI_s (f := fun b => b01 ((K 2219 b 0) ≠ 0 ∧ snR K b a)) i0
    have e1 : w32 (i + 1) = i + 1 := w32_id (by omega) (by omega)
    (try dsimp only at hs ⊢)
    generalize sI (fun b => b01 ((K 2219 b 0) ≠ 0 ∧ snR K b a)) i = sv at hb hs ⊢
    unfold qf_X14_rankedOne_L13_b qf_X14_rankedOne_J58 qf_X14_rankedOne_J62 qf_X14_rankedOne_J63 qf_X14_rankedOne_J85 qf_X14_rankedOne_J86
    repeat' first
      | with_reducible refine qW_within (fun _ => ?_) (fun _ _ => ?_)
      | with_reducible refine qW_isIn (fun _ => ?_) (fun _ _ => ?_)
      | (exfalso; omega)
      | with_reducible refine qW_bind ?_
      | with_reducible refine qW_bnd ?_
      | with_reducible refine qW_some ?_
      | ((with_reducible refine qW_no ?_); omega)
      | with_reducible refine qW_pos rfl ?_
      | ((with_reducible refine qW_pos ?_ ?_); omega)
      | ((with_reducible refine qW_neg ?_ ?_); (first | omega | decide))
      | with_reducible refine qW_ite (fun _ => ?_) (fun _ => ?_)
      | dsimp only
    all_goals (rw [hs, e1]; first | (rw [b01_t (by unfold snR; omega)]) | (rw [b01_f (by unfold snR; omega)]))
    all_goals (rw [w32_id (by omega) (by omega)])
  · rintro _ rfl
    (try dsimp only)
    unfold qf_X14_rankedOne_L13_b
    rw [if_pos (by decide)]
    exact qW_some rfl
theorem rankedOne_r {K : qm} {p : Int} : qW (qf_X14_rankedOne 20000 p K) (fun r => (0 ≤ r ∧ r < 20 ∧ (K 2219 r 0) ≠ 0 ∧ cntR K r = p) ∨ (r = -1 ∧ ∀ a, 0 ≤ a → a < 20 → ¬ ((K 2219 a 0) ≠ 0 ∧ cntR K a = p))) := by
  unfold qf_X14_rankedOne qf_X14_rankedOne_L2
  refine qW_call (Q := fun o => match o with | .inl r => 0 ≤ r ∧ r < 20 ∧ (K 2219 r 0) ≠ 0 ∧ cntR K r = p | .inr _ => ∀ a, 0 ≤ a → a < 20 → ¬ ((K 2219 a 0) ≠ 0 ∧ cntR K a = p)) ?_ ?_
  · refine qW_for 20 (fun i s => s = (p, i) ∧ ∀ a, 0 ≤ a → a < i → ¬ ((K 2219 a 0) ≠ 0 ∧ cntR K a = p)) ?_ ?_ ⟨rfl, all_0⟩ (by omega) (by omega)
    · rintro i _ i0 i1 ⟨rfl, hi⟩
      have e1 : w32 (i + 1) = i + 1 := w32_id (by omega) (by omega)
      (try dsimp only)
      unfold qf_X14_rankedOne_L2_b
      rw [if_neg (by omega), rankL_e i0 i1]
      refine qW_bind (qW_some ?_)
      (try dsimp only)
      rw [if_pos (by omega), e1]
      by_cases c : (K 2219 i 0) = 0
      · rw [if_pos c]
        exact qW_some ⟨rfl, all_s hi (fun x => x.1 c)⟩
      · rw [if_neg c]
        by_cases c2 : cntR K i = p
        · rw [if_pos c2]
          exact qW_some ⟨i0, i1, c, c2⟩
        · rw [if_neg c2]
          exact qW_some ⟨rfl, all_s hi (fun x => c2 x.2)⟩
    · rintro _ ⟨rfl, hi⟩
      (try dsimp only)
      unfold qf_X14_rankedOne_L2_b
      rw [if_pos (by decide)]
      exact qW_some hi
  · rintro (o | o) h
    · exact qW_some (Or.inl h)
    · exact qW_some (Or.inr ⟨rfl, h⟩)
