/-! ===== the class fills a space ===== -/
section FI
variable {M K A B D : qm} {c d s f k n first : Int} {F : Int → Int}
def cb (c d : Int) : Int := if d = 0 then (if 23 ≤ c / 24 then -1 else c + 24) else if d = 1 then (if c / 24 ≤ 0 then -1 else c - 24) else if d = 2 then (if 23 ≤ c % 24 then -1 else c + 1) else (if c % 24 ≤ 0 then -1 else c - 1)
def wb (A : qm) (c d : Int) : Int := if d = 0 then A 52 1 (25 * (c / 24) + c % 24 + 25) else if d = 1 then A 52 1 (25 * (c / 24) + c % 24) else if d = 2 then A 52 0 (25 * (c / 24) + c % 24 + 1) else A 52 0 (25 * (c / 24) + c % 24)
def bck (d : Int) : Int := if d = 0 then 1 else if d = 1 then 0 else if d = 2 then 3 else 2
theorem wb_o (h : ∀ i j, B 52 i j = A 52 i j) : wb B c d = wb A c d := by
  unfold wb
  rw [h, h, h, h]
theorem cb_e (c0 : 0 ≤ c) (c1 : c < 576) (d0 : 0 ≤ d) (d1 : d ≤ 3) : qf_X2_cellBeside 20000 c d A = some (cb c d) := by
  unfold qf_X2_cellBeside cb
  rw [Int.tdiv_eq_ediv_of_nonneg c0, Int.tmod_eq_emod_of_nonneg c0, w32_id (x := c + 24) (by omega) (by omega), w32_id (x := c - 24) (by omega) (by omega), w32_id (x := c + 1) (by omega) (by omega), w32_id (x := c - 1) (by omega) (by omega)]
  split <;> (try split) <;> (try split) <;> (try split) <;> rfl
theorem wb_e (c0 : 0 ≤ c) (c1 : c < 576) (d0 : 0 ≤ d) (d1 : d ≤ 3) : qf_X2_wallBeside 20000 c d A = some (wb A c d) := by
  unfold qf_X2_wallBeside qf_X2_placeBeside wb
  rw [Int.tdiv_eq_ediv_of_nonneg c0, Int.tmod_eq_emod_of_nonneg c0, w32_id (x := c / 24 * 25) (by omega) (by omega), w32_id (x := c / 24 * 25 + c % 24) (by omega) (by omega), w32_id (x := c / 24 * 25 + c % 24 + 25) (by omega) (by omega), w32_id (x := c / 24 * 25 + c % 24 + 1) (by omega) (by omega), show c / 24 * 25 = 25 * (c / 24) by omega]
  have e : d = 0 ∨ d = 1 ∨ d = 2 ∨ d = 3 := by omega
  refine qW_e ?_
  rcases e with rfl | rfl | rfl | rfl
  · rw [if_pos rfl, if_pos rfl]
    refine qW_bind (qW_some ?_)
    rw [if_neg (by decide), if_pos (by omega)]
    exact qW_some rfl
  · rw [if_neg (by decide), if_neg (by decide), if_neg (by decide), if_pos rfl]
    refine qW_bind (qW_some ?_)
    rw [if_neg (by decide), if_pos (by omega)]
    exact qW_some rfl
  · rw [if_neg (by decide), if_pos rfl, if_neg (by decide), if_neg (by decide), if_pos rfl]
    refine qW_bind (qW_some ?_)
    rw [if_pos (by decide), if_pos (by omega)]
    exact qW_some rfl
  · rw [if_neg (by decide), if_neg (by decide), if_neg (by decide), if_neg (by decide), if_neg (by decide)]
    refine qW_bind (qW_some ?_)
    rw [if_pos (by decide), if_pos (by omega)]
    exact qW_some rfl
theorem cb_r (c0 : 0 ≤ c) (c1 : c < 576) (h : cb c d ≠ -1) : 0 ≤ cb c d ∧ cb c d < 576 := by
  unfold cb at *
  split at h <;> (try split at h) <;> (try split at h) <;> (try split at h) <;> (try omega)
/-- the way back -/
theorem cb_back (c0 : 0 ≤ c) (c1 : c < 576) (d0 : 0 ≤ d) (d1 : d ≤ 3) (h : cb c d ≠ -1) : cb (cb c d) (bck d) = c ∧ wb A (cb c d) (bck d) = wb A c d ∧ 0 ≤ bck d ∧ bck d ≤ 3 := by
  have e : d = 0 ∨ d = 1 ∨ d = 2 ∨ d = 3 := by omega
  rcases e with rfl | rfl | rfl | rfl
  · have g : ¬ 23 ≤ c / 24 := fun z => h (by unfold cb; rw [if_pos rfl, if_pos z])
    have e1 : cb c 0 = c + 24 := by unfold cb; rw [if_pos rfl, if_neg g]
    rw [e1]
    refine ⟨?_, ?_, by decide, by decide⟩
    · show cb (c + 24) 1 = c
      unfold cb
      rw [if_neg (by decide), if_pos rfl, if_neg (by omega)]
      omega
    · show wb A (c + 24) 1 = wb A c 0
      unfold wb
      rw [if_neg (by decide), if_pos rfl, if_pos rfl, show 25 * ((c + 24) / 24) + (c + 24) % 24 = 25 * (c / 24) + c % 24 + 25 by omega]
  · have g : ¬ c / 24 ≤ 0 := fun z => h (by unfold cb; rw [if_neg (by decide), if_pos rfl, if_pos z])
    have e1 : cb c 1 = c - 24 := by unfold cb; rw [if_neg (by decide), if_pos rfl, if_neg g]
    rw [e1]
    refine ⟨?_, ?_, by decide, by decide⟩
    · show cb (c - 24) 0 = c
      unfold cb
      rw [if_pos rfl, if_neg (by omega)]
      omega
    · show wb A (c - 24) 0 = wb A c 1
      unfold wb
      rw [if_pos rfl, if_neg (by decide), if_pos rfl, show 25 * ((c - 24) / 24) + (c - 24) % 24 + 25 = 25 * (c / 24) + c % 24 by omega]
  · have g : ¬ 23 ≤ c % 24 := fun z => h (by unfold cb; rw [if_neg (by decide), if_neg (by decide), if_pos rfl, if_pos z])
    have e1 : cb c 2 = c + 1 := by unfold cb; rw [if_neg (by decide), if_neg (by decide), if_pos rfl, if_neg g]
    rw [e1]
    refine ⟨?_, ?_, by decide, by decide⟩
    · show cb (c + 1) 3 = c
      unfold cb
      rw [if_neg (by decide), if_neg (by decide), if_neg (by decide), if_neg (by omega)]
      omega
    · show wb A (c + 1) 3 = wb A c 2
      unfold wb
      rw [if_neg (by decide), if_neg (by decide), if_neg (by decide), if_neg (by decide), if_neg (by decide), if_pos rfl, show 25 * ((c + 1) / 24) + (c + 1) % 24 = 25 * (c / 24) + c % 24 + 1 by omega]
  · have g : ¬ c % 24 ≤ 0 := fun z => h (by unfold cb; rw [if_neg (by decide), if_neg (by decide), if_neg (by decide), if_pos z])
    have e1 : cb c 3 = c - 1 := by unfold cb; rw [if_neg (by decide), if_neg (by decide), if_neg (by decide), if_neg g]
    rw [e1]
    refine ⟨?_, ?_, by decide, by decide⟩
    · show cb (c - 1) 2 = c
      unfold cb
      rw [if_neg (by decide), if_neg (by decide), if_pos rfl, if_neg (by omega)]
      omega
    · show wb A (c - 1) 2 = wb A c 3
      unfold wb
      rw [if_neg (by decide), if_neg (by decide), if_pos rfl, if_neg (by decide), if_neg (by decide), if_neg (by decide), show 25 * ((c - 1) / 24) + (c - 1) % 24 + 1 = 25 * (c / 24) + c % 24 by omega]
/-- what is the same in cells without a wall between them, and f outside -/
def CMP (A : qm) (F : Int → Int) (f : Int) : Prop := ∀ c d, 0 ≤ c → c < 576 → 0 ≤ d → d ≤ 3 → wb A c d = -1 → (cb c d = -1 → F c = f) ∧ (cb c d ≠ -1 → F (cb c d) = F c)
/-- cells that have a number have the same one as those beside them without a wall -/
def CLO (A : qm) (F : Int → Int) : Prop := ∀ c d, 0 ≤ c → c < 576 → 0 ≤ d → d ≤ 3 → wb A c d = -1 → cb c d ≠ -1 → F c ≠ -3 → F (cb c d) = F c
/-- in the middle of a filling: n are filled, the first k have been gone through -/
def FLI (A D0 D : qm) (first s n : Int) : Prop := (∀ b i j, b ≠ 56 → b ≠ 725 → D b i j = D0 b i j) ∧ (∀ c, 0 ≤ c → c < 576 → (D0 56 c 0) ≠ -3 → (D 56 c 0) = (D0 56 c 0)) ∧ (∀ c, 0 ≤ c → c < 576 → (D0 56 c 0) = -3 → (D 56 c 0) = -3 ∨ ((D 56 c 0) = s ∧ ∃ j, 0 ≤ j ∧ j < n ∧ (D 725 j 0) = c)) ∧ (∀ j, 0 ≤ j → j < n → 0 ≤ (D 725 j 0) ∧ (D 725 j 0) < 576 ∧ (D0 56 (D 725 j 0) 0) = -3 ∧ (D 56 (D 725 j 0) 0) = s) ∧ (∀ i j, 0 ≤ i → i < j → j < n → (D 725 i 0) ≠ (D 725 j 0)) ∧ (∀ F f, CMP A F f → ∀ j, 0 ≤ j → j < n → F (D 725 j 0) = F first) ∧ 1 ≤ n ∧ (D 725 0 0) = first
def DON (A D : qm) (k e : Int) : Prop := ∀ d, 0 ≤ d → d < e → wb A (D 725 k 0) d = -1 → cb (D 725 k 0) d ≠ -1 → (D 56 (cb (D 725 k 0) d) 0) ≠ -3
theorem FLI_n {D0 : qm} (h : FLI A D0 D first s n) : n ≤ sI (fun c => b01 ((D0 56 c 0) = -3)) 576 ∧ n ≤ 576 := by
  obtain ⟨h1, h2, h3, h4, h5, h6, h7, h8⟩ := h
  have q := inj_le (N := 576) n.toNat (fun c => (D0 56 c 0) = -3) (fun j => (D 725 j 0)) (fun i a b => ⟨(h4 i a (by omega)).1, (h4 i a (by omega)).2.1, (h4 i a (by omega)).2.2.1⟩) (fun i j a b e => h5 i j a b (by omega))
  have q2 : sI (fun c => b01 ((D0 56 c 0) = -3)) 576 ≤ 576 := sI_l (by decide) (fun _ _ _ => b01_b.2)
  omega
theorem FLI_room {D0 : qm} (h : FLI A D0 D first s n) (c0 : 0 ≤ c) (c1 : c < 576) (hc : (D 56 c 0) = -3) (hs : s ≠ -3) : n < 576 := by
  obtain ⟨h1, h2, h3, h4, h5, h6, h7, h8⟩ := h
  have q := inj_le (N := 576) n.toNat (fun v => v ≠ c) (fun j => (D 725 j 0)) (fun i a b => ⟨(h4 i a (by omega)).1, (h4 i a (by omega)).2.1, fun z => by
    have := (h4 i a (by omega)).2.2.2
    rw [z, hc] at this
    exact hs this.symm⟩) (fun i j a b e => h5 i j a b (by omega))
  have q2 := sI_u (f := fun v => b01 (v ≠ c)) (g := fun _ => 1) (c := c) (n := 576) c0 c1 (fun v e => (b01_t e).symm)
  rw [b01_f (fun z => z rfl), sI_const] at q2
  omega
/-- one more is filled -/
theorem FLI_s {D0 : qm} (hs : s ≠ -3) (h : FLI A D0 D first s n) (c0 : 0 ≤ c) (c1 : c < 576) (hc : (D 56 c 0) = -3) (hF : ∀ F f, CMP A F f → F c = F first) : FLI A D0 (qw (qw D 56 c 0 s) 725 n 0 c) first s (n + 1) := by
  obtain ⟨h1, h2, h3, h4, h5, h6, h7, h8⟩ := h
  have hc0 : (D0 56 c 0) = -3 := by
    apply Classical.byContradiction
    intro z
    rw [h2 c c0 c1 z] at hc
    exact z hc
  have eo : ∀ v, qw (qw D 56 c 0 s) 725 n 0 c 56 v 0 = if v = c then s else (D 56 v 0) := by
    intro v
    simp only [qw_ap, false_and, true_and, and_true, and_false, and_self, if_false, if_true, reduceIte, Nat.reduceEqDiff, Int.reduceEq]
  have ew : ∀ v, qw (qw D 56 c 0 s) 725 n 0 c 725 v 0 = if v = n then c else (D 725 v 0) := by
    intro v
    simp only [qw_ap, false_and, true_and, and_true, and_false, and_self, if_false, if_true, reduceIte, Nat.reduceEqDiff, Int.reduceEq]
  refine ⟨fun b i j b1 b2 => ?_, fun v v0 v1 z => ?_, fun v v0 v1 z => ?_, fun j a b => ?_, fun i j a b e => ?_, fun F f hf j a b => ?_, by omega, ?_⟩
  · rw [qw_a b2, qw_a b1]
    exact h1 b i j b1 b2
  · rw [eo, if_neg (fun g => z (by rw [g]; exact hc0))]
    exact h2 v v0 v1 z
  · rw [eo]
    by_cases g : v = c
    · rw [if_pos g]
      exact Or.inr ⟨rfl, n, by omega, by omega, by rw [ew, if_pos rfl, g]⟩
    · rw [if_neg g]
      rcases h3 v v0 v1 z with q | ⟨q, j, j0, j1, j2⟩
      · exact Or.inl q
      · exact Or.inr ⟨q, j, j0, by omega, by rw [ew, if_neg (by omega)]; exact j2⟩
  · rw [ew]
    by_cases g : j = n
    · rw [if_pos g]
      exact ⟨c0, c1, hc0, by rw [eo, if_pos rfl]⟩
    · rw [if_neg g]
      have q := h4 j a (by omega)
      refine ⟨q.1, q.2.1, q.2.2.1, ?_⟩
      rw [eo]
      split
      · rfl
      · exact q.2.2.2
  · rw [ew, ew, if_neg (show i ≠ n by omega)]
    by_cases g : j = n
    · rw [if_pos g]
      intro z
      have q := (h4 i a (by omega)).2.2.2
      rw [z, hc] at q
      exact hs q.symm
    · rw [if_neg g]
      exact h5 i j a b (by omega)
  · rw [ew]
    by_cases g : j = n
    · rw [if_pos g]
      exact hF F f hf
    · rw [if_neg g]
      exact h6 F f hf j a (by omega)
  · rw [ew, if_neg (by omega)]
    exact h8
end FI
