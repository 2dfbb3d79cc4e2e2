/-! ===== counts of persons and smoke ===== -/
def psC (M : qm) : Prop := 0 ≤ (M 756 7 0) ∧ (M 756 7 0) ≤ 40 ∧ ∀ p, 0 ≤ p → p < (M 756 7 0) → ((M 761 p 1) = -1 ∨ (0 ≤ (M 761 p 1) ∧ (M 761 p 1) < 24 ∧ 0 ≤ (M 761 p 2) ∧ (M 761 p 2) < 24))
def celP (M : qm) (p : Int) : Int := if (M 761 p 1) = -1 then -1 else 24 * (M 761 p 1) + (M 761 p 2)
theorem cellOf_r {M : qm} (h : psC M) {p : Int} (p0 : 0 ≤ p) (p1 : p < (M 756 7 0)) : qf_X10_cellOf 20000 p M = some (celP M p) := by
  obtain ⟨n0, n1, q⟩ := h
  have q := q p p0 p1
  unfold qf_X10_cellOf qf_X2_cellNumber celP
  rw [if_pos ⟨p0, by omega⟩]
  by_cases e : (M 761 p 1) = -1
  · rw [if_pos e, if_pos e]
  · rw [if_neg e, if_neg e]
    show some (w32 (w32 ((M 761 p 1) * 24) + (M 761 p 2))) = _
    rw [w32_id (x := (M 761 p 1) * 24) (by omega) (by omega), w32_id (by omega) (by omega)]
    congr 1
    omega
theorem isCaught_r {M : qm} {p : Int} (p0 : 0 ≤ p) (p1 : p < 40) : qf_X10_isCaught 20000 p M = some (if (M 761 p 3) = -1 then 0 else 1) := by
  unfold qf_X10_isCaught
  rw [if_pos ⟨p0, p1⟩]
  by_cases e : (M 761 p 3) = -1
  · rw [if_pos e, if_pos e]
  · rw [if_neg e, if_neg e]
theorem celP_no {M : qm} (h : psC M) {p : Int} (p0 : 0 ≤ p) (p1 : p < (M 756 7 0)) : celP M p = -1 ↔ (M 761 p 1) = -1 := by
  have q := h.2.2 p p0 p1
  unfold celP
  constructor
  · intro x
    apply Classical.byContradiction
    intro y
    rw [if_neg y] at x
    omega
  · intro x
    rw [if_pos x]
def frC (M : qm) (p : Int) : Prop := (M 761 p 1) ≠ -1 ∧ (M 761 p 3) = -1
theorem isFreeInside_r {M : qm} (h : psC M) {p : Int} (p0 : 0 ≤ p) (p1 : p < (M 756 7 0)) : qf_X10_isFreeInside 20000 p M = some (if (M 761 p 1) ≠ -1 ∧ (M 761 p 3) = -1 then 1 else 0) := by
  have n1 := h.2.1
  unfold qf_X10_isFreeInside
  rw [cellOf_r h p0 p1, isCaught_r p0 (by omega)]
  show (if celP M p = (-1) then some 0 else _) = _
  have q := celP_no h p0 p1
  by_cases e : celP M p = -1
  · rw [if_pos e, if_neg (fun x => x.1 (q.1 e))]
  · rw [if_neg e]
    show (if (if (M 761 p 3) = -1 then (0 : Int) else 1) = 0 then some 1 else some 0) = _
    by_cases e2 : (M 761 p 3) = -1
    · rw [if_pos e2, if_pos rfl, if_pos ⟨fun x => e (q.2 x), e2⟩]
    · rw [if_neg e2, if_neg (by decide), if_neg (fun x => e2 x.2)]
theorem countFreeInside_r {M : qm} (h : psC M) : qW (qf_X10_countFreeInside 20000 M) (fun r => r = sI (fun p => if (M 761 p 1) ≠ -1 ∧ (M 761 p 3) = -1 then 1 else 0) (M 756 7 0)) := by
  have n0 := h.1
  have n1 := h.2.1
  unfold qf_X10_countFreeInside qf_X10_countFreeInside_L4
  refine qW_call (Q := fun o => o = .inr (sI (fun p => if (M 761 p 1) ≠ -1 ∧ (M 761 p 3) = -1 then 1 else 0) (M 756 7 0))) ?_ ?_
  · refine qW_for (M 756 7 0) (fun i s => s = (sI (fun p => if (M 761 p 1) ≠ -1 ∧ (M 761 p 3) = -1 then 1 else 0) i, i)) ?_ ?_ rfl (by omega) (by omega)
    · rintro i _ i0 i1 rfl
      have hb := sI_b (g := fun p => if (M 761 p 1) ≠ -1 ∧ (M 761 p 3) = -1 then 1 else 0) i0 (fun _ _ _ => ite01)
      (try dsimp only)
      unfold qf_X10_countFreeInside_L4_b qf_X10_countFreeInside_J26
      rw [if_neg (by omega), isFreeInside_r h i0 i1]
      have hs := sI_s (f := fun p => if (M 761 p 1) ≠ -1 ∧ (M 761 p 3) = -1 then 1 else 0) i0
      (try dsimp only at hs)
      show qW (if (if (M 761 i 1) ≠ -1 ∧ (M 761 i 3) = -1 then (1 : Int) else 0) = 0 then _ else _) _
      by_cases e : (M 761 i 1) ≠ -1 ∧ (M 761 i 3) = -1
      · rw [if_pos e] at hs ⊢
        rw [if_neg (by decide)]
        refine qW_some ?_
        rw [hs, w32_id (by omega) (by omega), w32_id (by omega) (by omega)]
      · rw [if_neg e] at hs ⊢
        rw [if_pos rfl]
        refine qW_some ?_
        rw [hs, w32_id (by omega) (by omega), w32_id (by omega) (by omega)]
    · rintro _ rfl
      (try dsimp only)
      unfold qf_X10_countFreeInside_L4_b
      rw [if_pos (Int.le_refl _)]
      exact qW_some rfl
  · rintro _ rfl
    exact qW_some rfl
theorem countInCell_r {M : qm} (h : psC M) {c : Int} : qW (qf_X10_countInCell 20000 c M) (fun r => r = sI (fun p => if celP M p = c ∧ (M 761 p 3) = -1 then 1 else 0) (M 756 7 0)) := by
  have n0 := h.1
  have n1 := h.2.1
  have f1 : ∀ i, 0 ≤ i → i < (M 756 7 0) → qW ((qf_X10_cellOf 20000 i M)) (fun r => r = celP M i) := fun i a b => ⟨_, cellOf_r h a b, rfl⟩
  have f2 : ∀ i, 0 ≤ i → i < (M 756 7 0) → qW ((qf_X10_isCaught 20000 i M)) (fun r => r = if (M 761 i 3) = -1 then 0 else 1) := fun i a b => ⟨_, isCaught_r a (by omega), rfl⟩
  unfold qf_X10_countInCell qf_X10_countInCell_L4
  refine qW_call (Q := fun o => o = .inr (sI (fun p => if celP M p = c ∧ (M 761 p 3) = -1 then 1 else 0) (M 756 7 0))) ?_ ?_
  · refine qW_for (M 756 7 0) (fun i s => s = (c, sI (fun p => if celP M p = c ∧ (M 761 p 3) = -1 then 1 else 0) i, i)) ?_ ?_ rfl (by omega) (by omega)
    · rintro i _ i0 i1 rfl
      have hb := sI_b (g := fun p => if celP M p = c ∧ (M 761 p 3) = -1 then 1 else 0) i0 (fun _ _ _ => ite01)
      have hs := sI_s (f := fun p => if celP M p = c ∧ (M 761 p 3) = -1 then 1 else 0) i0
      (try dsimp only at hs ⊢)
      unfold qf_X10_countInCell_L4_b qf_X10_countInCell_J34 qf_X10_countInCell_J35
      rw [if_neg (by omega)]
      refine qW_call (f1 i i0 i1) ?_
      rintro _ rfl
      by_cases e : celP M i = c
      · rw [if_pos e]
        refine qW_call (f2 i i0 i1) ?_
        rintro _ rfl
        by_cases e2 : (M 761 i 3) = -1
        · rw [if_pos ⟨e, e2⟩] at hs
          rw [if_pos e2, if_pos rfl]
          refine qW_some ?_
          rw [hs, w32_id (by omega) (by omega), w32_id (by omega) (by omega)]
        · rw [if_neg (fun x => e2 x.2)] at hs
          rw [if_neg e2, if_neg (by decide)]
          refine qW_some ?_
          rw [hs, w32_id (by omega) (by omega), w32_id (by omega) (by omega)]
      · rw [if_neg (fun x => e x.1)] at hs
        rw [if_neg e]
        refine qW_some ?_
        rw [hs, w32_id (by omega) (by omega), w32_id (by omega) (by omega)]
    · rintro _ rfl
      (try dsimp only)
      unfold qf_X10_countInCell_L4_b
      rw [if_pos (Int.le_refl _)]
      exact qW_some rfl
  · rintro _ rfl
    exact qW_some rfl
theorem psC_of {M K : qm} (h_personn : R_personn M K) (h_persons : R_persons M K) (h_personb : R_personb M K) : psC M := by
  have s := h_personn
  unfold R_personn at s
  refine ⟨s.1, s.2.1, fun p a b => ?_⟩
  have q := h_persons p a b
  have q2 := h_personb p a b
  by_cases e : (K 2306 p 0) = (K 2156 9 0)
  · rw [if_pos e] at q2
    omega
  · rw [if_neg e] at q2
    omega
theorem free_eq {M K : qm} (h_personn : R_personn M K) (h_persons : R_persons M K) (h_personb : R_personb M K) : sI (fun p => if (K 2306 p 0) < (K 2156 9 0) ∧ (K 2309 p 0) < 0 then 1 else 0) (K 2156 27 0) = sI (fun p => if (M 761 p 1) ≠ -1 ∧ (M 761 p 3) = -1 then 1 else 0) (M 756 7 0) := by
  have s := h_personn
  unfold R_personn at s
  rw [s.2.2]
  refine sI_c (fun p a b => ?_)
  have q := h_persons p a b
  have q2 := h_personb p a b
  by_cases e : (K 2306 p 0) = (K 2156 9 0)
  · rw [if_pos e] at q2
    (try dsimp only)
    rw [if_neg (by omega), if_neg (by omega)]
  · rw [if_neg e] at q2
    (try dsimp only)
    by_cases e2 : (K 2309 p 0) < 0
    · rw [if_pos (by omega), if_pos (by omega)]
    · rw [if_neg (by omega), if_neg (by omega)]
theorem done_eq {M K : qm} (h_macts : R_macts M K) (h_mstate : R_mstate M K) : sI (fun a => if (K 2219 a 0) ≠ 0 ∧ (K 2227 a 0) = 2 ∧ ((-1 : Int) < 0 ∨ (K 2220 a 0) = -1) then 1 else 0) 20 = sI (fun a => if (M 1270 a 0) = 2 then 1 else 0) 20 := by
  refine sI_c (fun a a0 a1 => ?_)
  have q := h_macts a a0 a1
  have q2 := h_mstate a a0 a1
  (try dsimp only)
  by_cases e : (M 1270 a 0) = 2
  · rw [if_pos (by omega), if_pos e]
  · rw [if_neg (by omega), if_neg e]
/-- an act of a kind is done: both sides -/
def kdC (M : qm) (k : Int) : Prop := ∃ a, 0 ≤ a ∧ a < 20 ∧ (M 1270 a 0) = 2 ∧ (M 1197 a 1) = k
theorem isKindDone_r {M : qm} {k : Int} : qW (qf_X4_isKindDone 20000 k M) (fun r => (r = 1 ∧ kdC M k) ∨ (r = 0 ∧ ¬ kdC M k)) := by
  unfold qf_X4_isKindDone qf_X4_isKindDone_L2
  refine qW_call (Q := fun o => match o with | .inl r => r = 1 ∧ kdC M k | .inr _ => ¬ kdC M k) ?_ ?_
  · refine qW_for 20 (fun i s => s = (k, i) ∧ ∀ a, 0 ≤ a → a < i → ¬ ((M 1270 a 0) = 2 ∧ (M 1197 a 1) = k)) ?_ ?_ ⟨rfl, fun a _ _ => by omega⟩ (by omega) (by omega)
    · rintro i _ i0 i1 ⟨rfl, hi⟩
      (try dsimp only)
      unfold qf_X4_isKindDone_L2_b
      have e1 : w32 (i + 1) = i + 1 := w32_id (by omega) (by omega)
      repeat' first
        | (refine qW_no ?_; omega)
        | with_reducible refine qW_bnd ?_
        | with_reducible refine qW_within (fun _ => ?_) (fun _ _ => ?_)
        | with_reducible refine qW_isIn (fun _ => ?_) (fun _ _ => ?_)
        | (exfalso; omega)
        | with_reducible refine qW_bind ?_
        | with_reducible refine qW_some ?_
        | with_reducible refine qW_pos rfl ?_
        | ((with_reducible refine qW_pos ?_ ?_); omega)
        | ((with_reducible refine qW_neg ?_ ?_); (first | omega | decide))
        | with_reducible refine qW_ite (fun _ => ?_) (fun _ => ?_)
        | dsimp only
      all_goals first
        | exact ⟨rfl, i, i0, i1, by assumption, by assumption⟩
        | exact ⟨by rw [e1], all_s hi (by omega)⟩
    · rintro _ ⟨rfl, hi⟩
      (try dsimp only)
      unfold qf_X4_isKindDone_L2_b
      rw [if_pos (by omega)]
      refine qW_some ?_
      rintro ⟨a, a0, a1, a2⟩
      exact hi a a0 a1 a2
  · rintro (o | o) h
    · exact qW_some (Or.inl h)
    · exact qW_some (Or.inr ⟨rfl, h⟩)
theorem kd_iff {M K : qm} (h_macts : R_macts M K) (h_mstate : R_mstate M K) {k : Int} (h0 : 0 ≤ k) : 0 < sI (fun a => if (K 2219 a 0) ≠ 0 ∧ (K 2227 a 0) = 2 ∧ (k < 0 ∨ (K 2220 a 0) = k) then 1 else 0) 20 ↔ kdC M k := by
  constructor
  · intro h
    obtain ⟨a, a0, a1, a2⟩ := sI_pos (fun _ _ _ => ite01) h
    have q := h_macts a a0 a1
    have q2 := h_mstate a a0 a1
    (try dsimp only at a2)
    by_cases e : (K 2219 a 0) ≠ 0 ∧ (K 2227 a 0) = 2 ∧ (k < 0 ∨ (K 2220 a 0) = k)
    · exact ⟨a, a0, a1, by omega, by omega⟩
    · rw [if_neg e] at a2
      omega
  · rintro ⟨a, a0, a1, a2, a3⟩
    have q := h_macts a a0 a1
    have q2 := h_mstate a a0 a1
    have p := sI_p (f := fun a => if (K 2219 a 0) ≠ 0 ∧ (K 2227 a 0) = 2 ∧ (k < 0 ∨ (K 2220 a 0) = k) then 1 else 0) a0 a1 (fun _ _ _ => ite01.1)
    (try dsimp only at p)
    rw [if_pos (by omega)] at p
    omega
theorem opens_eq2 {M K : qm} (h1 : R_calls M K) (h2 : R_opens M K) (h3 : R_calln M K) : sI (fun c => if (K 2279 c 0) = 0 then 0 else 1) (K 2270 6 0) = (M 1337 4 0) := by
  unfold R_opens at h2
  unfold R_calln at h3
  rw [h2.1, h3.2.2]
  refine sI_c (fun k a b => ?_)
  have q := h1 k a b
  (try dsimp only)
  by_cases e : (K 2279 k 0) = 0
  · rw [if_pos e, e]
  · rw [if_neg e]
    omega
theorem done2_r {M K : qm} (h_macts : R_macts M K) (h_mstate : R_mstate M K) {k : Int} (h0 : 0 ≤ k) : qW (qf_X14_done 20000 k K) (fun r => (0 < r ∧ kdC M k) ∨ (r = 0 ∧ ¬ kdC M k)) := by
  refine qW_mono done_r ?_
  rintro r hr
  have q := kd_iff h_macts h_mstate h0
  have b := sI_n (f := fun a => if (K 2219 a 0) ≠ 0 ∧ (K 2227 a 0) = 2 ∧ (k < 0 ∨ (K 2220 a 0) = k) then 1 else 0) (n := 20) (fun _ _ _ => ite01.1)
  rw [← hr] at q b
  by_cases e : kdC M k
  · exact Or.inl ⟨q.2 e, e⟩
  · refine Or.inr ⟨?_, e⟩
    have e2 : ¬ 0 < r := fun x => e (q.1 x)
    omega
