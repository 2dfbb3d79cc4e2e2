/-! ===== lifts: begin, done ===== -/
def opS (K : qm) (x : Int) : Prop := 0 ≤ x ∧ x < (K 2270 6 0) ∧ (K 2279 x 0) = 1
theorem opS_iff {M K : qm} (h_calln : R_calln M K) (h_calls : R_calls M K) (h_openl : R_openl M K) (h_opena : R_opena M K) {x : Int} : opS K x ↔ ∃ k, 0 ≤ k ∧ k < (M 1337 4 0) ∧ (M 1744 k 0) = x := by
  unfold R_calln at h_calln
  constructor
  · rintro ⟨a, b, c⟩
    exact h_opena x a (by omega) c
  · rintro ⟨k, a, b, rfl⟩
    have q := h_openl k a b
    exact ⟨q.1, by omega, q.2.2⟩
theorem isOpenCall_r {M K : qm} (h_calln : R_calln M K) (h_calls : R_calls M K) (h_openl : R_openl M K) (h_opena : R_opena M K) (h_opens : R_opens M K) {x : Int} : qW (qf_X3_isOpenCall 20000 x M) (fun r => (opS K x → r = 1) ∧ (¬ opS K x → r = 0)) := by
  have s := h_opens
  unfold R_opens at s
  unfold qf_X3_isOpenCall
  refine qW_call (placeOfOpen_r (x := x) (by omega) (by omega)) (fun r hr => ?_)
  have q := opS_iff h_calln h_calls h_openl h_opena (x := x)
  by_cases e : r = -1
  · rw [if_pos e]
    refine qW_some ⟨fun h => ?_, fun _ => rfl⟩
    obtain ⟨k, a, b, c⟩ := q.1 h
    rcases hr with hr | hr
    · exact absurd c (hr.2 k a b)
    · omega
  · rw [if_neg e]
    refine qW_some ⟨fun _ => rfl, fun h => ?_⟩
    rcases hr with hr | hr
    · exact absurd hr.1 e
    · exact absurd (q.2 ⟨r, hr.1, hr.2.1, hr.2.2⟩) h
theorem opensR_r {M K : qm} (h : R_calln M K) (h2 : R_calls M K) {x : Int} : qW (qf_X13_opens 20000 x K) (fun r => (opS K x → r = 1) ∧ (¬ opS K x → r = 0)) := by
  unfold R_calln at h
  unfold qf_X13_opens opS
  repeat' first
    | (refine qW_no ?_; omega)
    | (with_reducible refine qW_bnd ?_; try simp only [qw_ap, qfl1_ap, qfl2_ap, qcp1_ap, qcp2_ap, false_and, true_and, and_true, and_false, and_self, if_false, if_true, reduceIte, Nat.reduceEqDiff])
    | with_reducible refine qW_within (fun _ => ?_) (fun _ _ => ?_)
    | with_reducible refine qW_isIn (fun _ => ?_) (fun _ _ => ?_)
    | with_reducible refine qW_na (fun _ => ?_) (fun _ => ?_)
    | with_reducible refine qW_ns (fun _ => ?_) (fun _ => ?_)
    | (with_reducible refine qW_goes (fun _ => ?_) (fun _ _ => ?_) (fun _ _ => ?_) <;> (try dsimp only) <;> (try simp only [qw_ap, qfl1_ap, qfl2_ap, qcp1_ap, qcp2_ap, false_and, true_and, and_true, and_false, and_self, if_false, if_true, reduceIte, Nat.reduceEqDiff]))
    | (with_reducible refine qW_stays (by omega) (fun _ => ?_) (fun _ => ?_) <;> (try dsimp only) <;> (try simp only [qw_ap, qfl1_ap, qfl2_ap, qcp1_ap, qcp2_ap, false_and, true_and, and_true, and_false, and_self, if_false, if_true, reduceIte, Nat.reduceEqDiff]))
    | (exfalso; omega)
    | with_reducible refine qW_bind ?_
    | (with_reducible refine qW_some ?_; (try dsimp only); try simp only [qw_ap, qfl1_ap, qfl2_ap, qcp1_ap, qcp2_ap, false_and, true_and, and_true, and_false, and_self, if_false, if_true, reduceIte, Nat.reduceEqDiff])
    | with_reducible refine qW_pos rfl ?_
    | ((with_reducible refine qW_pos ?_ ?_); omega)
    | ((with_reducible refine qW_neg ?_ ?_); (first | omega | decide))
    | with_reducible refine qW_ite (fun _ => ?_) (fun _ => ?_)
    | dsimp only
  all_goals first
    | (refine ⟨fun hh => ?_, fun hh => ?_⟩ <;> first | trivial | omega)
    | (have q := h2 x (by omega) (by omega); refine ⟨fun hh => ?_, fun hh => ?_⟩ <;> first | trivial | omega)
def spC (M : qm) (c a : Int) : Prop := (M 1338 a 3) ≤ (M 1343 c 0) ∧ (M 1338 a 3) ≤ (M 1343 c 1) ∧ (M 1343 c 0) ≤ (M 1338 a 4) ∧ (M 1343 c 1) ≤ (M 1338 a 4)
theorem isInSpan_r {M : qm} {c a : Int} (h : 0 ≤ c ∧ c < 400) (h2 : 0 ≤ a ∧ a < 4) : qW (qf_X3_isInSpan 20000 c a M) (fun r => (spC M c a → r = 1) ∧ (¬ spC M c a → r = 0)) := by
  unfold qf_X3_isInSpan spC
  repeat' first
    | (refine qW_no ?_; omega)
    | (with_reducible refine qW_bnd ?_; try simp only [qw_ap, qfl1_ap, qfl2_ap, qcp1_ap, qcp2_ap, false_and, true_and, and_true, and_false, and_self, if_false, if_true, reduceIte, Nat.reduceEqDiff])
    | with_reducible refine qW_within (fun _ => ?_) (fun _ _ => ?_)
    | with_reducible refine qW_isIn (fun _ => ?_) (fun _ _ => ?_)
    | with_reducible refine qW_na (fun _ => ?_) (fun _ => ?_)
    | with_reducible refine qW_ns (fun _ => ?_) (fun _ => ?_)
    | (with_reducible refine qW_goes (fun _ => ?_) (fun _ _ => ?_) (fun _ _ => ?_) <;> (try dsimp only) <;> (try simp only [qw_ap, qfl1_ap, qfl2_ap, qcp1_ap, qcp2_ap, false_and, true_and, and_true, and_false, and_self, if_false, if_true, reduceIte, Nat.reduceEqDiff]))
    | (with_reducible refine qW_stays (by omega) (fun _ => ?_) (fun _ => ?_) <;> (try dsimp only) <;> (try simp only [qw_ap, qfl1_ap, qfl2_ap, qcp1_ap, qcp2_ap, false_and, true_and, and_true, and_false, and_self, if_false, if_true, reduceIte, Nat.reduceEqDiff]))
    | (exfalso; omega)
    | with_reducible refine qW_bind ?_
    | (with_reducible refine qW_some ?_; (try dsimp only); try simp only [qw_ap, qfl1_ap, qfl2_ap, qcp1_ap, qcp2_ap, false_and, true_and, and_true, and_false, and_self, if_false, if_true, reduceIte, Nat.reduceEqDiff])
    | with_reducible refine qW_pos rfl ?_
    | ((with_reducible refine qW_pos ?_ ?_); omega)
    | ((with_reducible refine qW_neg ?_ ?_); (first | omega | decide))
    | with_reducible refine qW_ite (fun _ => ?_) (fun _ => ?_)
    | dsimp only
  all_goals (refine ⟨fun hh => ?_, fun hh => ?_⟩ <;> first | trivial | omega)
theorem reaches_r {M K : qm} {c a : Int} (h : 0 ≤ c ∧ c < 400) (h2 : 0 ≤ a ∧ a < 4) (e1 : (K 2276 c 0) = (M 1343 c 0)) (e2 : (K 2277 c 0) = (M 1343 c 1)) (e3 : (K 2274 a 0) = (M 1338 a 3)) (e4 : (K 2275 a 0) = (M 1338 a 4)) : qW (qf_X13_reaches 20000 a c K) (fun r => (spC M c a → r = 1) ∧ (¬ spC M c a → r = 0)) := by
  unfold qf_X13_reaches spC
  repeat' first
    | (refine qW_no ?_; omega)
    | (with_reducible refine qW_bnd ?_; try simp only [qw_ap, qfl1_ap, qfl2_ap, qcp1_ap, qcp2_ap, false_and, true_and, and_true, and_false, and_self, if_false, if_true, reduceIte, Nat.reduceEqDiff])
    | with_reducible refine qW_within (fun _ => ?_) (fun _ _ => ?_)
    | with_reducible refine qW_isIn (fun _ => ?_) (fun _ _ => ?_)
    | with_reducible refine qW_na (fun _ => ?_) (fun _ => ?_)
    | with_reducible refine qW_ns (fun _ => ?_) (fun _ => ?_)
    | (with_reducible refine qW_goes (fun _ => ?_) (fun _ _ => ?_) (fun _ _ => ?_) <;> (try dsimp only) <;> (try simp only [qw_ap, qfl1_ap, qfl2_ap, qcp1_ap, qcp2_ap, false_and, true_and, and_true, and_false, and_self, if_false, if_true, reduceIte, Nat.reduceEqDiff]))
    | (with_reducible refine qW_stays (by omega) (fun _ => ?_) (fun _ => ?_) <;> (try dsimp only) <;> (try simp only [qw_ap, qfl1_ap, qfl2_ap, qcp1_ap, qcp2_ap, false_and, true_and, and_true, and_false, and_self, if_false, if_true, reduceIte, Nat.reduceEqDiff]))
    | (exfalso; omega)
    | with_reducible refine qW_bind ?_
    | (with_reducible refine qW_some ?_; (try dsimp only); try simp only [qw_ap, qfl1_ap, qfl2_ap, qcp1_ap, qcp2_ap, false_and, true_and, and_true, and_false, and_self, if_false, if_true, reduceIte, Nat.reduceEqDiff])
    | with_reducible refine qW_pos rfl ?_
    | ((with_reducible refine qW_pos ?_ ?_); omega)
    | ((with_reducible refine qW_neg ?_ ?_); (first | omega | decide))
    | with_reducible refine qW_ite (fun _ => ?_) (fun _ => ?_)
    | dsimp only
  all_goals (refine ⟨fun hh => ?_, fun hh => ?_⟩ <;> first | trivial | omega)
/-- which calls may be begun by a car -/
def bgS (M : qm) (c a : Int) : Prop := a = -1 ∨ (spC M c a ∧ ((M 1338 a 5) = -1 ∨ (M 1338 a 5) = c))
theorem setBegun_r {M K : qm} (h_carn : R_carn M K) (h_calln : R_calln M K) {c a : Int} (h : 0 ≤ c ∧ c < (M 1337 2 0)) (h2 : a = -1 ∨ (0 ≤ a ∧ a < (M 1337 0 0))) : qW (qf_X3_setBegun 20000 c a M) (fun r => (bgS M c a ∧ r.1 = 1 ∧ ∀ b i j, r.2 b i j = if b = 1338 ∧ j = 5 ∧ i = a ∧ a ≠ -1 then c else if b = 1338 ∧ j = 5 ∧ 0 ≤ i ∧ i < (M 1337 0 0) ∧ M 1338 i 5 = c then -1 else M b i j) ∨ (¬ bgS M c a ∧ r = (0, M))) := by
  unfold R_carn at h_carn
  unfold R_calln at h_calln
  unfold qf_X3_setBegun qf_X3_setBegun_J35 bgS
  by_cases ea : a = -1
  · rw [if_pos ea]
    refine qW_call (endBeginning_r (x := c) (by omega) (by omega)) (fun r hr => ?_)
    (try dsimp only)
    rw [if_pos ea]
    refine qW_some (Or.inl ⟨Or.inl ea, rfl, fun b i j => ?_⟩)
    (try dsimp only)
    rw [hr]
    grind
  · rw [if_neg ea, if_pos (by omega)]
    refine qW_call (isInSpan_r (by omega) (by omega)) (fun s hs => ?_)
    by_cases e0 : s = 0
    · rw [if_pos e0]
      exact qW_some (Or.inr ⟨by grind, rfl⟩)
    · rw [if_neg e0]
      have e1 : spC M c a := by grind
      have fin : ((M 1338 a 5) = -1 ∨ (M 1338 a 5) = c) → qW ((qf_X3_endBeginning 20000 c M).bind (fun r2 => if a = (-1) then some ((1 : Int), r2.2) else if 0 ≤ a ∧ a < 4 then qbnd (qw r2.2 1338 a 5 c) (fun M5 => some (1, M5)) else none)) (fun r => ((a = -1 ∨ (spC M c a ∧ ((M 1338 a 5) = -1 ∨ (M 1338 a 5) = c))) ∧ r.1 = 1 ∧ ∀ b i j, r.2 b i j = if b = 1338 ∧ j = 5 ∧ i = a ∧ a ≠ -1 then c else if b = 1338 ∧ j = 5 ∧ 0 ≤ i ∧ i < (M 1337 0 0) ∧ M 1338 i 5 = c then -1 else M b i j) ∨ (¬ (a = -1 ∨ (spC M c a ∧ ((M 1338 a 5) = -1 ∨ (M 1338 a 5) = c))) ∧ r = (0, M))) := by
        intro hc
        refine qW_call (endBeginning_r (x := c) (by omega) (by omega)) (fun r hr => ?_)
        rw [if_neg ea, if_pos (by omega)]
        refine qW_bnd (qW_some (Or.inl ⟨Or.inr ⟨e1, hc⟩, rfl, fun b i j => ?_⟩))
        (try dsimp only)
        rw [qw_ap, hr]
        grind
      by_cases g1 : (M 1338 a 5) = -1
      · rw [if_pos g1]
        exact fin (Or.inl g1)
      · rw [if_neg g1]
        by_cases g2 : (M 1338 a 5) = c
        · rw [if_pos g2]
          exact fin (Or.inr g2)
        · rw [if_neg g2]
          exact qW_some (Or.inr ⟨by grind, rfl⟩)
/-- the reference's look at all calls -/
theorem beginL_r {K : qm} (n0 : 0 ≤ (K 2270 6 0)) (n1 : (K 2270 6 0) ≤ 400) {c a v : Int} (hv : v = 0 ∨ v = 1) : qW (qf_X13_begin_L22 20000 20000 c a v 0 K) (fun o => match o with | .inl _ => False | .inr r => (r = 0 ∨ r = 1) ∧ (r = 1 ↔ v = 1 ∧ ∀ k, 0 ≤ k → k < (K 2270 6 0) → a < 0 ∨ k = c ∨ (K 2279 k 0) = 0 ∨ (K 2280 k 0) ≠ a)) := by
  unfold qf_X13_begin_L22
  refine qW_for (K 2270 6 0) (fun i s => s.1 = c ∧ s.2.1 = a ∧ s.2.2.2 = i ∧ (s.2.2.1 = 0 ∨ s.2.2.1 = 1) ∧ (s.2.2.1 = 1 ↔ v = 1 ∧ ∀ k, 0 ≤ k → k < i → a < 0 ∨ k = c ∨ (K 2279 k 0) = 0 ∨ (K 2280 k 0) ≠ a)) ?_ ?_ ?_ n0 (by omega)
  · rintro i ⟨c', a', w, i'⟩ i0 i1 ⟨rfl, rfl, rfl, hw, hi⟩
    (try dsimp only at *)
    unfold qf_X13_begin_L22_b qf_X13_begin_J66 qf_X13_begin_J70
    have e1 : w32 (i' + 1) = i' + 1 := w32_id (by omega) (by omega)
    have st : ∀ w' : Int, (w' = 0 ∨ w' = 1) → (w' = 1 ↔ w = 1 ∧ (a' < 0 ∨ i' = c' ∨ (K 2279 i' 0) = 0 ∨ (K 2280 i' 0) ≠ a')) → (w' = 1 ↔ v = 1 ∧ ∀ k, 0 ≤ k → k < i' + 1 → a' < 0 ∨ k = c' ∨ (K 2279 k 0) = 0 ∨ (K 2280 k 0) ≠ a') := by
      intro w' _ h
      rw [h, hi]
      constructor
      · rintro ⟨⟨x, y⟩, z⟩
        refine ⟨x, fun k k0 k1 => ?_⟩
        by_cases e : k = i'
        · rw [e]; exact z
        · exact y k k0 (by omega)
      · rintro ⟨x, y⟩
        exact ⟨⟨x, fun k k0 k1 => y k k0 (by omega)⟩, y i' i0 (by omega)⟩
    repeat' first
      | (refine qW_no ?_; omega)
      | with_reducible refine qW_bnd ?_
      | with_reducible refine qW_within (fun _ => ?_) (fun _ _ => ?_)
      | with_reducible refine qW_isIn (fun _ => ?_) (fun _ _ => ?_)
      | (exfalso; omega)
      | with_reducible refine qW_bind ?_
      | with_reducible refine qW_some ?_
      | with_reducible refine qW_pos rfl ?_
      | ((with_reducible refine qW_pos ?_ ?_); omega)
      | ((with_reducible refine qW_neg ?_ ?_); (first | omega | decide))
      | with_reducible refine qW_ite (fun _ => ?_) (fun _ => ?_)
      | dsimp only
    all_goals (refine ⟨rfl, rfl, e1, by first | exact Or.inl rfl | exact Or.inr rfl, st _ (by first | exact Or.inl rfl | exact Or.inr rfl) ?_⟩; (try dsimp only); grind)
  · rintro ⟨c', a', w, i'⟩ ⟨rfl, rfl, rfl, hw, hi⟩
    (try dsimp only at *)
    unfold qf_X13_begin_L22_b
    rw [if_pos (Int.le_refl _)]
    exact qW_some ⟨hw, hi⟩
  · refine ⟨rfl, rfl, rfl, hv, ?_⟩
    constructor
    · exact fun h => ⟨h, fun k k0 k1 => by omega⟩
    · exact fun h => h.1
theorem beginR_r {M K : qm} (h_carn : R_carn M K) (h_calln : R_calln M K) (h_cars : R_cars M K) (h_calls : R_calls M K) (h_begun : R_begun M K) (h_begunz : R_begunz M K) (h_begunr : R_begunr M K) {c a : Int} (h : opS K c) (h2 : a = -1 ∨ (0 ≤ a ∧ a < (M 1337 0 0))) : qW (qf_X13_begin 20000 c a K) (fun r => (bgS M c a ∧ r.1 = 1 ∧ r.2 = qw K 2280 c 0 a) ∨ (¬ bgS M c a ∧ r.1 = 0 ∧ r.2 = qw K 2280 c 0 (K 2280 c 0))) := by
  unfold R_carn at h_carn
  unfold R_calln at h_calln
  obtain ⟨c0, c1, c2⟩ := h
  have qc := h_calls c c0 (by omega)
  unfold qf_X13_begin qf_X13_begin_J13
  have fin : ∀ v : Int, (v = 0 ∨ v = 1) → (a = -1 → v = 1) → (a ≠ -1 → (v = 1 ↔ spC M c a)) → qW (qf_X13_begin_J18 20000 c a v K) (fun r => (bgS M c a ∧ r.1 = 1 ∧ r.2 = qw K 2280 c 0 a) ∨ (¬ bgS M c a ∧ r.1 = 0 ∧ r.2 = qw K 2280 c 0 (K 2280 c 0))) := by
    intro v hv v1 v2
    unfold qf_X13_begin_J18
    refine qW_call (beginL_r (c := c) (a := a) (v := v) (by omega) (by omega) hv) ?_
    rintro (o | r) hr
    · exact hr.elim
    · obtain ⟨hr1, hr2⟩ := hr
      have key : r = 1 ↔ bgS M c a := by
        rw [hr2]
        unfold bgS
        constructor
        · rintro ⟨x, y⟩
          by_cases ea : a = -1
          · exact Or.inl ea
          · refine Or.inr ⟨(v2 ea).1 x, ?_⟩
            rcases h_begunz a (by omega) (by omega) with z | ⟨z0, z1, z2⟩
            · exact Or.inl z
            · refine Or.inr ?_
              have q := (h_begun a ((M 1338 a 5)) (by omega) (by omega) z0 z1 z2).2 rfl
              rcases y _ z0 (by omega) with y | y | y | y
              · omega
              · exact y
              · omega
              · exact absurd q y
        · rintro (x | ⟨x, y⟩)
          · exact ⟨v1 x, fun k k0 k1 => Or.inl (by omega)⟩
          · have ea : a ≠ -1 ∨ a = -1 := by omega
            rcases ea with ea | ea
            · refine ⟨(v2 ea).2 x, fun k k0 k1 => ?_⟩
              by_cases e3 : (K 2279 k 0) = 0
              · exact Or.inr (Or.inr (Or.inl e3))
              · have qk := h_calls k k0 (by omega)
                have q := h_begun a k (by omega) (by omega) k0 (by omega) (by omega)
                by_cases e4 : (K 2280 k 0) = a
                · have e5 := q.1 e4
                  exact Or.inr (Or.inl (by omega))
                · exact Or.inr (Or.inr (Or.inr e4))
            · exact ⟨v1 ea, fun k k0 k1 => Or.inl (by omega)⟩
      (try dsimp only)
      by_cases er : r = 0
      · rw [if_pos er, if_pos (by omega), if_pos (by omega)]
        have nb : ¬ bgS M c a := fun x => by have := key.2 x; omega
        exact qW_bnd (qW_pos hr1 (qW_some (Or.inr ⟨nb, er, rfl⟩)))
      · rw [if_neg er, if_pos (by omega)]
        have yb : bgS M c a := key.1 (by omega)
        exact qW_bnd (qW_pos hr1 (qW_some (Or.inl ⟨yb, by (try dsimp only); omega, rfl⟩)))
  by_cases ea : a = -1
  · rw [if_pos (by omega)]
    exact fin 1 (Or.inr rfl) (fun _ => rfl) (fun x => absurd ea x)
  · rw [if_neg (by omega)]
    have qa := h_cars a (by omega) (by omega)
    refine qW_call (reaches_r (c := c) (a := a) (by omega) (by omega) qc.1 qc.2.1 qa.2.2.2.2.2.2.2.2.2.1 qa.2.2.2.2.2.2.2.2.2.2) (fun r hr => ?_)
    by_cases er : r = 0
    · rw [if_pos er]
      exact fin 0 (Or.inl rfl) (fun x => absurd x ea) (fun _ => by grind)
    · rw [if_neg er]
      exact fin 1 (Or.inr rfl) (fun x => absurd x ea) (fun _ => by grind)
