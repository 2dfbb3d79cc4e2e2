/-! ===== the matrix: zones looked at ===== -/
/-- a zone is on, is sure; a row is met, is surely so (by the class's cells) -/
def zOn (M : qm) (t z : Int) : Prop := (M 1176 z 0) ≤ cOn M t z
def zSu (M : qm) (t z : Int) : Prop := 0 < cAk M t z ∧ cOn M t z = cAk M t z
def mtC (M : qm) (t r : Int) : Prop := zOn M t (M 1218 r 0) ∧ ((M 1218 r 1) = -1 ∨ zOn M t (M 1218 r 1))
def suC (M : qm) (t r : Int) : Prop := zSu M t (M 1218 r 0) ∨ ((M 1218 r 1) ≠ -1 ∧ zSu M t (M 1218 r 1))
def clC (M : qm) (t a : Int) : Prop := ∃ r, 0 ≤ r ∧ r < (M 1172 9 0) ∧ ((M 1218 r 2) = a ∧ mtC M t r)
def slC (M : qm) (t a : Int) : Prop := ∃ r, 0 ≤ r ∧ r < (M 1172 9 0) ∧ ((M 1218 r 2) = a ∧ mtC M t r ∧ suC M t r)
theorem isSure_e {M : qm} {x y : Int} : qf_X4_isSure 20000 x y M = some (b01 (0 < y ∧ x = y)) := by
  refine qW_e ?_
  unfold qf_X4_isSure
  repeat' first
    | with_reducible refine qW_within (fun _ => ?_) (fun _ _ => ?_)
    | with_reducible refine qW_isIn (fun _ => ?_) (fun _ _ => ?_)
    | (exfalso; omega)
    | with_reducible refine qW_bind ?_
    | with_reducible refine qW_bnd ?_
    | with_reducible refine qW_some ?_
    | ((with_reducible refine qW_no ?_); omega)
    | with_reducible refine qW_pos rfl ?_
    | ((with_reducible refine qW_pos ?_ ?_); omega)
    | ((with_reducible refine qW_neg ?_ ?_); (first | omega | decide))
    | with_reducible refine qW_ite (fun _ => ?_) (fun _ => ?_)
    | dsimp only
  all_goals first
    | exact (b01_t (by omega)).symm
    | exact (b01_f (by omega)).symm
/-- states alike but for what was looked at -/
def likC (M S : qm) : Prop := ∀ b i j, b ≠ 1274 → b ≠ 1275 → S b i j = M b i j
theorem lik_s {M S : qm} (h : likC M S) (i j : Int) : S 1176 i j = M 1176 i j ∧ S 1173 i j = M 1173 i j ∧ S 1174 i j = M 1174 i j ∧ S 1175 i j = M 1175 i j := ⟨h _ _ _ (by decide) (by decide), h _ _ _ (by decide) (by decide), h _ _ _ (by decide) (by decide), h _ _ _ (by decide) (by decide)⟩
theorem cAk_x {M S : qm} (h : likC M S) (t z : Int) : cAk S t z = cAk M t z := by
  unfold cAk
  rw [(lik_s h z 1).1]
  refine sI_c (fun k _ _ => ?_)
  (try dsimp only)
  rw [(lik_s h z (2 + k)).1]
  refine b01_c ?_
  unfold akC
  rw [(lik_s h _ 0).2.2.1, (lik_s h _ 0).2.2.2]
theorem cOn_x {M S : qm} (h : likC M S) (t z : Int) : cOn S t z = cOn M t z := by
  unfold cOn
  rw [(lik_s h z 1).1]
  refine sI_c (fun k _ _ => ?_)
  (try dsimp only)
  rw [(lik_s h z (2 + k)).1]
  refine b01_c ?_
  unfold onC akC
  rw [(lik_s h _ 0).2.1, (lik_s h _ 0).2.2.1, (lik_s h _ 0).2.2.2]
theorem znC_x {M S : qm} (h : likC M S) (hz : znC M) : znC S := by
  intro z z0 z1
  rw [(lik_s h z 1).1]
  have q := hz z z0 z1
  refine ⟨q.1, q.2.1, fun k k0 k1 => ?_⟩
  rw [(lik_s h z (2 + k)).1]
  exact q.2.2 k k0 k1
/-- what was looked at -/
def lkC (M : qm) (t : Int) (S : qm) : Prop := (∀ z, 0 ≤ z → z < 20 → (S 1274 z 0) = b01 ((M 1176 z 0) ≠ 0 ∧ zOn M t z) ∧ (S 1275 z 0) = b01 (zSu M t z))
theorem lookAtZones_r {M : qm} (h : znC M) {t : Int} : qW (qf_X4_lookAtZones 20000 t M) (fun r => lkC M t r.2 ∧ likC M r.2) := by
  unfold qf_X4_lookAtZones qf_X4_lookAtZones_L2
  refine qW_call (Q := fun o => match o with | .inl _ => False | .inr r => lkC M t r.2 ∧ likC M r.2) ?_ ?_
  · refine qW_for 20 (fun i s => s.1 = t ∧ s.2.1 = i ∧ likC M s.2.2 ∧ ∀ z, 0 ≤ z → z < i → s.2.2 1274 z 0 = b01 ((M 1176 z 0) ≠ 0 ∧ zOn M t z) ∧ s.2.2 1275 z 0 = b01 (zSu M t z)) ?_ ?_ ⟨rfl, rfl, fun _ _ _ _ _ => rfl, all_0⟩ (by omega) (by omega)
    · rintro i ⟨t', i', S⟩ i0 i1 ⟨rfl, rfl, hS, hz⟩
      (try dsimp only at i0 i1 hS hz ⊢)
      have hn : znC S := znC_x hS h
      have eo : ∀ z, cOn S t' z = cOn M t' z := fun z => cOn_x hS t' z
      have e1 : w32 (i' + 1) = i' + 1 := w32_id (by omega) (by omega)
      have ez : S 1176 i' 0 = M 1176 i' 0 := hS _ _ _ (by decide) (by decide)
      unfold qf_X4_lookAtZones_L2_b qf_X4_isZone qf_X4_lookAtZones_J47
      rw [ez]
      rw [if_neg (by omega)]
      refine qW_eq (countOn_e hn i0 i1) ?_
      rw [eo]
      have fin : ∀ v : Int, v = b01 ((M 1176 i' 0) ≠ 0 ∧ zOn M t' i') → qW (qf_X4_lookAtZones_J48 20000 t' i' (cOn M t' i') i' v S) (fun o => match o with | .inl r => (match r with | .inl _ => False | .inr r => lkC M t' r.2 ∧ likC M r.2) | .inr s' => s'.1 = t' ∧ s'.2.1 = i' + 1 ∧ likC M s'.2.2 ∧ ∀ z, 0 ≤ z → z < i' + 1 → s'.2.2 1274 z 0 = b01 ((M 1176 z 0) ≠ 0 ∧ zOn M t' z) ∧ s'.2.2 1275 z 0 = b01 (zSu M t' z)) := by
        intro v hv
        unfold qf_X4_lookAtZones_J48
        rw [if_pos ⟨⟨i0, i1⟩, by rw [hv]; exact b01_01⟩]
        refine qW_bnd ?_
        have hS2 : likC M (qw S 1274 i' 0 v) := fun b i j n1 n2 => by rw [qw_a n1]; exact hS b i j n1 n2
        refine qW_eq (countAsked_e (znC_x hS2 h) i0 i1) (qW_eq isSure_e ?_)
        rw [if_pos ⟨⟨i0, i1⟩, b01_01⟩]
        refine qW_bnd (qW_some ⟨rfl, e1, fun b i j n1 n2 => ?_, ?_⟩)
        · (try dsimp only)
          rw [qw_a n2, qw_a n1]
          exact hS b i j n1 n2
        · rw [cAk_x hS2]
          intro z z0 z1
          (try dsimp only)
          by_cases e : z = i'
          · rw [e]
            refine ⟨?_, qw_s⟩
            rw [qw_a (by decide), qw_s]
            exact hv
          · rw [qw_a (by decide), qw_i e, qw_i e, qw_a (by decide)]
            exact hz z z0 (by omega)
      repeat' first
        | with_reducible refine qW_within (fun _ => ?_) (fun _ _ => ?_)
        | with_reducible refine qW_isIn (fun _ => ?_) (fun _ _ => ?_)
        | (exfalso; omega)
        | with_reducible refine qW_bind ?_
        | with_reducible refine qW_bnd ?_
        | with_reducible refine qW_some ?_
        | ((with_reducible refine qW_no ?_); omega)
        | with_reducible refine qW_pos rfl ?_
        | ((with_reducible refine qW_pos ?_ ?_); omega)
        | ((with_reducible refine qW_neg ?_ ?_); (first | omega | decide))
        | with_reducible refine qW_ite (fun _ => ?_) (fun _ => ?_)
        | dsimp only
      all_goals (refine qW_mono (fin _ ?_) (fun o ho => ?_))
      all_goals (try (rcases o with (o | o) | o <;> exact ho))
      all_goals first
        | exact (b01_f (fun x => x.1 (by assumption))).symm
        | exact (b01_f (fun x => by have y := x.2; unfold zOn at y; omega)).symm
        | exact (b01_t ⟨by assumption, by unfold zOn; omega⟩).symm
    · rintro ⟨t', i', S⟩ ⟨rfl, rfl, hS, hz⟩
      (try dsimp only at hS hz ⊢)
      unfold qf_X4_lookAtZones_L2_b
      rw [if_pos (by omega)]
      exact qW_some ⟨hz, hS⟩
  · rintro (o | ⟨u, S⟩) hh
    · exact hh.elim
    · exact qW_some hh
/-- what the class's rows are like -/
def rwC (M : qm) : Prop := 0 ≤ (M 1172 9 0) ∧ (M 1172 9 0) ≤ 50 ∧ ∀ r, 0 ≤ r → r < (M 1172 9 0) → 0 ≤ (M 1218 r 0) ∧ (M 1218 r 0) < 20 ∧ (M 1176 (M 1218 r 0) 0) ≠ 0 ∧ ((M 1218 r 1) = -1 ∨ (0 ≤ (M 1218 r 1) ∧ (M 1218 r 1) < 20 ∧ (M 1176 (M 1218 r 1) 0) ≠ 0))
theorem isMet_e {M S : qm} {t r : Int} (h : rwC S) (hk : lkC S t S) (r0 : 0 ≤ r) (r1 : r < S 1172 9 0) : qf_X4_isMet 20000 r S = some (b01 (mtC S t r)) := by
  obtain ⟨n0, n1, hr⟩ := h
  obtain ⟨q0, q1, q2, q3⟩ := hr r r0 r1
  refine qW_e ?_
  unfold qf_X4_isMet mtC
  have k0 := (hk _ q0 q1).1
  rw [if_pos ⟨r0, by omega⟩, if_pos ⟨q0, q1⟩, k0]
  refine qW_b (fun w => ?_) (fun w => ?_)
  · refine qW_some (b01_f (fun x => w ⟨q2, x.1⟩)).symm
  · rw [if_pos ⟨r0, by omega⟩]
    rcases q3 with q3 | ⟨q3, q4, q5⟩
    · rw [if_pos q3]
      exact qW_some (b01_t ⟨w.2, Or.inl q3⟩).symm
    · rw [if_neg (by omega), if_pos ⟨r0, by omega⟩, if_pos ⟨q3, q4⟩, (hk _ q3 q4).1]
      refine qW_b (fun w2 => ?_) (fun w2 => ?_)
      · refine qW_some (b01_f (fun x => ?_)).symm
        rcases x.2 with y | y
        · omega
        · exact w2 ⟨q5, y⟩
      · exact qW_some (b01_t ⟨w.2, Or.inr w2.2⟩).symm
theorem isCalled_e {M : qm} {t a : Int} (h : rwC M) (hk : lkC M t M) : qf_X4_isCalled 20000 a M = some (b01 (clC M t a)) := by
  have h2 := h
  obtain ⟨n0, n1, hr⟩ := h2
  unfold clC
  refine qW_e ?_
  unfold qf_X4_isCalled qf_X4_isCalled_L2
  refine qW_call (Q := fun o => match o with | .inl r => r = 1 ∧ ∃ k, 0 ≤ k ∧ k < (M 1172 9 0) ∧ (M 1218 k 2) = a ∧ mtC M t k | .inr _ => ∀ k, 0 ≤ k → k < (M 1172 9 0) → ¬ ((M 1218 k 2) = a ∧ mtC M t k)) ?_ ?_
  · refine qW_for ((M 1172 9 0)) (fun i s => s = (a, i) ∧ ∀ k, 0 ≤ k → k < i → ¬ ((M 1218 k 2) = a ∧ mtC M t k)) ?_ ?_ ⟨rfl, all_0⟩ (by omega) (by omega)
    · rintro i _ i0 i1 ⟨rfl, hi⟩
      have e1 : w32 (i + 1) = i + 1 := w32_id (by omega) (by omega)
      have e3 := isMet_e (M := M) h hk i0 i1
      (try dsimp only); unfold qf_X4_isCalled_L2_b
      repeat' first
        | with_reducible refine qW_eq e3 ?_
        | with_reducible refine qW_b (fun _ => ?_) (fun _ => ?_)
        | with_reducible refine qW_within (fun _ => ?_) (fun _ _ => ?_)
        | with_reducible refine qW_isIn (fun _ => ?_) (fun _ _ => ?_)
        | (exfalso; omega)
        | with_reducible refine qW_bind ?_
        | with_reducible refine qW_bnd ?_
        | with_reducible refine qW_some ?_
        | ((with_reducible refine qW_no ?_); omega)
        | with_reducible refine qW_pos rfl ?_
        | ((with_reducible refine qW_pos ?_ ?_); omega)
        | ((with_reducible refine qW_neg ?_ ?_); (first | omega | decide))
        | with_reducible refine qW_ite (fun _ => ?_) (fun _ => ?_)
        | dsimp only
      all_goals first
        | exact ⟨rfl, i, i0, i1, by first | assumption | omega | grind⟩
        | exact ⟨by rw [e1], all_s hi (by first | assumption | omega | grind)⟩
    · rintro _ ⟨rfl, hi⟩
      (try dsimp only); unfold qf_X4_isCalled_L2_b
      repeat' first
        | with_reducible refine qW_within (fun _ => ?_) (fun _ _ => ?_)
        | with_reducible refine qW_isIn (fun _ => ?_) (fun _ _ => ?_)
        | (exfalso; omega)
        | with_reducible refine qW_bind ?_
        | with_reducible refine qW_bnd ?_
        | with_reducible refine qW_some ?_
        | ((with_reducible refine qW_no ?_); omega)
        | with_reducible refine qW_pos rfl ?_
        | ((with_reducible refine qW_pos ?_ ?_); omega)
        | ((with_reducible refine qW_neg ?_ ?_); (first | omega | decide))
        | with_reducible refine qW_ite (fun _ => ?_) (fun _ => ?_)
        | dsimp only
      all_goals exact hi
  · rintro (o | o) h
    · exact qW_some (by rw [b01_t h.2]; exact h.1)
    · exact qW_some (b01_f (by rintro ⟨k, a, b, c⟩; exact h k a b c)).symm
theorem isSurelyCalled_e {M : qm} {t a : Int} (h : rwC M) (hk : lkC M t M) : qf_X4_isSurelyCalled 20000 a M = some (b01 (slC M t a)) := by
  have h2 := h
  obtain ⟨n0, n1, hr⟩ := h2
  unfold slC
  have e4 : ∀ z, 0 ≤ z → z < 20 → (M 1275 z 0) = b01 (zSu M t z) := fun z a b => (hk z a b).2
  refine qW_e ?_
  unfold qf_X4_isSurelyCalled qf_X4_isSurelyCalled_L2
  refine qW_call (Q := fun o => match o with | .inl r => r = 1 ∧ ∃ k, 0 ≤ k ∧ k < (M 1172 9 0) ∧ (M 1218 k 2) = a ∧ mtC M t k ∧ suC M t k | .inr _ => ∀ k, 0 ≤ k → k < (M 1172 9 0) → ¬ ((M 1218 k 2) = a ∧ mtC M t k ∧ suC M t k)) ?_ ?_
  · refine qW_for ((M 1172 9 0)) (fun i s => s = (a, i) ∧ ∀ k, 0 ≤ k → k < i → ¬ ((M 1218 k 2) = a ∧ mtC M t k ∧ suC M t k)) ?_ ?_ ⟨rfl, all_0⟩ (by omega) (by omega)
    · rintro i _ i0 i1 ⟨rfl, hi⟩
      have e1 : w32 (i + 1) = i + 1 := w32_id (by omega) (by omega)
      have e3 := isMet_e (M := M) h hk i0 i1
      have q := hr i i0 i1
      unfold suC at *
      (try dsimp only); unfold qf_X4_isSurelyCalled_L2_b qf_X4_isSurelyCalled_J54 qf_X4_isSurelyCalled_J58 qf_X4_isSurelyCalled_J59
      repeat' first
        | with_reducible refine qW_eq e3 ?_
        | (rw [e4 _ (by omega) (by omega)])
        | with_reducible refine qW_b (fun _ => ?_) (fun _ => ?_)
        | with_reducible refine qW_within (fun _ => ?_) (fun _ _ => ?_)
        | with_reducible refine qW_isIn (fun _ => ?_) (fun _ _ => ?_)
        | (exfalso; omega)
        | with_reducible refine qW_bind ?_
        | with_reducible refine qW_bnd ?_
        | with_reducible refine qW_some ?_
        | ((with_reducible refine qW_no ?_); omega)
        | with_reducible refine qW_pos rfl ?_
        | ((with_reducible refine qW_pos ?_ ?_); omega)
        | ((with_reducible refine qW_neg ?_ ?_); (first | omega | decide))
        | with_reducible refine qW_ite (fun _ => ?_) (fun _ => ?_)
        | dsimp only
      all_goals first
        | exact ⟨rfl, i, i0, i1, by first | assumption | omega | grind⟩
        | exact ⟨by rw [e1], all_s hi (by first | assumption | omega | grind)⟩
    · rintro _ ⟨rfl, hi⟩
      (try dsimp only); unfold qf_X4_isSurelyCalled_L2_b qf_X4_isSurelyCalled_J54 qf_X4_isSurelyCalled_J58 qf_X4_isSurelyCalled_J59
      repeat' first
        | with_reducible refine qW_within (fun _ => ?_) (fun _ _ => ?_)
        | with_reducible refine qW_isIn (fun _ => ?_) (fun _ _ => ?_)
        | (exfalso; omega)
        | with_reducible refine qW_bind ?_
        | with_reducible refine qW_bnd ?_
        | with_reducible refine qW_some ?_
        | ((with_reducible refine qW_no ?_); omega)
        | with_reducible refine qW_pos rfl ?_
        | ((with_reducible refine qW_pos ?_ ?_); omega)
        | ((with_reducible refine qW_neg ?_ ?_); (first | omega | decide))
        | with_reducible refine qW_ite (fun _ => ?_) (fun _ => ?_)
        | dsimp only
      all_goals exact hi
  · rintro (o | o) h
    · exact qW_some (by rw [b01_t h.2]; exact h.1)
    · exact qW_some (b01_f (by rintro ⟨k, a, b, c⟩; exact h k a b c)).symm
