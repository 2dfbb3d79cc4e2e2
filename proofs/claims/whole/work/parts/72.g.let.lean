/-! ===== letting one in, both sides ===== -/
def AKr (M K : qm) : Prop := R_portn M K ∧ R_portw M K ∧ R_portc M K ∧ R_porto M K ∧ R_portk M K ∧ R_portr M K ∧ R_portq M K ∧ R_persons M K ∧ R_personb M K ∧ R_personz M K
def lrC (M : qm) (p c room m : Int) : qm := qw (qw (qw (qw M 826 (3 * (20 * p + M 825 (13 * p + 12) 0)) 0 c) 826 (3 * (20 * p + M 825 (13 * p + 12) 0) + 1) 0 room) 826 (3 * (20 * p + M 825 (13 * p + 12) 0) + 2) 0 m) 825 (13 * p + 12) 0 (M 825 (13 * p + 12) 0 + 1)
def lrR (K : qm) (p c room m : Int) : qm := qw (qw (qw (qw K 2299 (20 * p + K 2298 p 0) 0 c) 2300 (20 * p + K 2298 p 0) 0 room) 2301 (20 * p + K 2298 p 0) 0 m) 2298 p 0 (K 2298 p 0 + 1)
section LT
variable {M K : qm} {q c p room t x y m rl rl2 : Int}
theorem enter_AK (h : AKr M K) (h_personn : R_personn M K) (hz : (K 2156 9 0) = (M 51 3 0)) (hs : 0 ≤ (M 51 3 0)) (p0 : 0 ≤ p) (p1 : p < (M 824 3 0)) (hroom : room = M 825 (13 * p) 0 ∨ room = M 825 (13 * p + 1) 0) (hq : 0 ≤ q ∧ q < (M 756 7 0)) (t0 : 0 ≤ t) (t1 : t ≤ (M 6 12 0)) : AKr (enC M q room (peX M p room) (peY M p room) t) (enR K q room (peX M p room) (peY M p room) t) := by
  obtain ⟨h_portn, h_portw, h_portc, h_porto, h_portk, h_portr, h_portq, h_persons, h_personb, h_personz⟩ := h
  refine ⟨R_portn_x (M := M) (K := K) rfl rfl rfl (fun _ _ => rfl) (fun _ _ => rfl) (fun _ _ => rfl) rfl h_portn, R_portw_x (M := M) (K := K) rfl rfl (fun _ _ => rfl) rfl (fun _ _ => rfl) (fun _ _ => rfl) (fun _ _ => rfl) (fun _ _ => rfl) h_portw, R_portc_x (M := M) (K := K) rfl (fun _ _ => rfl) (fun _ _ => rfl) (fun _ _ => rfl) (fun _ _ => rfl) (fun _ _ => rfl) (fun _ _ => rfl) (fun _ _ => rfl) h_portc, R_porto_x (M := M) (K := K) rfl rfl (fun _ _ => rfl) (fun _ _ => rfl) (fun _ _ => rfl) (fun _ _ => rfl) h_porto, R_portk_x (M := M) (K := K) rfl rfl (fun _ _ => rfl) (fun _ _ => rfl) (fun _ _ => rfl) h_portk, R_portr_x (M := M) (K := K) rfl rfl (fun _ _ => rfl) (fun _ _ => rfl) (fun _ _ => rfl) (fun _ _ => rfl) (fun _ _ => rfl) (fun _ _ => rfl) (fun _ _ => rfl) h_portr, R_portq_x (M := M) (K := K) (fun _ _ => rfl) rfl (fun _ _ => rfl) rfl h_portq, ?_, ?_, ?_⟩
  · intro i i0 i1
    have z := h_persons i i0 i1
    unfold enC enR
    by_cases e : i = q
    · subst e
      simp only [qw_ap, false_and, true_and, and_true, and_false, and_self, if_false, if_true, reduceIte, Nat.reduceEqDiff, Int.reduceEq]
      exact ⟨z.2.2.2.1, z.2.2.2.2.1, z.2.2.2.2.2.2.1, z.2.2.2.2.2.2.2⟩
    · simp only [qw_ap, e, false_and, true_and, and_true, and_false, and_self, if_false, if_true, reduceIte, Nat.reduceEqDiff, Int.reduceEq]
      exact z
  · intro i i0 i1
    have z := h_personb i i0 i1
    unfold enC enR
    by_cases e : i = q
    · subst e
      have w := h_portw p p0 p1
      have v := h_portq p p0 p1
      simp only [qw_ap, false_and, true_and, and_true, and_false, and_self, if_false, if_true, reduceIte, Nat.reduceEqDiff, Int.reduceEq]
      refine ⟨by rcases hroom with e | e <;> omega, by rcases hroom with e | e <;> omega, z.2.2.1, t0, t1, ?_⟩
      unfold peX peY
      by_cases g : room = (K 2156 9 0)
      · rw [if_pos g, if_pos (g.trans hz), if_pos (g.trans hz)]
        exact ⟨rfl, rfl⟩
      · have gz : ¬ room = (M 51 3 0) := fun x => g (x.trans hz.symm)
        rw [if_neg g]
        simp only [if_neg gz]
        by_cases g2 : room = M 825 (13 * p) 0
        · simp only [if_pos g2]
          have u := v.1 (fun x => g (g2.trans x))
          exact ⟨u.1, u.2.1, u.2.2.1, u.2.2.2.1, u.2.2.2.2.trans g2.symm⟩
        · simp only [if_neg g2]
          have g3 : room = M 825 (13 * p + 1) 0 := hroom.elim (fun x => absurd x g2) (fun x => x)
          have u := v.2 (fun x => g (g3.trans x))
          exact ⟨u.1, u.2.1, u.2.2.1, u.2.2.2.1, u.2.2.2.2.trans g3.symm⟩
    · simp only [qw_ap, e, false_and, true_and, and_true, and_false, and_self, if_false, if_true, reduceIte, Nat.reduceEqDiff, Int.reduceEq]
      exact z
  · intro i i0 i1
    have z := h_personz i i0 i1
    have e : ¬ i = q := by
      have i0 : (M 756 7 0) ≤ i := i0
      omega
    unfold enC enR
    simp only [qw_ap, e, false_and, true_and, and_true, and_false, and_self, if_false, if_true, reduceIte, Nat.reduceEqDiff, Int.reduceEq]
    exact z
theorem row_AK (h : AKr M K) (p0 : 0 ≤ p) (p1 : p < (M 824 3 0)) (hroom : room = M 825 (13 * p) 0 ∨ room = M 825 (13 * p + 1) 0) (hc : 0 ≤ c ∧ c < (M 824 8 0)) (m0 : 0 ≤ m) (m1 : m ≤ 100) (hn : M 825 (13 * p + 12) 0 < 20) (ho : M 825 (13 * p + 11) 0 ≠ -1) : AKr (lrC M p c room m) (lrR K p c room m) := by
  obtain ⟨h_portn, h_portw, h_portc, h_porto, h_portk, h_portr, h_portq, h_persons, h_personb, h_personz⟩ := h
  have qk := h_portk p p0 p1
  have e12 : (K 2298 p 0) = M 825 (13 * p + 12) 0 := qk.2.1
  have k0 : 0 ≤ M 825 (13 * p + 12) 0 := by omega
  have r5 : ∀ i f, f < 12 → 0 ≤ f → (lrC M p c room m) 825 (13 * i + f) 0 = M 825 (13 * i + f) 0 := by
    intro i f hf hf0
    unfold lrC
    simp only [qw_ap, false_and, true_and, and_true, and_false, and_self, if_false, if_true, reduceIte, Nat.reduceEqDiff, Int.reduceEq]
    rw [if_neg (by omega)]
  have r50 : ∀ i, (lrC M p c room m) 825 (13 * i) 0 = M 825 (13 * i) 0 := fun i => by
    have := r5 i 0 (by decide) (by decide)
    rw [Int.add_zero] at this
    exact this
  have r5n : (lrC M p c room m) 825 (-1) 0 = M 825 (-1) 0 := by
    unfold lrC
    simp only [qw_ap, false_and, true_and, and_true, and_false, and_self, if_false, if_true, reduceIte, Nat.reduceEqDiff, Int.reduceEq]
    rw [if_neg (by omega)]
  have r6n : (lrC M p c room m) 826 (-1) 0 = M 826 (-1) 0 := by
    unfold lrC
    simp only [qw_ap, false_and, true_and, and_true, and_false, and_self, if_false, if_true, reduceIte, Nat.reduceEqDiff, Int.reduceEq]
    rw [if_neg (by omega), if_neg (by omega), if_neg (by omega)]
  refine ⟨?_, ?_, ?_, ?_, ?_, ?_, ?_, R_persons_x (M := M) (K := K) rfl (fun _ _ => rfl) (fun _ _ => rfl) (fun _ _ => rfl) (fun _ _ => rfl) (fun _ _ => rfl) (fun _ _ => rfl) (fun _ _ => rfl) (fun _ _ => rfl) (fun _ _ => rfl) h_persons, R_personb_x (M := M) (K := K) rfl (fun _ _ => rfl) rfl rfl (fun _ _ => rfl) (fun _ _ => rfl) (fun _ _ => rfl) (fun _ _ => rfl) (fun _ _ => rfl) h_personb, R_personz_x (M := M) (K := K) rfl (fun _ _ => rfl) (fun _ _ => rfl) (fun _ _ => rfl) h_personz⟩
  · unfold R_portn
    rw [r5n, r6n]
    exact h_portn
  · intro i i0 i1
    rw [r50, r5 _ _ (by decide) (by decide), r5 _ _ (by decide) (by decide), r5 _ _ (by decide) (by decide)]
    exact h_portw i i0 i1
  · intro i i0 i1
    rw [r5 _ _ (by decide) (by decide), r5 _ _ (by decide) (by decide), r5 _ _ (by decide) (by decide), r5 _ _ (by decide) (by decide)]
    exact h_portc i i0 i1
  · intro i i0 i1
    rw [r5 _ _ (by decide) (by decide), r5 _ _ (by decide) (by decide), r5 _ _ (by decide) (by decide)]
    exact h_porto i i0 i1
  · intro i i0 i1
    have z := h_portk i i0 i1
    rw [r5 _ _ (by decide) (by decide)]
    unfold lrC lrR
    by_cases e : i = p
    · subst e
      simp only [qw_ap, false_and, true_and, and_true, and_false, and_self, if_false, if_true, reduceIte, Nat.reduceEqDiff, Int.reduceEq]
      refine ⟨Or.inr ?_, ?_⟩
      · rcases z.1 with x | x
        · exact absurd x.2.1 ho
        · exact x
      · show (K 2298 i 0) + 1 = _ ∧ 0 ≤ (K 2298 i 0) + 1 ∧ (K 2298 i 0) + 1 ≤ 20
        omega
    · simp only [qw_ap, e, false_and, true_and, and_true, and_false, and_self, if_false, if_true, reduceIte, Nat.reduceEqDiff, Int.reduceEq]
      rw [if_neg (by omega)]
      exact z
  · intro i k i0 i1 k0 k1
    rw [show (lrR K p c room m) 2289 i 0 = K 2289 i 0 from rfl, show (lrR K p c room m) 2290 i 0 = K 2290 i 0 from rfl]
    have k1 : k < (lrR K p c room m) 2298 i 0 := k1
    unfold lrR at k1 ⊢
    unfold lrC
    simp only [qw_ap, false_and, true_and, and_true, and_false, and_self, if_false, if_true, reduceIte, Nat.reduceEqDiff, Int.reduceEq] at k1 ⊢
    have kk : k ≤ 20 := by
      by_cases e : i = p
      · rw [if_pos e] at k1
        omega
      · rw [if_neg e] at k1
        have z := h_portk i i0 i1
        omega
    rw [← e12]
    by_cases e : i = p ∧ k = (K 2298 p 0)
    · have w := h_portw p p0 p1
      rw [e.1, e.2]
      have f1 : ¬ (3 * (20 * p + (K 2298 p 0)) = 3 * (20 * p + (K 2298 p 0)) + 2) := by omega
      have f2 : ¬ (3 * (20 * p + (K 2298 p 0)) = 3 * (20 * p + (K 2298 p 0)) + 1) := by omega
      have f3 : ¬ (3 * (20 * p + (K 2298 p 0)) + 1 = 3 * (20 * p + (K 2298 p 0)) + 2) := by omega
      have f4 : ¬ (3 * (20 * p + (K 2298 p 0)) + 1 = 3 * (20 * p + (K 2298 p 0))) := by omega
      have f5 : ¬ (3 * (20 * p + (K 2298 p 0)) + 2 = 3 * (20 * p + (K 2298 p 0)) + 1) := by omega
      have f6 : ¬ (3 * (20 * p + (K 2298 p 0)) + 2 = 3 * (20 * p + (K 2298 p 0))) := by omega
      simp only [f1, f2, f3, f4, f5, f6, if_true, if_false, reduceIte, true_and]
      refine ⟨hc.1, hc.2, ?_, m0, m1⟩
      rw [w.1, w.2.1]
      exact hroom
    · have k2 : k < (K 2298 i 0) := by
        by_cases e2 : i = p
        · rw [if_pos e2] at k1
          rw [e2]
          omega
        · rw [if_neg e2] at k1
          exact k1
      have k3 : k < 20 := by
        have z := h_portk i i0 i1
        omega
      have ne : ¬ (20 * i + k = 20 * p + (K 2298 p 0)) := by omega
      have f1 : ¬ (3 * (20 * i + k) = 3 * (20 * p + (K 2298 p 0)) + 2) := by omega
      have f2 : ¬ (3 * (20 * i + k) = 3 * (20 * p + (K 2298 p 0)) + 1) := by omega
      have f3 : ¬ (3 * (20 * i + k) = 3 * (20 * p + (K 2298 p 0))) := by omega
      have f4 : ¬ (3 * (20 * i + k) + 1 = 3 * (20 * p + (K 2298 p 0)) + 2) := by omega
      have f5 : ¬ (3 * (20 * i + k) + 1 = 3 * (20 * p + (K 2298 p 0)) + 1) := by omega
      have f6 : ¬ (3 * (20 * i + k) + 1 = 3 * (20 * p + (K 2298 p 0))) := by omega
      have f7 : ¬ (3 * (20 * i + k) + 2 = 3 * (20 * p + (K 2298 p 0)) + 2) := by omega
      have f8 : ¬ (3 * (20 * i + k) + 2 = 3 * (20 * p + (K 2298 p 0)) + 1) := by omega
      have f9 : ¬ (3 * (20 * i + k) + 2 = 3 * (20 * p + (K 2298 p 0))) := by omega
      simp only [ne, f1, f2, f3, f4, f5, f6, f7, f8, f9, if_false, reduceIte]
      exact h_portr i k i0 i1 k0 k2
  · intro i i0 i1
    rw [r50, r5 _ _ (by decide) (by decide), r5 _ _ (by decide) (by decide), r5 _ _ (by decide) (by decide), r5 _ _ (by decide) (by decide), r5 _ _ (by decide) (by decide)]
    exact h_portq i i0 i1
theorem let_both (h : AKr M K) (t5 : (M 824 12 0) ≤ 512) (h_lines : R_lines M K) (h_ends : R_ends M K) (h_cardn : R_cardn M K) (h_cards : R_cards M K) (h_personn : R_personn M K) (hz : (K 2156 9 0) = (M 51 3 0)) (hs : 0 ≤ (M 51 3 0)) (p0 : 0 ≤ p) (p1 : p < (M 824 3 0)) (hroom : room = M 825 (13 * p) 0 ∨ room = M 825 (13 * p + 1) 0) (hc : 0 ≤ c ∧ c < (M 824 8 0)) (t0 : 0 ≤ t) (t6 : t ≤ 6000) (hC : (M 6 12 0) = t) (hM : (M 824 17 0) = t) (hK : (K 2156 2 0) = t) (hr : (M 824 18 0) = rl) (hr2 : qf_X18_isReleased 20000 K = some rl2) (hr3 : rl = 0 ↔ rl2 = 0) (hn : rl = 0 → M 825 (13 * p + 11) 0 ≠ -1 → M 825 (13 * p + 12) 0 < 20) : ∃ S T, qf_X0_letIn 20000 c p room M = some ((), S) ∧ qf_X18_let 20000 c p room K = some ((), T) ∧ AKr S T ∧ S 825 (13 * p + 11) 0 = M 825 (13 * p + 11) 0 ∧ S 825 (13 * p + 12) 0 ≤ M 825 (13 * p + 12) 0 + 1 ∧ S 825 (13 * p) 0 = M 825 (13 * p) 0 ∧ S 825 (13 * p + 1) 0 = M 825 (13 * p + 1) 0 := by
  have hh := h
  obtain ⟨h_portn, h_portw, h_portc, h_porto, h_portk, h_portr, h_portq, h_persons, h_personb, h_personz⟩ := hh
  have hp := pnM_of h_portn
  have s_portn := h_portn
  unfold R_portn at s_portn
  have s_cardn := h_cardn
  unfold R_cardn at s_cardn
  have s_personn := h_personn
  unfold R_personn at s_personn
  have qk := h_portk p p0 p1
  have qc := h_cards c hc.1 hc.2
  have hc60 : 0 ≤ c ∧ c < 60 := by omega
  have hp14 : 0 ≤ p ∧ p < 1400 := by omega
  have hpe : 0 ≤ (M 828 c 0) ∧ (M 828 c 0) < (M 756 7 0) := by omega
  have hpe40 : 0 ≤ (M 828 c 0) ∧ (M 828 c 0) < 40 := by omega
  have eo : qf_X0_isOff 20000 p M = some (if M 825 (13 * p + 11) 0 = -1 then 0 else 1) := by
    unfold qf_X0_isOff
    rw [factOf_r hp p0 p1 (by decide) (by decide)]
    show (if M 825 (13 * p + 11) 0 = -1 then some 0 else some 1) = _
    split <;> rfl
  have c15 : qf_X0_letIn_J15 20000 c p room M = some ((), enC M (M 828 c 0) room (peX M p room) (peY M p room) t) := by
    unfold qf_X0_letIn_J15
    rw [if_pos hc60, hM, comeIn_r hp p0 p1 hpe40]
    rfl
  have r19 : qf_X18_let_J19 20000 c p room K = some ((), enR K (M 828 c 0) room (peX M p room) (peY M p room) t) := by
    unfold qf_X18_let_J19
    rw [if_pos hc60, qc.1, enter_r h_lines h_ends h_portn h_portw h_portc hz p0 p1 hpe40 hK]
    rfl
  have ent : AKr (enC M (M 828 c 0) room (peX M p room) (peY M p room) t) (enR K (M 828 c 0) room (peX M p room) (peY M p room) t) := enter_AK h h_personn hz hs p0 p1 hroom hpe t0 (by omega)
  unfold qf_X0_letIn qf_X18_let
  rw [hr, if_pos hp14, eo, hr2]
  by_cases g1 : rl = 0
  · rw [if_pos g1]
    by_cases g2 : M 825 (13 * p + 11) 0 = -1
    · refine ⟨_, _, ?_, ?_, ent, rfl, ?_, rfl, rfl⟩
      · rw [if_pos g2]
        refine qW_e (qW_bind (qW_some ?_))
        rw [if_pos rfl]
        exact qW_v c15
      · rw [if_pos (by omega)]
        exact r19
      · show M 825 (13 * p + 12) 0 ≤ M 825 (13 * p + 12) 0 + 1
        omega
    · have hn2 := hn g1 g2
      have e0 : 0 ≤ M 825 (13 * p + 12) 0 := by omega
      have ek : (K 2298 p 0) = M 825 (13 * p + 12) 0 := qk.2.1
      have i1 : w32 (p * 20) = 20 * p := (w32_id (by omega) (by omega)).trans (by omega)
      have i2 : w32 (20 * p + M 825 (13 * p + 12) 0) = 20 * p + M 825 (13 * p + 12) 0 := w32_id (by omega) (by omega)
      have i3 : w32 (3 * (20 * p + M 825 (13 * p + 12) 0)) = 3 * (20 * p + M 825 (13 * p + 12) 0) := w32_id (by omega) (by omega)
      have i4 : w32 (3 * (20 * p + M 825 (13 * p + 12) 0) + 1) = 3 * (20 * p + M 825 (13 * p + 12) 0) + 1 := w32_id (by omega) (by omega)
      have i5 : w32 (3 * (20 * p + M 825 (13 * p + 12) 0) + 2) = 3 * (20 * p + M 825 (13 * p + 12) 0) + 2 := w32_id (by omega) (by omega)
      have i6 : w32 (M 825 (13 * p + 12) 0 + 1) = M 825 (13 * p + 12) 0 + 1 := w32_id (by omega) (by omega)
      have i7 : w32 (20 * p) = 20 * p := w32_id (by omega) (by omega)
      have e60 : Int.tdiv t 60 = t / 60 := Int.tdiv_eq_ediv_of_nonneg t0
      refine ⟨lrC M p c room (t / 60), lrR K p c room (t / 60), ?_, ?_, row_AK h p0 p1 hroom hc (by omega) (by omega) hn2 g2, ?_, ?_, ?_, ?_⟩
      · rw [if_neg g2, factOf_r hp p0 p1 (by decide) (by decide)]
        refine qW_e (qW_bind (qW_some ?_))
        rw [if_neg (by decide)]
        refine qW_bind (qW_some ?_)
        rw [if_neg (by omega), i1, i2, i3, i4, i5, i6, if_pos (by omega)]
        refine qW_bnd ?_
        rw [if_pos (by show 0 ≤ 3 * (20 * p + M 825 (13 * p + 12) 0) + 1 ∧ 3 * (20 * p + M 825 (13 * p + 12) 0) + 1 < (qw M 826 (3 * (20 * p + M 825 (13 * p + 12) 0)) 0 c) 826 (-1) 0; rw [qw_i (by omega)]; omega)]
        refine qW_bnd ?_
        rw [if_pos (by show 0 ≤ 3 * (20 * p + M 825 (13 * p + 12) 0) + 2 ∧ 3 * (20 * p + M 825 (13 * p + 12) 0) + 2 < (qw (qw M 826 (3 * (20 * p + M 825 (13 * p + 12) 0)) 0 c) 826 (3 * (20 * p + M 825 (13 * p + 12) 0) + 1) 0 room) 826 (-1) 0; rw [qw_i (by omega), qw_i (by omega)]; omega)]
        refine qW_bnd ?_
        show qW ((qf_X0_setFact 20000 p 12 (M 825 (13 * p + 12) 0 + 1) (qw (qw (qw M 826 (3 * (20 * p + M 825 (13 * p + 12) 0)) 0 c) 826 (3 * (20 * p + M 825 (13 * p + 12) 0) + 1) 0 room) 826 (3 * (20 * p + M 825 (13 * p + 12) 0) + 2) 0 (Int.tdiv (M 824 17 0) 60))).bind _) _
        rw [setFact_r (M := qw (qw (qw M 826 (3 * (20 * p + M 825 (13 * p + 12) 0)) 0 c) 826 (3 * (20 * p + M 825 (13 * p + 12) 0) + 1) 0 room) 826 (3 * (20 * p + M 825 (13 * p + 12) 0) + 2) 0 (Int.tdiv (M 824 17 0) 60)) hp p0 p1 (by decide) (by decide), hM, e60]
        exact qW_some rfl
      · rw [if_neg (by omega)]
        refine qW_e (qW_bind (qW_some ?_))
        rw [if_pos (hr3.mp g1), if_pos hp14, i7, ek, i2, if_pos (by omega)]
        refine qW_bnd ?_
        rw [if_pos (by omega)]
        refine qW_bnd ?_
        rw [if_pos (by omega)]
        refine qW_bnd ?_
        rw [if_pos hp14, if_pos hp14]
        refine qW_bnd (qW_some ?_)
        show ((), qw (qw (qw (qw K 2299 (20 * p + M 825 (13 * p + 12) 0) 0 c) 2300 (20 * p + M 825 (13 * p + 12) 0) 0 room) 2301 (20 * p + M 825 (13 * p + 12) 0) 0 (Int.tdiv (K 2156 2 0) 60)) 2298 p 0 (w32 ((K 2298 p 0) + 1))) = _
        unfold lrR
        rw [ek, hK, e60, i6]
      · unfold lrC
        rw [qw_i (by omega)]
        rfl
      · unfold lrC
        rw [qw_s]
        omega
      · unfold lrC
        rw [qw_i (by omega)]
        rfl
      · unfold lrC
        rw [qw_i (by omega)]
        rfl
  · rw [if_neg g1]
    refine ⟨_, _, c15, ?_, ent, rfl, ?_, rfl, rfl⟩
    · by_cases g2 : (K 2297 p 0) = 2147483647
      · rw [if_pos g2]
        exact r19
      · rw [if_neg g2]
        show (if rl2 = 0 then _ else _) = _
        rw [if_neg (fun x => g1 (hr3.mpr x))]
        exact r19
    · show M 825 (13 * p + 12) 0 ≤ M 825 (13 * p + 12) 0 + 1
      omega
end LT
