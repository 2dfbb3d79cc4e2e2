section AIR2
variable {M K T : qm} {a b c d k v x1 x2 x3 : Int}
def LKK (M K : qm) : Prop := R_portn M K ∧ R_lockb M K ∧ R_lockr M K ∧ R_locku M K
theorem sm_lk {j : Int} (h : lkE K j a b) : lkE K j c d ↔ smP a b c d := by
  unfold lkE smP at *
  constructor
  · rintro (⟨x, y⟩ | ⟨x, y⟩) <;> rcases h with ⟨z, w⟩ | ⟨z, w⟩
    · exact Or.inl ⟨x.symm.trans z, y.symm.trans w⟩
    · exact Or.inr ⟨x.symm.trans z, y.symm.trans w⟩
    · exact Or.inr ⟨y.symm.trans w, x.symm.trans z⟩
    · exact Or.inl ⟨y.symm.trans w, x.symm.trans z⟩
  · rintro (⟨rfl, rfl⟩ | ⟨rfl, rfl⟩)
    · exact h
    · exact h.elim (fun x => Or.inr x) (fun x => Or.inl x)
theorem laS_portn (h : R_portn M K) (a0 : 0 ≤ a) (a1 : a < (M 824 3 0)) (b0 : 0 ≤ b) (b1 : b < (M 824 3 0)) : R_portn (laS M a b v) K := by
  have q := lk_ix h a0 a1 b0 b1
  have q2 := lk_ix h b0 b1 a0 a1
  unfold laS
  exact portn_l (portn_l h q.1) q2.1
/-- nothing new: the bit was so -/
theorem air_same (h : LKK M K) (a0 : 0 ≤ a) (a1 : a < (M 824 3 0)) (b0 : 0 ≤ b) (b1 : b < (M 824 3 0)) (hv : alk M a b = true ↔ v ≠ 0) : LKK (laS M a b v) K := by
  obtain ⟨h_portn, hb, hr, hu⟩ := h
  refine ⟨laS_portn h_portn a0 a1 b0 b1, ?_, hr, hu⟩
  intro c d c0 c1 d0 d1
  rw [laS_t h_portn a0 a1 b0 b1 c0 c1 d0 d1]
  have z := hb c d c0 c1 d0 d1
  have w := hb a b a0 a1 b0 b1
  by_cases g : smP a b c d
  · have e : alk M c d = true ↔ alk M a b = true := by
      rw [z, w]
      constructor
      · rintro ⟨j, j0, j1, j2⟩
        refine ⟨j, j0, j1, (sm_lk j2).mpr ?_⟩
        rcases g with ⟨rfl, rfl⟩ | ⟨rfl, rfl⟩
        · exact Or.inl ⟨rfl, rfl⟩
        · exact Or.inr ⟨rfl, rfl⟩
      · rintro ⟨j, j0, j1, j2⟩
        exact ⟨j, j0, j1, (sm_lk j2).mpr g⟩
    rw [← z, e, hv]
    exact ⟨fun x => x.elim (fun y => y.2) (fun y => absurd g y.1), fun x => Or.inl ⟨g, x⟩⟩
  · rw [← z]
    exact ⟨fun x => x.elim (fun y => absurd y.1 g) (fun y => y.2), fun x => Or.inr ⟨g, x⟩⟩
/-- a lock more -/
theorem air_add (h : LKK M K) (hab : a ≠ b) (a0 : 0 ≤ a) (a1 : a < (M 824 3 0)) (b0 : 0 ≤ b) (b1 : b < (M 824 3 0)) (hv : v ≠ 0) (hn : ∀ j, 0 ≤ j → j < (K 2156 24 0) → ¬ lkE K j a b) (t0 : (T 2156 24 0) = (K 2156 24 0) + 1) (tA : ∀ i, (T 2302 i 0) = if i = (K 2156 24 0) then a else (K 2302 i 0)) (tB : ∀ i, (T 2303 i 0) = if i = (K 2156 24 0) then b else (K 2303 i 0)) (tp : (T 2156 10 0) = (K 2156 10 0)) : LKK (laS M a b v) T := by
  obtain ⟨h_portn, hb, hr, hu⟩ := h
  have old : ∀ j c d, j ≠ (K 2156 24 0) → (lkE T j c d ↔ lkE K j c d) := by
    intro j c d hj
    unfold lkE
    rw [tA, tB, if_neg hj, if_neg hj]
  have new : lkE T (K 2156 24 0) a b := by
    unfold lkE
    rw [tA, tB, if_pos rfl, if_pos rfl]
    exact Or.inl ⟨rfl, rfl⟩
  have n0 := hu.1
  refine ⟨?_, ?_, ?_, ?_, ?_⟩
  · have q := laS_portn (v := v) h_portn a0 a1 b0 b1
    unfold R_portn at q ⊢
    rw [tp]
    exact q
  · intro c d c0 c1 d0 d1
    rw [laS_t h_portn a0 a1 b0 b1 c0 c1 d0 d1, t0]
    have z := hb c d c0 c1 d0 d1
    by_cases g : smP a b c d
    · refine ⟨fun _ => ⟨(K 2156 24 0), n0, by omega, (sm_lk new).mpr g⟩, fun _ => Or.inl ⟨g, hv⟩⟩
    · constructor
      · rintro (x | x)
        · exact absurd x.1 g
        · obtain ⟨j, j0, j1, j2⟩ := z.mp x.2
          exact ⟨j, j0, by omega, (old j c d (by omega)).mpr j2⟩
      · rintro ⟨j, j0, j1, j2⟩
        by_cases e : j = (K 2156 24 0)
        · rw [e] at j2
          exact absurd ((sm_lk new).mp j2) g
        · exact Or.inr ⟨g, z.mpr ⟨j, j0, by omega, (old j c d e).mp j2⟩⟩
  · intro j j0 j1
    rw [t0] at j1
    rw [tA, tB]
    by_cases e : j = (K 2156 24 0)
    · rw [if_pos e, if_pos e]
      exact ⟨a0, a1, b0, b1, hab⟩
    · rw [if_neg e, if_neg e]
      exact hr j j0 (by omega)
  · rw [t0]
    omega
  · intro j i j0 ji i1
    rw [t0] at i1
    rw [tA, tA, tB, tB, if_neg (show ¬ j = (K 2156 24 0) by omega), if_neg (show ¬ j = (K 2156 24 0) by omega)]
    by_cases e : i = (K 2156 24 0)
    · rw [if_pos e, if_pos e]
      exact fun x => hn j j0 (by omega) x
    · rw [if_neg e, if_neg e]
      exact hu.2 j i j0 ji (by omega)
/-- a lock less: the last one takes its place -/
theorem air_del (h : LKK M K) (a0 : 0 ≤ a) (a1 : a < (M 824 3 0)) (b0 : 0 ≤ b) (b1 : b < (M 824 3 0)) (k0 : 0 ≤ k) (k1 : k < (K 2156 24 0)) (hk : lkE K k a b) (t0 : (T 2156 24 0) = (K 2156 24 0) - 1) (tA : ∀ i, (T 2302 i 0) = if i = k then (K 2302 ((K 2156 24 0) - 1) 0) else (K 2302 i 0)) (tB : ∀ i, (T 2303 i 0) = if i = k then (K 2303 ((K 2156 24 0) - 1) 0) else (K 2303 i 0)) (tp : (T 2156 10 0) = (K 2156 10 0)) : LKK (laS M a b 0) T := by
  obtain ⟨h_portn, hb, hr, hu⟩ := h
  have old : ∀ j c d, j ≠ k → (lkE T j c d ↔ lkE K j c d) := by
    intro j c d hj
    unfold lkE
    rw [tA, tB, if_neg hj, if_neg hj]
  have at_k : ∀ c d, lkE T k c d ↔ lkE K ((K 2156 24 0) - 1) c d := by
    intro c d
    unfold lkE
    rw [tA, tB, if_pos rfl, if_pos rfl]
  have uq : ∀ j c d, 0 ≤ j → j < (K 2156 24 0) → lkE K j c d → smP a b c d → j = k := by
    intro j c d j0 j1 h1 h2
    have h3 : lkE K k c d := (sm_lk hk).mpr h2
    have h4 : ∀ i l, lkE K i c d → lkE K l c d → ((K 2302 i 0) = (K 2302 l 0) ∧ (K 2303 i 0) = (K 2303 l 0)) ∨ ((K 2302 i 0) = (K 2303 l 0) ∧ (K 2303 i 0) = (K 2302 l 0)) := by
      intro i l x y
      unfold lkE at x y
      omega
    by_cases e : j = k
    · exact e
    · by_cases e2 : j < k
      · exact absurd (h4 j k h1 h3) (hu.2 j k j0 e2 k1)
      · exact absurd (h4 k j h3 h1) (hu.2 k j k0 (by omega) j1)
  refine ⟨?_, ?_, ?_, ?_, ?_⟩
  · have q := laS_portn (v := 0) h_portn a0 a1 b0 b1
    unfold R_portn at q ⊢
    rw [tp]
    exact q
  · intro c d c0 c1 d0 d1
    rw [laS_t h_portn a0 a1 b0 b1 c0 c1 d0 d1, t0]
    have z := hb c d c0 c1 d0 d1
    by_cases g : smP a b c d
    · constructor
      · rintro (x | x)
        · exact absurd rfl x.2
        · exact absurd g x.1
      · rintro ⟨j, j0, j1, j2⟩
        exfalso
        by_cases e : j = k
        · rw [e] at j2
          have := uq _ c d (by omega) (by omega) ((at_k c d).mp j2) g
          omega
        · exact e (uq j c d j0 (by omega) ((old j c d e).mp j2) g)
    · constructor
      · rintro (x | x)
        · exact absurd x.1 g
        · obtain ⟨j, j0, j1, j2⟩ := z.mp x.2
          by_cases e : j = (K 2156 24 0) - 1
          · rw [e] at j2
            have kn : k ≠ (K 2156 24 0) - 1 := by
              intro y
              rw [y] at hk
              exact g ((sm_lk hk).mp j2)
            exact ⟨k, k0, by omega, (at_k c d).mpr j2⟩
          · have jk : j ≠ k := by
              intro y
              rw [y] at j2
              exact g ((sm_lk hk).mp j2)
            exact ⟨j, j0, by omega, (old j c d jk).mpr j2⟩
      · rintro ⟨j, j0, j1, j2⟩
        refine Or.inr ⟨g, z.mpr ?_⟩
        by_cases e : j = k
        · rw [e] at j2
          exact ⟨(K 2156 24 0) - 1, by omega, by omega, (at_k c d).mp j2⟩
        · exact ⟨j, j0, by omega, (old j c d e).mp j2⟩
  · intro j j0 j1
    rw [t0] at j1
    rw [tA, tB]
    by_cases e : j = k
    · rw [if_pos e, if_pos e]
      exact hr _ (by omega) (by omega)
    · rw [if_neg e, if_neg e]
      exact hr j j0 (by omega)
  · rw [t0]
    omega
  · intro j i j0 ji i1
    rw [t0] at i1
    rw [tA, tA, tB, tB]
    by_cases e : j = k
    · rw [if_pos e, if_pos e, if_neg (show ¬ i = k by omega), if_neg (show ¬ i = k by omega)]
      have q := hu.2 i ((K 2156 24 0) - 1) (by omega) (by omega) (by omega)
      omega
    · rw [if_neg e, if_neg e]
      by_cases e2 : i = k
      · rw [if_pos e2, if_pos e2]
        exact hu.2 j ((K 2156 24 0) - 1) j0 (by omega) (by omega)
      · rw [if_neg e2, if_neg e2]
        exact hu.2 j i j0 ji (by omega)
theorem LKK_A {w : Int} (h : LKK M K) : LKK (qw M 2332 0 0 w) K := h
theorem LKK_K {w : Int} (h : LKK M K) : LKK M (qw K 2156 0 0 w) := h
theorem op_airlock (b3 : x3 = 0 ∨ x3 = 1) (h_built : R_built M K) (h : LKK M K) (l5 : (K 2156 24 0) < 4100) : oK2 cB (qf_L_airlock 20000 x1 x2 x3 M) (qf_X18_airlock 20000 x1 x2 x3 K) (fun M' K' => LKK M' K') := by
  have s_built := h_built
  unfold R_built at s_built
  have h_portn := h.1
  have s_portn := h_portn
  unfold R_portn at s_portn
  have n0 := h.2.2.2.1
  have w1 : w32 ((M 824 3 0) - 1) = (M 824 3 0) - 1 := w32_id (by omega) (by omega)
  unfold oK2
  by_cases hx : (0 ≤ x1 ∧ x1 < (M 824 3 0)) ∧ 0 ≤ x2 ∧ x2 < (M 824 3 0)
  · obtain ⟨⟨a0, a1⟩, b0, b1⟩ := hx
    have eA := setAirlock_r (v := x3) h_portn a0 a1 b0 b1
    obtain ⟨k, eL, hk⟩ := lockOf_r (K := qw K 2156 0 0 0) (a := x1) (b := x2) n0 (Int.le_of_lt l5)
    have z := h.2.1 x1 x2 a0 a1 b0 b1
    have m1 : w32 ((K 2156 24 0) - 1) = (K 2156 24 0) - 1 := w32_id (by omega) (by omega)
    have m2 : w32 ((K 2156 24 0) + 1) = (K 2156 24 0) + 1 := w32_id (by omega) (by omega)
    have hk : (k = -1 ∧ ∀ j, 0 ≤ j → j < (K 2156 24 0) → ¬ lkE K j x1 x2) ∨ (0 ≤ k ∧ k < (K 2156 24 0) ∧ lkE K k x1 x2) := hk
    rcases hk with ⟨k1, k2⟩ | ⟨k1, k2, k3⟩
    · have za : ¬ alk M x1 x2 = true := fun x => by
        obtain ⟨j, j0, j1, j2⟩ := z.mp x
        exact k2 j j0 j1 j2
      rw [if_neg za] at eA
      unfold qf_L_airlock qf_L_airlock_J18 qf_X11_airlock qf_X11_airlock_J25 qf_X11_airlock_J26 qf_X11_isPortal qf_X18_airlock qf_X18_airlock_J32 qf_X18_airlock_J33 qf_X18_airlock_J96 qf_X18_airlock_J129 qf_X18_airlock_J180
      repeat' first
        | ((with_reducible refine qW_eq eA ?_); (try dsimp only))
        | ((with_reducible refine qW_eq eL ?_); (try dsimp only))
        | with_reducible refine qW_within (fun _ => ?_) (fun _ _ => ?_)
        | with_reducible refine qW_isIn (fun _ => ?_) (fun _ _ => ?_)
        | with_reducible refine qW_na (fun _ => ?_) (fun _ => ?_)
        | with_reducible refine qW_ns (fun _ => ?_) (fun _ => ?_)
        | (with_reducible refine qW_goes (fun _ => ?_) (fun _ _ => ?_) (fun _ _ => ?_) <;> (try dsimp only) <;> (try simp only [qw_ap, qfl1_ap, qfl2_ap, qcp1_ap, qcp2_ap, false_and, true_and, and_true, and_false, and_self, if_false, if_true, reduceIte, Nat.reduceEqDiff, Int.reduceEq, Int.reduceNeg]))
        | (with_reducible refine qW_stays (by omega) (fun _ => ?_) (fun _ => ?_) <;> (try dsimp only) <;> (try simp only [qw_ap, qfl1_ap, qfl2_ap, qcp1_ap, qcp2_ap, false_and, true_and, and_true, and_false, and_self, if_false, if_true, reduceIte, Nat.reduceEqDiff, Int.reduceEq, Int.reduceNeg]))
        | (exfalso; omega)
        | with_reducible refine qW_bind ?_
        | (with_reducible refine qW_bnd ?_; try simp only [qw_ap, qfl1_ap, qfl2_ap, qcp1_ap, qcp2_ap, false_and, true_and, and_true, and_false, and_self, if_false, if_true, reduceIte, Nat.reduceEqDiff, Int.reduceEq, Int.reduceNeg])
        | (with_reducible refine qW_some ?_; (try dsimp only); try simp only [qw_ap, qfl1_ap, qfl2_ap, qcp1_ap, qcp2_ap, false_and, true_and, and_true, and_false, and_self, if_false, if_true, reduceIte, Nat.reduceEqDiff, Int.reduceEq, Int.reduceNeg])
        | ((with_reducible refine qW_no ?_); omega)
        | with_reducible refine qW_pos rfl ?_
        | ((with_reducible refine qW_pos ?_ ?_); omega)
        | ((with_reducible refine qW_neg ?_ ?_); (first | omega | decide))
        | with_reducible refine qW_ite (fun _ => ?_) (fun _ => ?_)
        | dsimp only
      all_goals first
        | exact ⟨fun x => absurd x (by decide), LKK_K h⟩
        | exact ⟨fun _ => rfl, LKK_A (LKK_K (air_same h a0 a1 b0 b1 ⟨fun x => absurd x za, fun x => by omega⟩))⟩
        | skip
      all_goals (
        refine ⟨fun _ => rfl, LKK_A (air_add h (by omega) a0 a1 b0 b1 (by omega) k2 ?_ (fun i => ?_) (fun i => ?_) rfl)⟩
        · exact m2
        · simp only [qw_ap, false_and, true_and, and_true, and_false, and_self, if_false, if_true, reduceIte, Nat.reduceEqDiff, Int.reduceEq]
        · simp only [qw_ap, false_and, true_and, and_true, and_false, and_self, if_false, if_true, reduceIte, Nat.reduceEqDiff, Int.reduceEq])
    · have za : alk M x1 x2 = true := z.mpr ⟨k, k1, k2, k3⟩
      rw [if_pos za] at eA
      unfold qf_L_airlock qf_L_airlock_J18 qf_X11_airlock qf_X11_airlock_J25 qf_X11_airlock_J26 qf_X11_isPortal qf_X18_airlock qf_X18_airlock_J32 qf_X18_airlock_J33 qf_X18_airlock_J96 qf_X18_airlock_J129 qf_X18_airlock_J180
      repeat' first
        | ((with_reducible refine qW_eq eA ?_); (try dsimp only))
        | ((with_reducible refine qW_eq eL ?_); (try dsimp only))
        | with_reducible refine qW_within (fun _ => ?_) (fun _ _ => ?_)
        | with_reducible refine qW_isIn (fun _ => ?_) (fun _ _ => ?_)
        | with_reducible refine qW_na (fun _ => ?_) (fun _ => ?_)
        | with_reducible refine qW_ns (fun _ => ?_) (fun _ => ?_)
        | (with_reducible refine qW_goes (fun _ => ?_) (fun _ _ => ?_) (fun _ _ => ?_) <;> (try dsimp only) <;> (try simp only [qw_ap, qfl1_ap, qfl2_ap, qcp1_ap, qcp2_ap, false_and, true_and, and_true, and_false, and_self, if_false, if_true, reduceIte, Nat.reduceEqDiff, Int.reduceEq, Int.reduceNeg]))
        | (with_reducible refine qW_stays (by omega) (fun _ => ?_) (fun _ => ?_) <;> (try dsimp only) <;> (try simp only [qw_ap, qfl1_ap, qfl2_ap, qcp1_ap, qcp2_ap, false_and, true_and, and_true, and_false, and_self, if_false, if_true, reduceIte, Nat.reduceEqDiff, Int.reduceEq, Int.reduceNeg]))
        | (exfalso; omega)
        | with_reducible refine qW_bind ?_
        | (with_reducible refine qW_bnd ?_; try simp only [qw_ap, qfl1_ap, qfl2_ap, qcp1_ap, qcp2_ap, false_and, true_and, and_true, and_false, and_self, if_false, if_true, reduceIte, Nat.reduceEqDiff, Int.reduceEq, Int.reduceNeg])
        | (with_reducible refine qW_some ?_; (try dsimp only); try simp only [qw_ap, qfl1_ap, qfl2_ap, qcp1_ap, qcp2_ap, false_and, true_and, and_true, and_false, and_self, if_false, if_true, reduceIte, Nat.reduceEqDiff, Int.reduceEq, Int.reduceNeg])
        | ((with_reducible refine qW_no ?_); omega)
        | with_reducible refine qW_pos rfl ?_
        | ((with_reducible refine qW_pos ?_ ?_); omega)
        | ((with_reducible refine qW_neg ?_ ?_); (first | omega | decide))
        | with_reducible refine qW_ite (fun _ => ?_) (fun _ => ?_)
        | dsimp only
      all_goals first
        | exact ⟨fun x => absurd x (by decide), LKK_K h⟩
        | exact ⟨fun _ => rfl, LKK_A (LKK_K (air_same h a0 a1 b0 b1 ⟨fun _ => by omega, fun _ => za⟩))⟩
        | skip
      all_goals (
        have e3 : x3 = 0 := by omega
        subst e3
        refine ⟨fun _ => rfl, LKK_A (air_del h a0 a1 b0 b1 k1 k2 k3 ?_ (fun i => ?_) (fun i => ?_) rfl)⟩
        · exact m1
        · simp only [qw_ap, m1, false_and, true_and, and_true, and_false, and_self, if_false, if_true, reduceIte, Nat.reduceEqDiff, Int.reduceEq]
        · simp only [qw_ap, m1, false_and, true_and, and_true, and_false, and_self, if_false, if_true, reduceIte, Nat.reduceEqDiff, Int.reduceEq])
  · unfold qf_L_airlock qf_L_airlock_J18 qf_X11_airlock qf_X11_airlock_J25 qf_X11_airlock_J26 qf_X11_isPortal qf_X18_airlock qf_X18_airlock_J32 qf_X18_airlock_J33 qf_X18_airlock_J96 qf_X18_airlock_J129 qf_X18_airlock_J180
    repeat' first
      | with_reducible refine qW_within (fun _ => ?_) (fun _ _ => ?_)
      | with_reducible refine qW_isIn (fun _ => ?_) (fun _ _ => ?_)
      | with_reducible refine qW_na (fun _ => ?_) (fun _ => ?_)
      | with_reducible refine qW_ns (fun _ => ?_) (fun _ => ?_)
      | (with_reducible refine qW_goes (fun _ => ?_) (fun _ _ => ?_) (fun _ _ => ?_) <;> (try dsimp only) <;> (try simp only [qw_ap, qfl1_ap, qfl2_ap, qcp1_ap, qcp2_ap, false_and, true_and, and_true, and_false, and_self, if_false, if_true, reduceIte, Nat.reduceEqDiff, Int.reduceEq, Int.reduceNeg]))
      | (with_reducible refine qW_stays (by omega) (fun _ => ?_) (fun _ => ?_) <;> (try dsimp only) <;> (try simp only [qw_ap, qfl1_ap, qfl2_ap, qcp1_ap, qcp2_ap, false_and, true_and, and_true, and_false, and_self, if_false, if_true, reduceIte, Nat.reduceEqDiff, Int.reduceEq, Int.reduceNeg]))
      | (exfalso; omega)
      | with_reducible refine qW_bind ?_
      | (with_reducible refine qW_bnd ?_; try simp only [qw_ap, qfl1_ap, qfl2_ap, qcp1_ap, qcp2_ap, false_and, true_and, and_true, and_false, and_self, if_false, if_true, reduceIte, Nat.reduceEqDiff, Int.reduceEq, Int.reduceNeg])
      | (with_reducible refine qW_some ?_; (try dsimp only); try simp only [qw_ap, qfl1_ap, qfl2_ap, qcp1_ap, qcp2_ap, false_and, true_and, and_true, and_false, and_self, if_false, if_true, reduceIte, Nat.reduceEqDiff, Int.reduceEq, Int.reduceNeg])
      | ((with_reducible refine qW_no ?_); omega)
      | with_reducible refine qW_pos rfl ?_
      | ((with_reducible refine qW_pos ?_ ?_); omega)
      | ((with_reducible refine qW_neg ?_ ?_); (first | omega | decide))
      | with_reducible refine qW_ite (fun _ => ?_) (fun _ => ?_)
      | dsimp only
    all_goals exact ⟨fun x => absurd x (by decide), LKK_K h⟩
end AIR2
