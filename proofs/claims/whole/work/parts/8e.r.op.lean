/-! ===== the call: matrix ===== -/
section MTo
variable {M K A W Z X Y B S M' K' : qm} {n i j k t P : Int} {m N : Nat}
/-- the new tables on both sides -/
def MTR (M' K' : qm) : Prop := R_mzones M' K' ∧ R_mzonep M' K' ∧ R_mrows M' K' ∧ R_mrow M' K' ∧ znC M' ∧ rwC M' ∧ rkC M' ∧ mactS M' K' ∧ ∀ a, 0 ≤ a → a < 20 → M' 1270 a 0 = 0 ∧ K' 2227 a 0 = 0 ∧ K' 2228 a 0 = -1 ∧ K' 2229 a 0 = 0 ∧ K' 2230 a 0 = 0
theorem mtr_of (hT : TBL P A Z) (hp : M' 1172 2 0 = P) (c1 : ∀ z y, 0 ≤ z → z < 20 → 0 ≤ y → y < 14 → M' 1176 z y = A 910 z y) (c2 : ∀ z y, 0 ≤ z → z < 20 → 0 ≤ y → y < 5 → M' 1197 z y = A 931 z y) (c3 : ∀ a, 0 ≤ a → a < 20 → M' 1270 a 0 = 0) (c4 : ∀ r y, 0 ≤ r → r < A 908 12 0 → 0 ≤ y → y < 3 → M' 1218 r y = A 952 r y) (c5 : M' 1172 9 0 = A 908 12 0) (c6 : ORD (fun a => M' 1197 a 2) (fun k => M' 1269 k 0) 20) (d1 : ∀ i, 0 ≤ i → i < 20 → ADP Z K' i) (d2 : K' 2208 21 0 = Z 2208 22 0) (d3 : ∀ r, 0 ≤ r → r < Z 2208 22 0 → K' 2224 r 0 = Z 2224 (50 + r) 0 ∧ K' 2225 r 0 = Z 2225 (50 + r) 0 ∧ K' 2226 r 0 = Z 2226 (50 + r) 0) : MTR M' K' := by
  obtain ⟨t1, t2, t3, t4, t5, t6, t7, t8, t9, t10⟩ := hT
  have told : ∀ z, 0 ≤ z → z < 20 → Z 2215 (20 + z) 0 = 1 → K' 2215 z 0 = 1 ∧ M' 1176 z 0 ≠ 0 := fun z z0 z1 h => by
    have q := t5 z z0 z1
    have d := d1 z z0 z1
    unfold ZNE at q
    unfold ADP at d
    rw [c1 z 0 z0 z1 (by decide) (by decide)]
    omega
  refine ⟨fun z z0 z1 => ?_, fun z k z0 z1 h k0 k1 => ?_, ⟨by omega, by omega, by omega⟩, fun r r0 r1 => ?_, fun z z0 z1 => ?_, ⟨by omega, by omega, fun r r0 r1 => ?_⟩, ⟨c6.1, Or.inr c6.2⟩, fun a a0 a1 => ?_, fun a a0 a1 => ?_⟩
  · have q := t5 z z0 z1
    have d := d1 z z0 z1
    unfold ZNE at q
    unfold ADP at d
    rw [c1 z 0 z0 z1 (by decide) (by decide), c1 z 1 z0 z1 (by decide) (by decide), d.1, d.2.1, d.2.2.1]
    rcases q with ⟨q1, q2, q3⟩ | ⟨q1, q2, q3, q4, q5, q6, _⟩
    · exact Or.inl ⟨q3, q1, q2⟩
    · exact Or.inr ⟨q1, q2, q3, q4, q5, q6⟩
  · have q := t5 z z0 z1
    have d := d1 z z0 z1
    unfold ZNE at q
    unfold ADP at d
    rw [d.1] at h
    rw [c1 z 1 z0 z1 (by decide) (by decide)] at k1
    rcases q with ⟨q1, q2, q3⟩ | ⟨q1, q2, q3, q4, q5, q6, q7⟩
    · omega
    · rw [c1 z (2 + k) z0 z1 (by omega) (by omega), hp, d.2.2.2.2.2.2.2.2.2.2.2.2 k k0 (by omega)]
      exact q7 k k0 k1
  · rw [c5] at r1
    have q := t10 r r0 r1
    unfold RWE at q
    obtain ⟨q1, q2, q3, q4, q5, q6, q7, q8, q9, q10, q11, q12⟩ := q
    obtain ⟨e1, e2, e3⟩ := d3 r r0 (by omega)
    rw [e1, e2, e3, c4 r 0 r0 r1 (by decide) (by decide), c4 r 1 r0 r1 (by decide) (by decide), c4 r 2 r0 r1 (by decide) (by decide), q1, q2, q3]
    have da := d1 _ q10 q11
    unfold ADP at da
    exact ⟨rfl, rfl, rfl, q4, q5, (told _ q4 q5 q6).1, q7, q8, fun z => (told _ z q8 (q9 z)).1, q10, q11, da.2.2.2.1.trans q12⟩
  · have q := t5 z z0 z1
    unfold ZNE at q
    rw [c1 z 1 z0 z1 (by decide) (by decide)]
    rcases q with ⟨q1, q2, q3⟩ | ⟨q1, q2, q3, q4, q5, q6, q7⟩
    · exact ⟨by omega, by omega, fun k k0 k1 => by omega⟩
    · refine ⟨by omega, q5, fun k k0 k1 => ?_⟩
      rw [c1 z (2 + k) z0 z1 (by omega) (by omega)]
      have := q7 k k0 k1
      omega
  · rw [c5] at r1
    have q := t10 r r0 r1
    unfold RWE at q
    obtain ⟨q1, q2, q3, q4, q5, q6, q7, q8, q9, q10, q11, q12⟩ := q
    rw [c4 r 0 r0 r1 (by decide) (by decide), c4 r 1 r0 r1 (by decide) (by decide)]
    refine ⟨q4, q5, (told _ q4 q5 q6).2, ?_⟩
    by_cases g : 0 ≤ A 952 r 1
    · exact Or.inr ⟨g, q8, (told _ g q8 (q9 g)).2⟩
    · exact Or.inl (by omega)
  · have q := t6 a a0 a1
    have d := d1 a a0 a1
    unfold ACE at q
    unfold ADP at d
    obtain ⟨_, _, _, w4, w5, w6, w7, w8, _⟩ := d
    rw [w4, w5, w6, w7, w8, c2 a 0 a0 a1 (by decide) (by decide), c2 a 1 a0 a1 (by decide) (by decide), c2 a 2 a0 a1 (by decide) (by decide), c2 a 3 a0 a1 (by decide) (by decide), c2 a 4 a0 a1 (by decide) (by decide)]
    rcases q with ⟨q1, q2, q3⟩ | ⟨q1, q2, q3, q4, q5, q6, q7, q8, q9, q10, q11⟩
    · exact Or.inl ⟨q3, q1⟩
    · exact Or.inr ⟨q2, q1, q3, by omega, by omega, q6, q7, by omega, by omega, q10, by omega⟩
  · have d := d1 a a0 a1
    unfold ADP at d
    obtain ⟨_, _, _, _, _, _, _, _, w9, w10, w11, w12, _⟩ := d
    exact ⟨c3 a a0 a1, w9, w10, w11, w12⟩
def MOC (M A : qm) : Prop := ∀ b x y, ¬ (b = 908 ∧ ((3 ≤ x ∧ x ≤ 8) ∨ x = 12)) → b ≠ 910 → b ≠ 931 → b ≠ 952 → b ≠ 2332 → A b x y = M b x y
def MOK (K Z : qm) : Prop := ∀ b x y, ¬ (b = 2156 ∧ x = 0) → ¬ (b = 2208 ∧ (x = 7 ∨ x = 10 ∨ x = 11 ∨ x = 22)) → b ≠ 2213 → b ≠ 2214 → ¬ ((b = 2215 ∨ b = 2216 ∨ b = 2217 ∨ (2219 ≤ b ∧ b ≤ 2223)) ∧ 20 ≤ x) → ¬ (b = 2218 ∧ 240 ≤ x) → ¬ (2224 ≤ b ∧ b ≤ 2226 ∧ 50 ≤ x) → Z b x y = K b x y
/-- besides the new tables all stays -/
def MTF (A W M' K' : qm) : Prop := MTR M' K' ∧ (∀ b x y, b ≠ 1176 → b ≠ 1197 → b ≠ 1270 → b ≠ 1218 → b ≠ 1269 → ¬ (b = 1172 ∧ x = 9) → b ≠ 2332 → M' b x y = A b x y) ∧ ∀ b x y, ¬ (adB b ∧ x < 20) → ¬ (b = 2218 ∧ x < 240) → ¬ (b = 2208 ∧ x = 21) → ¬ (2224 ≤ b ∧ b ≤ 2226 ∧ x < 50) → K' b x y = W b x y
theorem op_matrix (h_built : R_built M K) (h_mtextn : R_mtextn M K) (h_mtext : R_mtext M K) (h_mpoints : R_mpoints M K) (hL : LAT K) : oK2 cI (qf_L_matrix 20000 M) (qf_X18_matrix 20000 K) (fun M' K' => LAT K' ∧ ((MOC M M' ∧ MOK K K') ∨ (M 6 11 0 ≠ 0 ∧ ∃ A W, MOC M A ∧ MOK K W ∧ MTF A W M' K'))) := by
  have s_built := h_built
  unfold R_built at s_built
  have bb : ∀ {α β : Type} (a : α) (f : α → Option β), (some a).bind f = f a := fun _ _ => rfl
  by_cases g : M 6 11 0 = 0
  · have eC : qf_L_matrix 20000 M = some (1, M) := by
      unfold qf_L_matrix qf_X11_matrix qf_X11_needState
      rw [if_pos g, bb]
      (try dsimp only)
      rw [bb]
      (try dsimp only)
      rw [if_pos rfl]
    have eK : qf_X18_matrix 20000 K = some (0, qw K 2156 0 0 1) := by
      unfold qf_X18_matrix qf_X18_stays qbnd
      rw [show K 2156 1 0 = 0 by omega, if_pos rfl]
      (try dsimp only)
      rw [if_pos (Or.inl rfl), bb]
      (try dsimp only)
      rw [if_pos rfl]
    refine qW_at eC (qW_at eK ⟨(qw_s : qw K 2156 0 0 1 2156 0 0 = 1), fun y => absurd y (show ¬ (1 : Int) = 0 by decide), fun i i0 i1 => ?_, Or.inl ⟨fun _ _ _ _ _ _ _ _ => rfl, fun b x y z1 _ _ _ _ _ _ => ?_⟩⟩)
    · show qw K 2156 0 0 1 2223 i 0 = 0 ∨ qw K 2156 0 0 1 2223 i 0 = 1
      rw [qw_a (by decide)]
      exact hL i i0 i1
    · show qw K 2156 0 0 1 b x y = K b x y
      rw [qw_ap, if_neg (by omega)]
  · obtain ⟨K1, hK1⟩ : ∃ X, qw K 2156 0 0 0 = X := ⟨_, rfl⟩
    have fK1 : ∀ b x y, ¬ (b = 2156 ∧ x = 0) → K1 b x y = K b x y := fun b x y z => by rw [← hK1, qw_ap, if_neg (by omega)]
    have k0 : K1 2156 0 0 = 0 := by rw [← hK1]; exact qw_s
    have hb1 : K 2156 1 0 = 1 := by omega
    obtain ⟨P, hP⟩ : ∃ P, M 1172 2 0 = P := ⟨_, rfl⟩
    unfold R_mpoints at h_mpoints
    have h_tn : R_mtextn M K1 := by
      unfold R_mtextn at h_mtextn ⊢
      rw [fK1 2208 6 0 (by omega)]
      exact h_mtextn
    have h_t : R_mtext M K1 := fun i i0 i1 => by
      rw [fK1 2212 i 0 (by omega)]
      exact h_mtext i i0 i1
    obtain ⟨A, Z, fA, fZ, lZ, eR, h⟩ := read_both (P := P) h_tn h_t (by rw [fK1 2208 0 0 (by omega)]; omega) (by omega) (by omega) (fun i i0 i1 => by rw [fK1 2223 i 0 (by omega)]; exact hL i i0 i1)
    have eK : qf_X18_matrix 20000 K = (qf_X14_read_J73 20000 Z).bind (fun r6 => some (r6.1, r6.2)) := by
      unfold qf_X18_matrix qf_X18_stays qbnd
      rw [hb1, if_neg (by decide), hK1]
      (try dsimp only)
      rw [if_pos (Or.inr rfl), bb]
      (try dsimp only)
      rw [if_neg (by decide), eR]
    have stC : ∀ r, qf_X5_readSentences 20000 P M = some r → qf_L_matrix 20000 M = (if r.1 = 0 then some (0, qw r.2 2332 0 0 (w32 (-1 - r.2 908 4 0))) else (qf_X4_takeTables 20000 r.2).bind (fun r12 => some (0, qw r12.2 2332 0 0 (r12.2 1172 9 0)))) := fun r hr => by
      unfold qf_L_matrix qf_X11_matrix qf_X11_needState qbnd
      rw [if_neg g, bb]
      (try dsimp only)
      rw [hP, hr, bb]
      by_cases c : r.1 = 0
      · rw [if_pos c, if_pos c, bb]
      · rw [if_neg c, if_neg c]
        cases hq : qf_X4_takeTables 20000 r.2 with
        | none => rfl
        | some v => rfl
    have gA : MOC M A := fun b x y z1 z2 z3 z4 _ => fA b x y z1 z2 z3 z4
    have gZ : MOK K Z := fun b x y z1 z2 z3 z4 z5 z6 z7 => (fZ b x y z2 z3 z4 z5 z6 z7).trans (fK1 b x y z1)
    have z0 : Z 2156 0 0 = 0 := (fZ _ _ _ (by omega) (by omega) (by omega) (by omega) (by omega) (by omega)).trans k0
    rcases h with ⟨h1, w, w0, h2, h3⟩ | ⟨h1, h2, h3⟩
    · have eC := stC _ h1
      rw [if_pos rfl] at eC
      unfold qf_X14_read_J73 at eK
      rw [h3, if_neg (by omega), bb] at eK
      refine qW_at eC (qW_at eK ⟨z0, fun _ => ?_, lZ, Or.inl ⟨fun b x y z1 z2 z3 z4 z5 => ?_, gZ⟩⟩)
      · show cI (qw A 2332 0 0 (w32 (-1 - A 908 4 0)) 2332 0 0) (w32 (-1 - w))
        rw [h2]
        exact qw_s
      · show qw A 2332 0 0 (w32 (-1 - A 908 4 0)) b x y = M b x y
        rw [qw_a z5]
        exact gA b x y z1 z2 z3 z4 z5
    · have eC := stC _ h1
      rw [if_neg (show ¬ (1 : Int) = 0 by decide)] at eC
      unfold qf_X14_read_J73 at eK
      rw [h2, if_pos (by decide)] at eK
      have h3' := h3
      obtain ⟨t1, t2, t3, t4, t5, t6, t7, t8, t9, t10⟩ := h3
      obtain ⟨B, e3, c1, c2, c3, c4, c5, c6, c7⟩ := take_C t8 t9
      obtain ⟨Y, e4, d1, d2, d3, d4⟩ := madopt_K (Z := Z) (fun i i0 i1 => by have q := t5 i i0 i1; unfold ZNE at q; omega) (fun i i0 i1 => by have q := t6 i i0 i1; unfold ACE at q; omega) lZ (by omega) (by omega)
      rw [e3, bb] at eC
      rw [e4, bb, bb] at eK
      (try dsimp only at eC eK)
      obtain ⟨M', hM'⟩ : ∃ M', qw B 2332 0 0 (B 1172 9 0) = M' := ⟨_, rfl⟩
      have fM' : ∀ b x y, b ≠ 2332 → M' b x y = B b x y := fun b x y z => by rw [← hM', qw_a z]
      rw [hM'] at eC
      have y0 : Y 2156 0 0 = 0 := (d4 _ _ _ (fun z => by unfold adB at z; omega) (by omega) (by omega) (by omega)).trans z0
      refine qW_at eC (qW_at eK ⟨y0, fun _ => ?_, fun i i0 i1 => ?_, Or.inr ⟨g, A, Z, gA, gZ, ?_, fun b x y z1 z2 z3 z4 z5 z6 z7 => ?_, d4⟩⟩)
      · show cI (M' 2332 0 0) (Y 2208 21 0)
        unfold cI
        rw [← hM', qw_s, c5, d2]
        exact t7.symm
      · show Y 2223 i 0 = 0 ∨ Y 2223 i 0 = 1
        rw [d4 2223 i 0 (fun z => by omega) (by omega) (by omega) (by omega)]
        exact lZ i i0 i1
      · refine mtr_of h3' ?_ (fun z y q0 q1 q2 q3 => ?_) (fun z y q0 q1 q2 q3 => ?_) (fun a q0 q1 => ?_) (fun r y q0 q1 q2 q3 => ?_) ?_ ?_ d1 d2 d3
        · show M' 1172 2 0 = P
          rw [fM' _ _ _ (by decide), c7 _ _ _ (by decide) (by decide) (by decide) (by decide) (by decide) (by omega), gA _ _ _ (by omega) (by decide) (by decide) (by decide) (by decide)]
          exact hP
        · show M' 1176 z y = A 910 z y
          rw [fM' _ _ _ (by decide)]
          exact c1 z y q0 q1 q2 q3
        · show M' 1197 z y = A 931 z y
          rw [fM' _ _ _ (by decide)]
          exact c2 z y q0 q1 q2 q3
        · show M' 1270 a 0 = 0
          rw [fM' _ _ _ (by decide)]
          exact c3 a q0 q1
        · show M' 1218 r y = A 952 r y
          rw [fM' _ _ _ (by decide)]
          exact c4 r y q0 q1 q2 q3
        · show M' 1172 9 0 = A 908 12 0
          rw [fM' _ _ _ (by decide)]
          exact c5
        · have e5 : (fun a => M' 1197 a 2) = (fun a => B 1197 a 2) := funext (fun a => fM' _ _ _ (by decide))
          have e6 : (fun k => M' 1269 k 0) = (fun k => B 1269 k 0) := funext (fun a => fM' _ _ _ (by decide))
          show ORD (fun a => M' 1197 a 2) (fun k => M' 1269 k 0) 20
          rw [e5, e6]
          exact c6
      · show M' b x y = A b x y
        rw [fM' b x y z7]
        exact c7 b x y z1 z2 z3 z4 z5 z6
end MTo
