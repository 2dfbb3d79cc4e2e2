/-! ===== the matrix text: a zone's points ===== -/
section MTi
variable {M K A W Z A' Z' X Y B : qm} {T bg en : Int → Int} {L p q e k i j x y z c n w s v C D r lo hi t P a J V i1 i2 i3 i4 : Int} {m N : Nat}
theorem among_C (v0 : 0 ≤ V) (v1 : V < 20) (c0 : 0 ≤ c) (c1 : c ≤ 12) : qf_X5_isAmong 20000 V c v A = some (b01 (∃ k, 0 ≤ k ∧ k < c ∧ A 910 V (2 + k) = v)) := by
  have l : qW (qf_X5_isAmong_L2 20000 20000 V c v 0 A) (fun r => (r = .inl 1 ∧ ∃ k, 0 ≤ k ∧ k < c ∧ A 910 V (2 + k) = v) ∨ (r = .inr () ∧ ¬ ∃ k, 0 ≤ k ∧ k < c ∧ A 910 V (2 + k) = v)) := by
    unfold qf_X5_isAmong_L2
    refine qW_for c (fun i s => s = (V, c, v, i) ∧ ∀ k, 0 ≤ k → k < i → A 910 V (2 + k) ≠ v) ?_ ?_ ⟨rfl, fun k k0 k1 => by omega⟩ c0 (by omega)
    · rintro i _ i0 i1 ⟨rfl, h⟩
      unfold qf_X5_isAmong_L2_b
      (try dsimp only)
      rw [if_neg (by omega), w32_id (x := 2 + i) (by omega) (by omega), if_pos (show 0 ≤ 2 + i ∧ 2 + i < 14 by omega)]
      by_cases g : A 910 V (2 + i) = v
      · rw [if_pos g]
        exact qW_some (Or.inl ⟨rfl, i, i0, i1, g⟩)
      · rw [if_neg g, w32_id (x := i + 1) (by omega) (by omega)]
        refine qW_some ⟨rfl, fun k k0 k1 => ?_⟩
        by_cases e : k = i
        · rw [e]
          exact g
        · exact h k k0 (by omega)
    · rintro _ ⟨rfl, h⟩
      unfold qf_X5_isAmong_L2_b
      (try dsimp only)
      rw [if_pos (by omega)]
      exact qW_some (Or.inr ⟨rfl, fun ⟨k, k0, k1, e⟩ => h k k0 k1 e⟩)
  obtain ⟨r, er, hr⟩ := l
  unfold qf_X5_isAmong
  rw [er]
  simp only [Option.bind_some]
  rcases hr with ⟨rfl, h⟩ | ⟨rfl, h⟩
  · rw [b01_t h]
  · rw [b01_f h]
theorem has_K (v0 : 0 ≤ V) (v1 : V < 20) (c0 : 0 ≤ c) (c1 : c ≤ 12) (hc : Z 2217 (20 + V) 0 = c) : qf_X14_has 20000 (20 + V) v Z = some (b01 (∃ k, 0 ≤ k ∧ k < c ∧ Z 2218 (12 * (20 + V) + k) 0 = v)) := by
  have l : qW (qf_X14_has_L5 20000 20000 (20 + V) v 0 0 Z) (fun r => (r = .inr 1 ∧ ∃ k, 0 ≤ k ∧ k < c ∧ Z 2218 (12 * (20 + V) + k) 0 = v) ∨ (r = .inr 0 ∧ ¬ ∃ k, 0 ≤ k ∧ k < c ∧ Z 2218 (12 * (20 + V) + k) 0 = v)) := by
    unfold qf_X14_has_L5
    refine qW_for c (fun i s => ∃ f, s = (20 + V, v, f, i) ∧ ((f = 1 ∧ ∃ k, 0 ≤ k ∧ k < i ∧ Z 2218 (12 * (20 + V) + k) 0 = v) ∨ (f = 0 ∧ ∀ k, 0 ≤ k → k < i → Z 2218 (12 * (20 + V) + k) 0 ≠ v))) ?_ ?_ ⟨0, rfl, Or.inr ⟨rfl, fun k k0 k1 => by omega⟩⟩ c0 (by omega)
    · rintro i _ i0 i1 ⟨f, rfl, h⟩
      unfold qf_X14_has_L5_b
      (try dsimp only)
      rw [if_pos (show 0 ≤ 20 + V ∧ 20 + V < 40 by omega), hc, if_neg (by omega)]
      rcases h with ⟨rfl, k, k0, k1, e⟩ | ⟨rfl, h⟩
      · rw [if_neg (by decide)]
        unfold qf_X14_has_J36
        rw [w32_id (x := i + 1) (by omega) (by omega)]
        exact qW_some ⟨1, rfl, Or.inl ⟨rfl, k, k0, by omega, e⟩⟩
      · rw [if_pos rfl, w32_id (x := 12 * (20 + V)) (by omega) (by omega), w32_id (x := 12 * (20 + V) + i) (by omega) (by omega), if_pos (show 0 ≤ 12 * (20 + V) + i ∧ 12 * (20 + V) + i < 480 by omega)]
        by_cases g : Z 2218 (12 * (20 + V) + i) 0 = v
        · rw [if_pos g]
          unfold qf_X14_has_J36
          rw [w32_id (x := i + 1) (by omega) (by omega)]
          exact qW_some ⟨1, rfl, Or.inl ⟨rfl, i, i0, by omega, g⟩⟩
        · rw [if_neg g, w32_id (x := i + 1) (by omega) (by omega)]
          refine qW_some ⟨0, rfl, Or.inr ⟨rfl, fun k k0 k1 => ?_⟩⟩
          by_cases e : k = i
          · rw [e]
            exact g
          · exact h k k0 (by omega)
    · rintro _ ⟨f, rfl, h⟩
      unfold qf_X14_has_L5_b
      (try dsimp only)
      rw [if_pos (show 0 ≤ 20 + V ∧ 20 + V < 40 by omega), hc, if_pos (by omega)]
      rcases h with ⟨rfl, h⟩ | ⟨rfl, h⟩
      · exact qW_some (Or.inl ⟨rfl, h⟩)
      · exact qW_some (Or.inr ⟨rfl, fun ⟨k, k0, k1, e⟩ => h k k0 k1 e⟩)
  obtain ⟨r, er, hr⟩ := l
  unfold qf_X14_has
  rw [er]
  simp only [Option.bind_some]
  rcases hr with ⟨rfl, h⟩ | ⟨rfl, h⟩
  · rw [b01_t h]
    (try dsimp only)
    rw [if_pos (Or.inr rfl)]
  · rw [b01_f h]
    (try dsimp only)
    rw [if_pos (Or.inl rfl)]
theorem l86_end (h : i4 = 0 ∨ 0 ≤ X 2208 11 0) : qf_X14_readZone_L86 20000 (m + 1) i1 i2 i3 i4 X = some (.inr ((), X)) := by
  have b : qf_X14_readZone_L86_b 20000 i1 i2 i3 i4 X = some (.inl (.inr ((), X))) := by
    unfold qf_X14_readZone_L86_b
    by_cases g : i4 = 0
    · rw [if_pos g]
    · rw [if_neg g, if_pos (by omega)]
  show qloop _ (m + 1) (i1, i2, i3, i4, X) = _
  rw [qloop.eq_2]
  (try dsimp only)
  rw [b]
theorem l86_go (e : qf_X14_readZone_L86_b 20000 i1 i2 i3 i4 Z = some (.inr (i1, i2, i3, t, Y))) : qf_X14_readZone_L86 20000 (m + 1) i1 i2 i3 i4 Z = qf_X14_readZone_L86 20000 m i1 i2 i3 t Y := by
  show qloop _ (m + 1) (i1, i2, i3, i4, Z) = _
  rw [qloop.eq_2]
  (try dsimp only)
  rw [e]
  rfl
theorem rp_end {o : (Int × qm) ⊕ (Int × qm)} (e : qf_X5_readPoints_L4_b 20000 V i2 i3 A = some (.inl o)) : qf_X5_readPoints_L4 20000 (m + 1) V i2 i3 A = some o := by
  show qloop _ (m + 1) (V, i2, i3, A) = _
  rw [qloop.eq_2]
  (try dsimp only)
  rw [e]
theorem rp_go (e : qf_X5_readPoints_L4_b 20000 V i2 i3 A = some (.inr (V, p, q, B))) : qf_X5_readPoints_L4 20000 (m + 1) V i2 i3 A = qf_X5_readPoints_L4 20000 m V p q B := by
  show qloop _ (m + 1) (V, i2, i3, A) = _
  rw [qloop.eq_2]
  (try dsimp only)
  rw [e]
  rfl
theorem z189 (hw : WRD T L n bg en) (h : KSX T L n bg en j w X) : qf_X14_readZone_J189 20000 i1 i2 i3 X = some (.inr (i1, i2, i3, 1 - b01 (isSg T n bg j 59), X)) := by
  unfold qf_X14_readZone_J189
  rw [issg_K hw h (Or.inl rfl)]
  simp only [Option.bind_some]
  by_cases g : isSg T n bg j 59
  · rw [b01_t g, if_neg (by decide)]
    rfl
  · rw [b01_f g, if_pos rfl]
    rfl
theorem z144 (hw : WRD T L n bg en) (h : KSX T L n bg en j (-1) X) : qf_X14_readZone_J144 20000 i1 i2 i3 v X = some (.inr (i1, i2, i3, 1 - b01 (isSg T n bg j 59), qw X 2208 11 0 j)) := by
  unfold qf_X14_readZone_J144 qf_X14_readZone_J145
  rw [want_K h (Or.inl rfl), if_neg (by decide), if_pos rfl]
  simp only [Option.bind_some]
  (first | rw [if_pos trivial] | rw [if_pos rfl])
  exact z189 hw (ksx_wr h)
theorem sg_n (h : isSg T n bg j 59) : ¬ isN T n bg en j lo hi := fun z => by
  have d := z.2.1
  have e := h.2
  unfold isD at d
  unfold kdM at e
  rw [if_neg (by omega), if_pos d] at e
  omega
def PTD (V c P : Int) (A Z : qm) : Prop := Z 2217 (20 + V) 0 = c ∧ ∀ k, 0 ≤ k → k < c → Z 2218 (12 * (20 + V) + k) 0 = A 910 V (2 + k) ∧ 0 ≤ A 910 V (2 + k) ∧ A 910 V (2 + k) < P
def FPC (V : Int) (A B : qm) : Prop := ∀ b x y, ¬ (b = 908 ∧ 4 ≤ x ∧ x ≤ 8) → ¬ (b = 910 ∧ x = V ∧ 2 ≤ y) → B b x y = A b x y
def FPK (V : Int) (Z Y : qm) : Prop := ∀ b x y, ¬ (b = 2208 ∧ (x = 10 ∨ x = 11)) → ¬ (b = 2217 ∧ x = 20 + V) → ¬ (b = 2218 ∧ 12 * (20 + V) ≤ x ∧ x < 12 * (20 + V) + 12) → Y b x y = Z b x y
theorem pts_both (hw : WRD T L n bg en) (V0 : 0 ≤ V) (V1 : V < 20) (P0 : 0 ≤ P) (P1 : P ≤ 50) (J0 : 0 ≤ J) : ∀ (d : Nat) (c : Int) (A Z : qm) (f g : Nat), 12 - c ≤ d → d < f → d + 1 < g → 0 ≤ c → c ≤ 12 → MST T L n bg en (J + c) A → KSX T L n bg en (J + c) (-1) Z → A 908 3 0 = P → Z 2208 0 0 = P → PTD V c P A Z → (0 < c → ¬ isSg T n bg (J + c) 59) → ∃ c' B Y, (qf_X5_readPoints_L4 20000 f V c c A = some (.inl (c', B)) ∨ qf_X5_readPoints_L4 20000 f V c c A = some (.inr (c', B))) ∧ qf_X14_readZone_L86 20000 g (20 + V) i2 i3 1 Z = some (.inr ((), Y)) ∧ FPC V A B ∧ FPK V Z Y ∧ MST T L n bg en (J + c') B ∧ 0 ≤ c' ∧ c' ≤ 12 ∧ ((1 ≤ c' ∧ isSg T n bg (J + c') 59 ∧ KSX T L n bg en (J + c') (-1) Y ∧ PTD V c' P B Y) ∨ ((c' = 0 ∨ ¬ isSg T n bg (J + c') 59) ∧ KSX T L n bg en (J + c') (J + c') Y)) := by
  have nL := hw.2.2.2.1
  have L1 := hw.2.1
  intro d
  induction d with
  | zero =>
    intro c A Z f g d1 d2 d3 c0 c1 mA kZ pA pZ pd ns
    have ec : c = 12 := by omega
    obtain ⟨f', rfl⟩ : ∃ f', f = f' + 1 := ⟨f - 1, by omega⟩
    obtain ⟨g', rfl⟩ : ∃ g', g = g' + 1 + 1 := ⟨g - 2, by omega⟩
    have eC : qf_X5_readPoints_L4_b 20000 V c c A = some (.inl (.inr (c, A))) := by
      unfold qf_X5_readPoints_L4_b
      rw [if_pos (by omega)]
    have kw := ksx_wr (t := J + c) kZ
    have eK : qf_X14_readZone_L86_b 20000 (20 + V) i2 i3 1 Z = some (.inr (20 + V, i2, i3, 1 - b01 (isSg T n bg (J + c) 59), qw Z 2208 11 0 (J + c))) := by
      unfold qf_X14_readZone_L86_b
      rw [if_neg (by decide), if_neg (show ¬ 0 ≤ Z 2208 11 0 by rw [kZ.2.2.1]; decide), pZ, w32_id (x := P - 1) (by omega) (by omega)]
      rcases look_K (lo := 0) (hi := P - 1) hw kZ with ⟨_, g1, g2⟩ | ⟨_, g1, g2⟩ | ⟨g0, _⟩
      · rw [g2]
        simp only [Option.bind_some]
        rw [if_neg (show ¬ 0 ≤ Z 2208 11 0 by rw [kZ.2.2.1]; decide), if_pos (show 0 ≤ 20 + V ∧ 20 + V < 40 by omega), pd.1, if_pos (by omega)]
        exact z144 hw kZ
      · rw [g2]
        simp only [Option.bind_some]
        rw [if_pos (show 0 ≤ qw Z 2208 11 0 (J + c) 2208 11 0 by rw [qw_s]; omega)]
        exact z189 hw kw
      · omega
    refine ⟨c, A, _, Or.inr (rp_end eC), (l86_go eK).trans (l86_end (Or.inr (by rw [qw_s]; omega))), fun _ _ _ _ _ => rfl, fun b x y z1 z2 z3 => o11 b x y z1, mA, c0, c1, Or.inr ⟨Or.inr (ns (by omega)), kw⟩⟩
  | succ d ih =>
    intro c A Z f g d1 d2 d3 c0 c1 mA kZ pA pZ pd ns
    obtain ⟨f', rfl⟩ : ∃ f', f = f' + 1 := ⟨f - 1, by omega⟩
    obtain ⟨g', rfl⟩ : ∃ g', g = g' + 1 + 1 := ⟨g - 2, by omega⟩
    have kw := ksx_wr (t := J + c) kZ
    -- both stop here, wrong
    have stop : ∀ {o}, qf_X5_readPoints_L4_b 20000 V c c A = some (.inl o) → (o = .inl (c, A) ∨ o = .inr (c, A)) → qf_X14_readZone_L86_b 20000 (20 + V) i2 i3 1 Z = some (.inr (20 + V, i2, i3, 1 - b01 (isSg T n bg (J + c) 59), qw Z 2208 11 0 (J + c))) → ∃ c' B Y, (qf_X5_readPoints_L4 20000 (f' + 1) V c c A = some (.inl (c', B)) ∨ qf_X5_readPoints_L4 20000 (f' + 1) V c c A = some (.inr (c', B))) ∧ qf_X14_readZone_L86 20000 (g' + 1 + 1) (20 + V) i2 i3 1 Z = some (.inr ((), Y)) ∧ FPC V A B ∧ FPK V Z Y ∧ MST T L n bg en (J + c') B ∧ 0 ≤ c' ∧ c' ≤ 12 ∧ ((1 ≤ c' ∧ isSg T n bg (J + c') 59 ∧ KSX T L n bg en (J + c') (-1) Y ∧ PTD V c' P B Y) ∨ ((c' = 0 ∨ ¬ isSg T n bg (J + c') 59) ∧ KSX T L n bg en (J + c') (J + c') Y)) := fun {o} e1 ho e2 => by
      have e3 := rp_end (m := f') e1
      refine ⟨c, A, _, ?_, (l86_go e2).trans (l86_end (Or.inr (by rw [qw_s]; omega))), fun _ _ _ _ _ => rfl, fun b x y z1 z2 z3 => o11 b x y z1, mA, c0, c1, Or.inr ⟨?_, kw⟩⟩
      · rcases ho with rfl | rfl
        · exact Or.inl e3
        · exact Or.inr e3
      · by_cases z : c = 0
        · exact Or.inl z
        · exact Or.inr (ns (by omega))
    have stK : qf_X14_readZone_L86_b 20000 (20 + V) i2 i3 1 Z = (qf_X14_look 20000 0 (P - 1) Z).bind (fun r22 => if 0 ≤ (r22.2 2208 11 0) then qf_X14_readZone_J189 20000 (20 + V) i2 i3 r22.2 else if 12 ≤ (r22.2 2217 (20 + V) 0) then qf_X14_readZone_J144 20000 (20 + V) i2 i3 r22.1 r22.2 else (qf_X14_has 20000 (20 + V) r22.1 r22.2).bind (fun r40 => if r40 = 0 then qf_X14_readZone_J145 20000 (20 + V) i2 i3 r22.1 1 r22.2 else qf_X14_readZone_J144 20000 (20 + V) i2 i3 r22.1 r22.2)) := by
      unfold qf_X14_readZone_L86_b
      rw [if_neg (by decide), if_neg (show ¬ 0 ≤ Z 2208 11 0 by rw [kZ.2.2.1]; decide), pZ, w32_id (x := P - 1) (by omega) (by omega)]
      simp only [if_pos (show 0 ≤ 20 + V ∧ 20 + V < 40 by omega)]
    rcases look_K (lo := 0) (hi := P - 1) hw kZ with ⟨_, g1, g2⟩ | ⟨_, g1, g2⟩ | ⟨g0, _⟩
    · rw [g2] at stK
      simp only [Option.bind_some] at stK
      rw [if_neg (show ¬ 0 ≤ Z 2208 11 0 by rw [kZ.2.2.1]; decide), pd.1] at stK
      by_cases c12 : 12 ≤ c
      · rw [if_pos c12, z144 hw kZ] at stK
        refine stop (o := .inr (c, A)) ?_ (Or.inr rfl) stK
        unfold qf_X5_readPoints_L4_b
        rw [if_pos c12]
      · rw [if_neg c12] at stK
        have b0 := g1.2.2.2.1
        have b1 := g1.2.2.2.2
        have jl := g1.1
        have stC : qf_X5_readPoints_L4_b 20000 V c c A = (qf_X5_numberHere 20000 0 (P - 1) A).bind (fun r3 => if r3 = (-1) then some (.inl (.inl (c, A))) else (qf_X5_isAmong 20000 V c r3 A).bind (fun r5 => if r5 = 0 then (qf_X5_nextWord 20000 (qw A 910 V (2 + c) r3)).bind (fun r8 => some (.inr (V, c + 1, c + 1, r8.2))) else some (.inl (.inl (c, A))))) := by
          unfold qf_X5_readPoints_L4_b qbnd
          rw [if_neg c12, pA, w32_id (x := P - 1) (by omega) (by omega), w32_id (x := 2 + c) (by omega) (by omega), w32_id (x := c + 1) (by omega) (by omega)]
          simp only [if_pos (show 0 ≤ 2 + c ∧ 2 + c < 14 by omega)]
        rcases num_C (lo := 0) (hi := P - 1) hw mA with ⟨_, g3⟩ | ⟨g3, _⟩
        · obtain ⟨v, hv⟩ : ∃ v, dgv T (bg (J + c)) (en (J + c) - bg (J + c)).toNat = v := ⟨_, rfl⟩
          rw [hv] at b0 b1 g3 stK
          rw [g3] at stC
          simp only [Option.bind_some] at stC
          rw [if_neg (by omega), among_C V0 V1 c0 c1] at stC
          rw [has_K V0 V1 c0 c1 pd.1] at stK
          simp only [Option.bind_some] at stC stK
          have same : (∃ k, 0 ≤ k ∧ k < c ∧ A 910 V (2 + k) = v) ↔ (∃ k, 0 ≤ k ∧ k < c ∧ Z 2218 (12 * (20 + V) + k) 0 = v) := ⟨fun ⟨k, k0, k1, z⟩ => ⟨k, k0, k1, (pd.2 k k0 k1).1.trans z⟩, fun ⟨k, k0, k1, z⟩ => ⟨k, k0, k1, (pd.2 k k0 k1).1.symm.trans z⟩⟩
          by_cases E : ∃ k, 0 ≤ k ∧ k < c ∧ A 910 V (2 + k) = v
          · rw [b01_t E, if_neg (by decide)] at stC
            rw [b01_t (same.mp E), if_neg (by decide), z144 hw kZ] at stK
            exact stop stC (Or.inl rfl) stK
          · rw [b01_f E, if_pos rfl] at stC
            rw [b01_f (fun z => E (same.mpr z)), if_pos rfl] at stK
            obtain ⟨A1, hA1⟩ : ∃ A1, qw A 910 V (2 + c) v = A1 := ⟨_, rfl⟩
            have fA1 : ∀ b x y, ¬ (b = 910 ∧ x = V ∧ y = 2 + c) → A1 b x y = A b x y := fun b x y z => by rw [← hA1, qw_ap, if_neg z]
            rw [hA1] at stC
            obtain ⟨B, e3, f3, m3⟩ := mst_next hw (mst_o (W := A1) mA (fun b x y z => fA1 b x y (by omega))) jl
            rw [e3] at stC
            simp only [Option.bind_some] at stC
            obtain ⟨Y, hY⟩ : ∃ Y, qw (qw (qw Z 2218 (12 * (20 + V) + c) 0 v) 2217 (20 + V) 0 (c + 1)) 2208 10 0 (J + c + 1) = Y := ⟨_, rfl⟩
            have fY : ∀ b x y, ¬ (b = 2208 ∧ x = 10) → ¬ (b = 2217 ∧ x = 20 + V) → ¬ (b = 2218 ∧ x = 12 * (20 + V) + c) → Y b x y = Z b x y := fun b x y z1 z2 z3 => by
              rw [← hY, qw_ap, if_neg (by omega), qw_ap, if_neg (by omega), qw_ap, if_neg (by omega)]
            have kY : KSX T L n bg en (J + c + 1) (-1) Y := by
              have k1 : KSX T L n bg en (J + c) (-1) (qw (qw Z 2218 (12 * (20 + V) + c) 0 v) 2217 (20 + V) 0 (c + 1)) := ksx_o kZ (fun b x y z => by rw [qw_ap, if_neg (by omega), qw_ap, if_neg (by omega)])
              rw [← hY]
              exact ksx_at k1 (by omega) (by omega)
            have stK2 : qf_X14_readZone_L86_b 20000 (20 + V) i2 i3 1 Z = some (.inr (20 + V, i2, i3, 1 - b01 (isSg T n bg (J + c + 1) 59), Y)) := by
              rw [stK]
              unfold qf_X14_readZone_J145 qbnd
              rw [want_K kZ (Or.inr rfl), if_neg (by decide), if_neg (by decide)]
              simp only [Option.bind_some]
              rw [if_neg (by decide)]
              simp only [if_pos (show 0 ≤ 20 + V ∧ 20 + V < 40 by omega)]
              rw [pd.1, w32_id (x := 12 * (20 + V)) (by omega) (by omega), w32_id (x := 12 * (20 + V) + c) (by omega) (by omega), if_pos (show 0 ≤ 12 * (20 + V) + c ∧ 12 * (20 + V) + c < 480 by omega)]
              (try dsimp only)
              rw [show qw Z 2218 (12 * (20 + V) + c) 0 v 2217 (20 + V) 0 = c from (qw_a (by decide)).trans pd.1, w32_id (x := c + 1) (by omega) (by omega), show qw (qw Z 2218 (12 * (20 + V) + c) 0 v) 2217 (20 + V) 0 (c + 1) 2208 10 0 = J + c from (qw_a (by decide)).trans ((qw_a (by decide)).trans kZ.2.1), w32_id (x := J + c + 1) (by omega) (by omega), hY]
              exact z189 hw kY
            have pd2 : PTD V (c + 1) P B Y := by
              refine ⟨by rw [← hY, qw_a (by decide)]; exact qw_s, fun k k0 k1 => ?_⟩
              have eB : B 910 V (2 + k) = A1 910 V (2 + k) := f3 _ _ _ (by omega)
              by_cases ek : k = c
              · have eA : A1 910 V (2 + c) = v := by rw [← hA1]; exact qw_s
                have eY : Y 2218 (12 * (20 + V) + c) 0 = v := by rw [← hY, qw_a (by decide), qw_a (by decide)]; exact qw_s
                rw [ek] at eB ⊢
                rw [eB, eA, eY]
                exact ⟨rfl, b0, by omega⟩
              · have q := pd.2 k k0 (by omega)
                rw [eB, fA1 _ _ _ (by omega), fY _ _ _ (by omega) (by omega) (by omega)]
                exact q
            have fC : FPC V A B := fun b x y z1 z2 => (f3 b x y z1).trans (fA1 b x y (by omega))
            have fK : FPK V Z Y := fun b x y z1 z2 z3 => fY b x y (by omega) z2 (by omega)
            have pB : B 908 3 0 = P := (fC _ _ _ (by omega) (by omega)).trans pA
            have pY : Y 2208 0 0 = P := (fK _ _ _ (by omega) (by omega) (by omega)).trans pZ
            have ej : J + c + 1 = J + (c + 1) := by omega
            rw [ej] at m3 kY stK2
            by_cases sg : isSg T n bg (J + (c + 1)) 59
            · rw [b01_t sg] at stK2
              refine ⟨c + 1, B, Y, ?_, (l86_go stK2).trans (l86_end (Or.inl (by decide))), fC, fK, m3, by omega, by omega, Or.inl ⟨by omega, sg, kY, pd2⟩⟩
              rw [rp_go stC]
              obtain ⟨f2, rfl⟩ : ∃ f2, f' = f2 + 1 := ⟨f' - 1, by omega⟩
              by_cases c13 : 12 ≤ c + 1
              · right
                refine rp_end ?_
                unfold qf_X5_readPoints_L4_b
                rw [if_pos c13]
              · left
                refine rp_end ?_
                unfold qf_X5_readPoints_L4_b
                rw [if_neg c13]
                rcases num_C (lo := 0) (hi := w32 (B 908 3 0 - 1)) hw m3 with ⟨y, _⟩ | ⟨_, y⟩
                · exact absurd y (sg_n sg)
                · rw [y]
                  simp only [Option.bind_some]
                  (first | rw [if_pos trivial] | rw [if_pos rfl])
            · rw [b01_f sg] at stK2
              obtain ⟨c', B', Y', q1, q2, q3, q4, q5, q6, q7, q8⟩ := ih (c + 1) B Y f' (g' + 1) (by omega) (by omega) (by omega) (by omega) (by omega) m3 kY pB pY pd2 (fun _ => sg)
              refine ⟨c', B', Y', ?_, (l86_go stK2).trans q2, fun b x y z1 z2 => (q3 b x y z1 z2).trans (fC b x y z1 z2), fun b x y z1 z2 z3 => (q4 b x y z1 z2 z3).trans (fK b x y z1 z2 z3), q5, q6, q7, q8⟩
              rw [rp_go stC]
              exact q1
        · exact absurd g1 g3
    · rw [g2] at stK
      simp only [Option.bind_some] at stK
      rw [if_pos (show 0 ≤ qw Z 2208 11 0 (J + c) 2208 11 0 by rw [qw_s]; omega), z189 hw kw] at stK
      by_cases c12 : 12 ≤ c
      · refine stop (o := .inr (c, A)) ?_ (Or.inr rfl) stK
        unfold qf_X5_readPoints_L4_b
        rw [if_pos c12]
      · refine stop (o := .inl (c, A)) ?_ (Or.inl rfl) stK
        unfold qf_X5_readPoints_L4_b
        rw [if_neg c12, pA, w32_id (x := P - 1) (by omega) (by omega)]
        rcases num_C (lo := 0) (hi := P - 1) hw mA with ⟨y, _⟩ | ⟨_, y⟩
        · exact absurd y g1
        · rw [y]
          simp only [Option.bind_some]
          (first | rw [if_pos trivial] | rw [if_pos rfl])
    · omega
end MTi
