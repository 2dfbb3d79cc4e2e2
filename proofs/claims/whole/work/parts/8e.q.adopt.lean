/-! ===== the matrix text: the reference adopts the tables ===== -/
section MTn
variable {M K A W Z X Y B S : qm} {n i j k t : Int} {m N : Nat}
def adR (W : qm) (i : Int) : qm := qw (qw (qw (qw W 2227 i 0 0) 2228 i 0 (-1)) 2229 i 0 0) 2230 i 0 0
theorem rests_K (i0 : 0 ≤ i) (i1 : i < 20) : qf_X14_rests 20000 i W = some ((), adR W i) := by
  unfold qf_X14_rests qbnd
  simp only [if_pos (show 0 ≤ i ∧ i < 20 from ⟨i0, i1⟩)]
  rfl
theorem l55_K (i0 : 0 ≤ i) (i1 : i < 20) : ∃ Y, qf_X14_adopt_L55 20000 20000 i 0 W = some (.inr ((), Y)) ∧ (∀ p, 0 ≤ p → p < 12 → Y 2218 (12 * i + p) 0 = W 2218 (12 * (20 + i) + p) 0) ∧ ∀ b x y, ¬ (b = 2218 ∧ 12 * i ≤ x ∧ x < 12 * i + 12) → Y b x y = W b x y := by
  obtain ⟨o, e1, Y, rfl, y1, y2⟩ : qW (qf_X14_adopt_L55 20000 20000 i 0 W) (fun o => ∃ Y, o = .inr ((), Y) ∧ (∀ p, 0 ≤ p → p < 12 → Y 2218 (12 * i + p) 0 = W 2218 (12 * (20 + i) + p) 0) ∧ ∀ b x y, ¬ (b = 2218 ∧ 12 * i ≤ x ∧ x < 12 * i + 12) → Y b x y = W b x y) := by
    unfold qf_X14_adopt_L55
    refine qW_for 12 (fun p s => ∃ Y, s = (i, p, Y) ∧ (∀ q, 0 ≤ q → q < p → Y 2218 (12 * i + q) 0 = W 2218 (12 * (20 + i) + q) 0) ∧ ∀ b x y, ¬ (b = 2218 ∧ 12 * i ≤ x ∧ x < 12 * i + 12) → Y b x y = W b x y) ?_ ?_ ⟨W, rfl, fun q q0 q1 => by omega, fun _ _ _ _ => rfl⟩ (by omega) (by omega)
    · rintro p _ p0 p1 ⟨Y, rfl, h1, h2⟩
      show qW (qf_X14_adopt_L55_b 20000 i p Y) _
      unfold qf_X14_adopt_L55_b qbnd
      rw [if_neg (by omega), w32_id (x := 12 * i) (by omega) (by omega), w32_id (x := 240 + 12 * i) (by omega) (by omega), w32_id (x := 240 + 12 * i + p) (by omega) (by omega), w32_id (x := 12 * i + p) (by omega) (by omega), if_pos (show 0 ≤ 240 + 12 * i + p ∧ 240 + 12 * i + p < 480 by omega), if_pos (show 0 ≤ 12 * i + p ∧ 12 * i + p < 480 by omega), w32_id (x := p + 1) (by omega) (by omega)]
      refine qW_some ⟨_, rfl, fun q q0 q1 => ?_, fun b x y z => ?_⟩
      · by_cases eq : q = p
        · rw [eq, show 12 * (20 + i) + p = 240 + 12 * i + p by omega]
          refine Eq.trans qw_s ?_
          exact h2 _ _ _ (by omega)
        · rw [qw_i (by omega)]
          exact h1 q q0 (by omega)
      · rw [qw_ap, if_neg (by omega)]
        exact h2 b x y z
    · rintro _ ⟨Y, rfl, h1, h2⟩
      show qW (qf_X14_adopt_L55_b 20000 i 12 Y) _
      unfold qf_X14_adopt_L55_b
      rw [if_pos (by omega)]
      exact qW_some ⟨Y, rfl, h1, h2⟩
  exact ⟨Y, e1, y1, y2⟩
def adB (b : Nat) : Prop := b = 2215 ∨ b = 2216 ∨ b = 2217 ∨ (2219 ≤ b ∧ b ≤ 2223) ∨ (2227 ≤ b ∧ b ≤ 2230)
/-- what stands behind i is taken over to i -/
def ADP (W Y : qm) (i : Int) : Prop := Y 2215 i 0 = W 2215 (20 + i) 0 ∧ Y 2216 i 0 = W 2216 (20 + i) 0 ∧ Y 2217 i 0 = W 2217 (20 + i) 0 ∧ Y 2219 i 0 = W 2219 (20 + i) 0 ∧ Y 2220 i 0 = W 2220 (20 + i) 0 ∧ Y 2221 i 0 = W 2221 (20 + i) 0 ∧ Y 2222 i 0 = W 2222 (20 + i) 0 ∧ Y 2223 i 0 = W 2223 (20 + i) 0 ∧ Y 2227 i 0 = 0 ∧ Y 2228 i 0 = -1 ∧ Y 2229 i 0 = 0 ∧ Y 2230 i 0 = 0 ∧ ∀ p, 0 ≤ p → p < 12 → Y 2218 (12 * i + p) 0 = W 2218 (12 * (20 + i) + p) 0
theorem ad1_K (i0 : 0 ≤ i) (i1 : i < 20) (h15 : W 2215 (20 + i) 0 = 0 ∨ W 2215 (20 + i) 0 = 1) (h19 : W 2219 (20 + i) 0 = 0 ∨ W 2219 (20 + i) 0 = 1) (h23 : W 2223 (20 + i) 0 = 0 ∨ W 2223 (20 + i) 0 = 1) : ∃ Y, qf_X14_adopt_L2_b 20000 i W = some (.inr (i + 1, Y)) ∧ ADP W Y i ∧ ∀ b x y, ¬ (adB b ∧ x = i) → ¬ (b = 2218 ∧ 12 * i ≤ x ∧ x < 12 * i + 12) → Y b x y = W b x y := by
  have c20 : 0 ≤ 20 + i ∧ 20 + i < 40 := by omega
  have ci : 0 ≤ i ∧ i < 40 := by omega
  obtain ⟨W1, hW1⟩ : ∃ X, qw (qw (qw W 2215 i 0 (W 2215 (20 + i) 0)) 2216 i 0 (W 2216 (20 + i) 0)) 2217 i 0 (W 2217 (20 + i) 0) = X := ⟨_, rfl⟩
  have f1 : ∀ b x y, ¬ ((b = 2215 ∨ b = 2216 ∨ b = 2217) ∧ x = i) → W1 b x y = W b x y := fun b x y z => by rw [← hW1, qw_ap, if_neg (by omega), qw_ap, if_neg (by omega), qw_ap, if_neg (by omega)]
  have a15 : W1 2215 i 0 = W 2215 (20 + i) 0 := by rw [← hW1, qw_a (by decide), qw_a (by decide)]; exact qw_s
  have a16 : W1 2216 i 0 = W 2216 (20 + i) 0 := by rw [← hW1, qw_a (by decide)]; exact qw_s
  have a17 : W1 2217 i 0 = W 2217 (20 + i) 0 := by rw [← hW1]; exact qw_s
  obtain ⟨W2, e2, p2, f2⟩ := l55_K (W := W1) i0 i1
  have f12 : ∀ b x y, ¬ ((b = 2215 ∨ b = 2216 ∨ b = 2217) ∧ x = i) → ¬ (b = 2218 ∧ 12 * i ≤ x ∧ x < 12 * i + 12) → W2 b x y = W b x y := fun b x y z1 z2 => (f2 b x y z2).trans (f1 b x y z1)
  obtain ⟨W3, hW3⟩ : ∃ X, qw (qw (qw (qw (qw W2 2219 i 0 (W 2219 (20 + i) 0)) 2220 i 0 (W 2220 (20 + i) 0)) 2221 i 0 (W 2221 (20 + i) 0)) 2222 i 0 (W 2222 (20 + i) 0)) 2223 i 0 (W 2223 (20 + i) 0) = X := ⟨_, rfl⟩
  have f3 : ∀ b x y, ¬ (2219 ≤ b ∧ b ≤ 2223 ∧ x = i) → W3 b x y = W2 b x y := fun b x y z => by rw [← hW3, qw_ap, if_neg (by omega), qw_ap, if_neg (by omega), qw_ap, if_neg (by omega), qw_ap, if_neg (by omega), qw_ap, if_neg (by omega)]
  have e19 : W2 2219 (20 + i) 0 = W 2219 (20 + i) 0 := f12 _ _ _ (by omega) (by omega)
  have e20 : W2 2220 (20 + i) 0 = W 2220 (20 + i) 0 := f12 _ _ _ (by omega) (by omega)
  have e21 : W2 2221 (20 + i) 0 = W 2221 (20 + i) 0 := f12 _ _ _ (by omega) (by omega)
  have e22 : W2 2222 (20 + i) 0 = W 2222 (20 + i) 0 := f12 _ _ _ (by omega) (by omega)
  have e23 : W2 2223 (20 + i) 0 = W 2223 (20 + i) 0 := f12 _ _ _ (by omega) (by omega)
  have st : qf_X14_adopt_L2_b 20000 i W = some (.inr (i + 1, adR W3 i)) := by
    unfold qf_X14_adopt_L2_b qbnd
    rw [if_neg (by omega), w32_id (x := 20 + i) (by omega) (by omega), w32_id (x := i + 1) (by omega) (by omega)]
    refine (if_pos c20).trans ?_
    refine (if_pos ⟨ci, h15⟩).trans ?_
    (try dsimp only)
    refine (if_pos c20).trans ((if_pos ci).trans ?_)
    (try dsimp only)
    refine (if_pos c20).trans ((if_pos ci).trans ?_)
    (try dsimp only)
    rw [show qw W 2215 i 0 (W 2215 (20 + i) 0) 2216 (20 + i) 0 = W 2216 (20 + i) 0 from qw_a (by decide)]
    rw [show qw (qw W 2215 i 0 (W 2215 (20 + i) 0)) 2216 i 0 (W 2216 (20 + i) 0) 2217 (20 + i) 0 = W 2217 (20 + i) 0 from (qw_a (by decide)).trans (qw_a (by decide)), hW1, e2]
    simp only [Option.bind_some]
    refine (if_pos c20).trans ((if_pos ⟨ci, by rw [e19]; exact h19⟩).trans ?_)
    (try dsimp only)
    refine (if_pos c20).trans ((if_pos ci).trans ?_)
    (try dsimp only)
    refine (if_pos c20).trans ((if_pos ci).trans ?_)
    (try dsimp only)
    refine (if_pos c20).trans ((if_pos ci).trans ?_)
    (try dsimp only)
    refine (if_pos c20).trans ((if_pos ⟨ci, by rw [qw_a (by decide), qw_a (by decide), qw_a (by decide), qw_a (by decide), e23]; exact h23⟩).trans ?_)
    (try dsimp only)
    rw [e19, show qw W2 2219 i 0 (W 2219 (20 + i) 0) 2220 (20 + i) 0 = W 2220 (20 + i) 0 from (qw_a (by decide)).trans e20]
    rw [show qw (qw W2 2219 i 0 (W 2219 (20 + i) 0)) 2220 i 0 (W 2220 (20 + i) 0) 2221 (20 + i) 0 = W 2221 (20 + i) 0 from (qw_a (by decide)).trans ((qw_a (by decide)).trans e21)]
    rw [show qw (qw (qw W2 2219 i 0 (W 2219 (20 + i) 0)) 2220 i 0 (W 2220 (20 + i) 0)) 2221 i 0 (W 2221 (20 + i) 0) 2222 (20 + i) 0 = W 2222 (20 + i) 0 from (qw_a (by decide)).trans ((qw_a (by decide)).trans ((qw_a (by decide)).trans e22))]
    rw [show qw (qw (qw (qw W2 2219 i 0 (W 2219 (20 + i) 0)) 2220 i 0 (W 2220 (20 + i) 0)) 2221 i 0 (W 2221 (20 + i) 0)) 2222 i 0 (W 2222 (20 + i) 0) 2223 (20 + i) 0 = W 2223 (20 + i) 0 from (qw_a (by decide)).trans ((qw_a (by decide)).trans ((qw_a (by decide)).trans ((qw_a (by decide)).trans e23))), hW3, rests_K i0 i1]
    rfl
  have fR : ∀ b x y, ¬ (2227 ≤ b ∧ b ≤ 2230 ∧ x = i) → adR W3 i b x y = W3 b x y := fun b x y z => by
    unfold adR
    rw [qw_ap, if_neg (by omega), qw_ap, if_neg (by omega), qw_ap, if_neg (by omega), qw_ap, if_neg (by omega)]
  refine ⟨adR W3 i, st, ⟨?_, ?_, ?_, ?_, ?_, ?_, ?_, ?_, ?_, ?_, ?_, ?_, fun p p0 p1 => ?_⟩, fun b x y z1 z2 => ?_⟩
  · rw [fR _ _ _ (by omega), f3 _ _ _ (by omega), f2 _ _ _ (by omega), a15]
  · rw [fR _ _ _ (by omega), f3 _ _ _ (by omega), f2 _ _ _ (by omega), a16]
  · rw [fR _ _ _ (by omega), f3 _ _ _ (by omega), f2 _ _ _ (by omega), a17]
  · rw [fR _ _ _ (by omega), ← hW3, qw_a (by decide), qw_a (by decide), qw_a (by decide), qw_a (by decide)]
    exact qw_s
  · rw [fR _ _ _ (by omega), ← hW3, qw_a (by decide), qw_a (by decide), qw_a (by decide)]
    exact qw_s
  · rw [fR _ _ _ (by omega), ← hW3, qw_a (by decide), qw_a (by decide)]
    exact qw_s
  · rw [fR _ _ _ (by omega), ← hW3, qw_a (by decide)]
    exact qw_s
  · rw [fR _ _ _ (by omega), ← hW3]
    exact qw_s
  · unfold adR
    rw [qw_a (by decide), qw_a (by decide), qw_a (by decide)]
    exact qw_s
  · unfold adR
    rw [qw_a (by decide), qw_a (by decide)]
    exact qw_s
  · unfold adR
    rw [qw_a (by decide)]
    exact qw_s
  · unfold adR
    exact qw_s
  · rw [fR _ _ _ (by omega), f3 _ _ _ (by omega), p2 p p0 p1]
    exact f1 _ _ _ (by omega)
  · unfold adB at z1
    rw [fR _ _ _ (by omega), f3 _ _ _ (by omega)]
    exact f12 _ _ _ (by omega) z2
theorem madopt_K (h15 : ∀ i, 0 ≤ i → i < 20 → Z 2215 (20 + i) 0 = 0 ∨ Z 2215 (20 + i) 0 = 1) (h19 : ∀ i, 0 ≤ i → i < 20 → Z 2219 (20 + i) 0 = 0 ∨ Z 2219 (20 + i) 0 = 1) (h23 : LAT Z) (n0 : 0 ≤ Z 2208 22 0) (n1 : Z 2208 22 0 ≤ 50) : ∃ Y, qf_X14_adopt 20000 Z = some ((), Y) ∧ (∀ i, 0 ≤ i → i < 20 → ADP Z Y i) ∧ Y 2208 21 0 = Z 2208 22 0 ∧ (∀ r, 0 ≤ r → r < Z 2208 22 0 → Y 2224 r 0 = Z 2224 (50 + r) 0 ∧ Y 2225 r 0 = Z 2225 (50 + r) 0 ∧ Y 2226 r 0 = Z 2226 (50 + r) 0) ∧ ∀ b x y, ¬ (adB b ∧ x < 20) → ¬ (b = 2218 ∧ x < 240) → ¬ (b = 2208 ∧ x = 21) → ¬ (2224 ≤ b ∧ b ≤ 2226 ∧ x < 50) → Y b x y = Z b x y := by
  obtain ⟨o, e1, X, rfl, x1, x2⟩ : qW (qf_X14_adopt_L2 20000 20000 0 Z) (fun o => ∃ W, o = .inr ((), W) ∧ (∀ k, 0 ≤ k → k < 20 → ADP Z W k) ∧ ∀ b x y, ¬ (adB b ∧ 0 ≤ x ∧ x < 20) → ¬ (b = 2218 ∧ x < 240) → W b x y = Z b x y) := by
    unfold qf_X14_adopt_L2
    refine qW_for 20 (fun i s => ∃ W, s = (i, W) ∧ (∀ k, 0 ≤ k → k < i → ADP Z W k) ∧ ∀ b x y, ¬ (adB b ∧ 0 ≤ x ∧ x < 20) → ¬ (b = 2218 ∧ x < 240) → W b x y = Z b x y) ?_ ?_ ⟨Z, rfl, fun k k0 k1 => by omega, fun _ _ _ _ _ => rfl⟩ (by omega) (by omega)
    · rintro i _ i0 i1 ⟨W, rfl, h1, h2⟩
      have w : ∀ b, W b (20 + i) 0 = Z b (20 + i) 0 ∨ b = 2218 := fun b => by
        by_cases eb : b = 2218
        · exact Or.inr eb
        · exact Or.inl (h2 _ _ _ (fun z => by omega) (by omega))
      have w' : ∀ b, b ≠ 2218 → W b (20 + i) 0 = Z b (20 + i) 0 := fun b z => by
        rcases w b with h | h
        · exact h
        · exact absurd h z
      obtain ⟨Y, e, y1, y2⟩ := ad1_K (W := W) i0 i1 (by rw [w' _ (by decide)]; exact h15 i i0 i1) (by rw [w' _ (by decide)]; exact h19 i i0 i1) (by rw [w' _ (by decide)]; exact h23 (20 + i) (by omega) (by omega))
      refine qW_at e ⟨Y, rfl, fun k k0 k1 => ?_, fun b x y z1 z2 => ?_⟩
      · by_cases ek : k = i
        · rw [ek]
          unfold ADP at y1 ⊢
          rw [w' 2215 (by decide), w' 2216 (by decide), w' 2217 (by decide), w' 2219 (by decide), w' 2220 (by decide), w' 2221 (by decide), w' 2222 (by decide), w' 2223 (by decide)] at y1
          obtain ⟨q1, q2, q3, q4, q5, q6, q7, q8, q9, q10, q11, q12, q13⟩ := y1
          exact ⟨q1, q2, q3, q4, q5, q6, q7, q8, q9, q10, q11, q12, fun p p0 p1 => (q13 p p0 p1).trans (h2 _ _ _ (fun z => by unfold adB at z; omega) (by omega))⟩
        · have q := h1 k k0 (by omega)
          have y2' : ∀ b : Nat, b ≠ 2218 → Y b k 0 = W b k 0 := fun b z => y2 b k 0 (fun z => ek z.2) (by omega)
          unfold ADP at q ⊢
          rw [y2' 2215 (by decide), y2' 2216 (by decide), y2' 2217 (by decide), y2' 2219 (by decide), y2' 2220 (by decide), y2' 2221 (by decide), y2' 2222 (by decide), y2' 2223 (by decide), y2' 2227 (by decide), y2' 2228 (by decide), y2' 2229 (by decide), y2' 2230 (by decide)]
          obtain ⟨q1, q2, q3, q4, q5, q6, q7, q8, q9, q10, q11, q12, q13⟩ := q
          exact ⟨q1, q2, q3, q4, q5, q6, q7, q8, q9, q10, q11, q12, fun p p0 p1 => (y2 _ _ _ (fun z => by unfold adB at z; omega) (by omega)).trans (q13 p p0 p1)⟩
      · rw [y2 b x y (fun z => z1 ⟨z.1, by omega⟩) (by omega)]
        exact h2 b x y z1 z2
    · rintro _ ⟨W, rfl, h1, h2⟩
      show qW (qf_X14_adopt_L2_b 20000 20 W) _
      unfold qf_X14_adopt_L2_b
      rw [if_pos (by omega)]
      exact qW_some ⟨W, rfl, h1, h2⟩
  have x22 : X 2208 22 0 = Z 2208 22 0 := x2 _ _ _ (fun z => by unfold adB at z; omega) (by omega)
  obtain ⟨ρ, hρ⟩ : ∃ ρ, Z 2208 22 0 = ρ := ⟨_, rfl⟩
  rw [hρ] at n0 n1 x22 ⊢
  obtain ⟨V, hV⟩ : ∃ V, qw X 2208 21 0 ρ = V := ⟨_, rfl⟩
  have fV : ∀ b x y, ¬ (b = 2208 ∧ x = 21) → V b x y = X b x y := fun b x y z => by rw [← hV, qw_ap, if_neg (by omega)]
  have V21 : V 2208 21 0 = ρ := by rw [← hV]; exact qw_s
  obtain ⟨o, e2, Y, rfl, y1, y2⟩ : qW (qf_X14_adopt_L189 20000 20000 0 V) (fun o => ∃ W, o = .inr ((), W) ∧ (∀ r, 0 ≤ r → r < ρ → W 2224 r 0 = V 2224 (50 + r) 0 ∧ W 2225 r 0 = V 2225 (50 + r) 0 ∧ W 2226 r 0 = V 2226 (50 + r) 0) ∧ ∀ b x y, ¬ (2224 ≤ b ∧ b ≤ 2226 ∧ x < 50) → W b x y = V b x y) := by
    unfold qf_X14_adopt_L189
    refine qW_for ρ (fun i s => ∃ W, s = (i, W) ∧ (∀ r, 0 ≤ r → r < i → W 2224 r 0 = V 2224 (50 + r) 0 ∧ W 2225 r 0 = V 2225 (50 + r) 0 ∧ W 2226 r 0 = V 2226 (50 + r) 0) ∧ ∀ b x y, ¬ (2224 ≤ b ∧ b ≤ 2226 ∧ x < 50) → W b x y = V b x y) ?_ ?_ ⟨V, rfl, fun r r0 r1 => by omega, fun _ _ _ _ => rfl⟩ n0 (by omega)
    · rintro i _ i0 i1 ⟨W, rfl, h1, h2⟩
      have w21 : W 2208 21 0 = ρ := (h2 _ _ _ (by omega)).trans V21
      show qW (qf_X14_adopt_L189_b 20000 i W) _
      unfold qf_X14_adopt_L189_b qbnd
      rw [if_neg (by omega), w32_id (x := 50 + i) (by omega) (by omega), w32_id (x := i + 1) (by omega) (by omega)]
      simp only [if_pos (show 0 ≤ 50 + i ∧ 50 + i < 100 by omega), if_pos (show 0 ≤ i ∧ i < 100 by omega)]
      refine qW_some ⟨_, rfl, fun r r0 r1 => ?_, fun b x y z => ?_⟩
      · by_cases er : r = i
        · rw [er]
          refine ⟨?_, ?_, ?_⟩
          · rw [qw_a (by decide), qw_a (by decide)]
            exact qw_s.trans (h2 _ _ _ (by omega))
          · rw [qw_a (by decide)]
            refine qw_s.trans ?_
            rw [qw_a (by decide)]
            exact h2 _ _ _ (by omega)
          · refine qw_s.trans ?_
            rw [qw_a (by decide), qw_a (by decide)]
            exact h2 _ _ _ (by omega)
        · have q := h1 r r0 (by omega)
          refine ⟨?_, ?_, ?_⟩
          · rw [qw_a (by decide), qw_a (by decide), qw_i er]
            exact q.1
          · rw [qw_a (by decide), qw_i er, qw_a (by decide)]
            exact q.2.1
          · rw [qw_i er, qw_a (by decide), qw_a (by decide)]
            exact q.2.2
      · rw [qw_ap, if_neg (by omega), qw_ap, if_neg (by omega), qw_ap, if_neg (by omega)]
        exact h2 b x y z
    · rintro _ ⟨W, rfl, h1, h2⟩
      have w21 : W 2208 21 0 = ρ := (h2 _ _ _ (by omega)).trans V21
      show qW (qf_X14_adopt_L189_b 20000 ρ W) _
      unfold qf_X14_adopt_L189_b
      rw [if_pos (by omega)]
      exact qW_some ⟨W, rfl, h1, h2⟩
  have fYX : ∀ b x y, ¬ (b = 2208 ∧ x = 21) → ¬ (2224 ≤ b ∧ b ≤ 2226 ∧ x < 50) → Y b x y = X b x y := fun b x y z1 z2 => (y2 b x y z2).trans (fV b x y z1)
  refine ⟨Y, ?_, fun i i0 i1 => ?_, ?_, fun r r0 r1 => ?_, fun b x y z1 z2 z3 z4 => ?_⟩
  · unfold qf_X14_adopt qbnd
    rw [e1]
    simp only [Option.bind_some]
    rw [x22, hV, e2]
    rfl
  · have q := x1 i i0 i1
    have y' : ∀ b : Nat, (b ≤ 2207 ∨ (2209 ≤ b ∧ b ≤ 2223) ∨ 2227 ≤ b) → ∀ x, Y b x 0 = X b x 0 := fun b z x => fYX b x 0 (by omega) (by omega)
    unfold ADP at q ⊢
    rw [y' 2215 (by omega), y' 2216 (by omega), y' 2217 (by omega), y' 2219 (by omega), y' 2220 (by omega), y' 2221 (by omega), y' 2222 (by omega), y' 2223 (by omega), y' 2227 (by omega), y' 2228 (by omega), y' 2229 (by omega), y' 2230 (by omega)]
    obtain ⟨q1, q2, q3, q4, q5, q6, q7, q8, q9, q10, q11, q12, q13⟩ := q
    exact ⟨q1, q2, q3, q4, q5, q6, q7, q8, q9, q10, q11, q12, fun p p0 p1 => (y' 2218 (by omega) _).trans (q13 p p0 p1)⟩
  · rw [y2 _ _ _ (by omega)]
    exact V21
  · obtain ⟨q1, q2, q3⟩ := y1 r r0 r1
    have vz : ∀ b x, 2224 ≤ b ∧ b ≤ 2226 → V b x 0 = Z b x 0 := fun b x z => by
      rw [fV _ _ _ (by omega)]
      exact x2 _ _ _ (fun y => by unfold adB at y; omega) (by omega)
    rw [q1, q2, q3, vz 2224 _ (by omega), vz 2225 _ (by omega), vz 2226 _ (by omega)]
    exact ⟨rfl, rfl, rfl⟩
  · rw [fYX b x y z3 z4]
    exact x2 b x y (fun y => z1 ⟨y.1, y.2.2⟩) z2
end MTn
