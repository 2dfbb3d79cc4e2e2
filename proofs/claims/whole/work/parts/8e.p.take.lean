/-! ===== the matrix text: the class takes the tables ===== -/
section MTm
variable {M K A W Z X Y B S : qm} {n i j k t : Int} {F R : Int → Int} {m N : Nat}
/-- f holds the numbers below n, by falling rank, ties by number -/
def ORD (R F : Int → Int) (n : Int) : Prop := (∀ k, 0 ≤ k → k < n → 0 ≤ F k ∧ F k < n) ∧ ∀ j k, 0 ≤ j → j < k → k < n → R (F k) < R (F j) ∨ (R (F j) = R (F k) ∧ F j < F k)
theorem sins_C (hR : ∀ a, A 1197 a 2 = R a) (n0 : 0 ≤ n) (n1 : n < 20) (hF : ∀ k, 0 ≤ k → k < n → 0 ≤ F k ∧ F k < n) : ∀ (d : Nat) (S : qm) (f : Nat), d < f → (d : Int) ≤ n → (∀ b x y, b ≠ 1269 → S b x y = A b x y) → (∀ k : Int, 0 ≤ k → k < (d : Int) → S 1269 k 0 = F k) → (∀ k : Int, (d : Int) < k → k ≤ n → S 1269 k 0 = F (k - 1)) → (∀ k : Int, (d : Int) ≤ k → k < n → R (F k) < R n) → ∃ t Y, qf_X4_sortActs_L13 20000 f n d S = some (.inr (t, Y)) ∧ 0 ≤ t ∧ t ≤ n ∧ (∀ b x y, b ≠ 1269 → Y b x y = A b x y) ∧ (∀ k, 0 ≤ k → k < t → Y 1269 k 0 = F k) ∧ (∀ k, t < k → k ≤ n → Y 1269 k 0 = F (k - 1)) ∧ (∀ k, t ≤ k → k < n → R (F k) < R n) ∧ (0 < t → R n ≤ R (F (t - 1))) := by
  intro d
  induction d with
  | zero =>
    intro S f df dn h1 h2 h3 h4
    obtain ⟨f', rfl⟩ : ∃ f', f = f' + 1 := ⟨f - 1, by omega⟩
    refine ⟨0, S, ?_, Int.le_refl _, n0, h1, fun k k0 k1 => by omega, fun k k0 k1 => h3 k (by omega) k1, fun k k0 k1 => h4 k (by omega) k1, fun z => by omega⟩
    show qloop _ (f' + 1) (n, ((0 : Nat) : Int), S) = _
    rw [qloop.eq_2]
    (try dsimp only)
    have b : qf_X4_sortActs_L13_b 20000 n ((0 : Nat) : Int) S = some (.inl (.inr (0, S))) := by
      unfold qf_X4_sortActs_L13_b
      rw [if_pos (by omega)]
      rfl
    rw [b]
  | succ d ih =>
    intro S f df dn h1 h2 h3 h4
    obtain ⟨f', rfl⟩ : ∃ f', f = f' + 1 := ⟨f - 1, by omega⟩
    obtain ⟨D, hD⟩ : ∃ D : Int, (d : Int) = D := ⟨_, rfl⟩
    have eD : ((d + 1 : Nat) : Int) = D + 1 := by omega
    rw [eD] at dn h2 h3 h4 ⊢
    have D0 : 0 ≤ D := by omega
    have sD : S 1269 D 0 = F D := h2 D D0 (by omega)
    have fD := hF D D0 (by omega)
    have st : qf_X4_sortActs_L13_b 20000 n (D + 1) S = (if R n ≤ R (F D) then some (.inl (.inr (D + 1, S))) else some (.inr (n, D, qw S 1269 (D + 1) 0 (F D)))) := by
      unfold qf_X4_sortActs_L13_b qbnd
      rw [if_neg (by omega), w32_id (x := D + 1 - 1) (by omega) (by omega), show D + 1 - 1 = D by omega]
      simp only [if_pos (show 0 ≤ D ∧ D < 20 by omega), if_pos (show 0 ≤ n ∧ n < 20 from ⟨n0, n1⟩), if_pos (show 0 ≤ D + 1 ∧ D + 1 < 20 by omega)]
      rw [sD, if_pos (show 0 ≤ F D ∧ F D < 20 by omega), h1 1197 n 2 (by decide), h1 1197 (F D) 2 (by decide), hR, hR]
    by_cases g : R n ≤ R (F D)
    · rw [if_pos g] at st
      refine ⟨D + 1, S, ?_, by omega, dn, h1, h2, h3, h4, fun _ => by rw [show D + 1 - 1 = D by omega]; exact g⟩
      show qloop _ (f' + 1) (n, D + 1, S) = _
      rw [qloop.eq_2]
      (try dsimp only)
      rw [st]
    · rw [if_neg g] at st
      obtain ⟨X, hX⟩ : ∃ X, qw S 1269 (D + 1) 0 (F D) = X := ⟨_, rfl⟩
      rw [hX] at st
      obtain ⟨t, Y, e1, e2⟩ := ih X f' (by omega) (by omega) (fun b x y z => by rw [← hX, qw_a z]; exact h1 b x y z) (fun k k0 k1 => by rw [← hX, qw_i (by omega)]; exact h2 k k0 (by omega)) (fun k k0 k1 => by
        by_cases ek : k = D + 1
        · rw [ek, ← hX, show D + 1 - 1 = D by omega]
          exact qw_s
        · rw [← hX, qw_i ek]
          exact h3 k (by omega) k1) (fun k k0 k1 => by
        by_cases ek : k = D
        · rw [ek]
          omega
        · exact h4 k (by omega) k1)
      refine ⟨t, Y, ?_, e2⟩
      show qloop _ (f' + 1) (n, D + 1, S) = _
      rw [qloop.eq_2]
      (try dsimp only)
      rw [st]
      (try dsimp only)
      rw [hD] at e1
      exact e1
theorem sort_C : ∃ B, qf_X4_sortActs 20000 A = some ((), B) ∧ (∀ b x y, b ≠ 1269 → B b x y = A b x y) ∧ ORD (fun a => A 1197 a 2) (fun k => B 1269 k 0) 20 := by
  obtain ⟨R, hR⟩ : ∃ R : Int → Int, (fun a => A 1197 a 2) = R := ⟨_, rfl⟩
  have hR' : ∀ a, A 1197 a 2 = R a := fun a => by rw [← hR]
  obtain ⟨o, e1, B, rfl, b1, b2⟩ : qW (qf_X4_sortActs_L2 20000 20000 0 A) (fun o => ∃ W, o = .inr ((), W) ∧ (∀ b x y, b ≠ 1269 → W b x y = A b x y) ∧ ORD R (fun k => W 1269 k 0) 20) := by
    unfold qf_X4_sortActs_L2
    refine qW_for 20 (fun i s => ∃ W, s = (i, W) ∧ (∀ b x y, b ≠ 1269 → W b x y = A b x y) ∧ ORD R (fun k => W 1269 k 0) i) ?_ ?_ ⟨A, rfl, fun _ _ _ _ => rfl, fun k k0 k1 => by omega, fun j k j0 jk k1 => by omega⟩ (by omega) (by omega)
    · rintro i _ i0 i1 ⟨W, rfl, h1, h2, h3⟩
      obtain ⟨F, hF⟩ : ∃ F : Int → Int, (fun k => W 1269 k 0) = F := ⟨_, rfl⟩
      rw [hF] at h3
      have h2' : ∀ k, 0 ≤ k → k < i → 0 ≤ F k ∧ F k < i := fun k k0 k1 => by rw [← hF]; exact h2 k k0 k1
      obtain ⟨d, hd⟩ : ∃ d : Nat, (d : Int) = i := ⟨i.toNat, by omega⟩
      obtain ⟨t, Y, e2, t0, t1, y1, y2, y3, y4, y5⟩ := sins_C (A := A) (R := R) (F := F) hR' i0 i1 h2' d W 20000 (by omega) (by omega) h1 (fun k k0 k1 => by rw [← hF]) (fun k k0 k1 => by omega) (fun k k0 k1 => by omega)
      rw [hd] at e2
      obtain ⟨V, hV⟩ : ∃ V, qw Y 1269 t 0 i = V := ⟨_, rfl⟩
      have vt : V 1269 t 0 = i := by rw [← hV]; exact qw_s
      have vo : ∀ k, k ≠ t → V 1269 k 0 = Y 1269 k 0 := fun k z => by rw [← hV, qw_i z]
      have v1 : ∀ k, 0 ≤ k → k < t → V 1269 k 0 = F k := fun k k0 k1 => by rw [vo k (by omega)]; exact y2 k k0 k1
      have v2 : ∀ k, t < k → k ≤ i → V 1269 k 0 = F (k - 1) := fun k k0 k1 => by rw [vo k (by omega)]; exact y3 k k0 k1
      unfold qf_X4_sortActs_L2_b
      (try dsimp only)
      rw [if_neg (by omega), e2]
      simp only [Option.bind_some]
      unfold qf_X4_sortActs_J63 qbnd
      rw [if_pos (show 0 ≤ t ∧ t < 20 by omega), w32_id (x := i + 1) (by omega) (by omega), hV]
      refine qW_some ⟨V, rfl, fun b x y z => by rw [← hV, qw_a z]; exact y1 b x y z, fun k k0 k1 => ?_, fun j k j0 jk k1 => ?_⟩
      · show 0 ≤ V 1269 k 0 ∧ V 1269 k 0 < i + 1
        rcases Int.lt_trichotomy k t with c | c | c
        · rw [v1 k k0 c]
          have := h2' k k0 (by omega)
          omega
        · rw [c, vt]
          omega
        · rw [v2 k c (by omega)]
          have := h2' (k - 1) (by omega) (by omega)
          omega
      · show R (V 1269 k 0) < R (V 1269 j 0) ∨ (R (V 1269 j 0) = R (V 1269 k 0) ∧ V 1269 j 0 < V 1269 k 0)
        rcases Int.lt_trichotomy k t with c | c | c
        · rw [v1 k (by omega) c, v1 j j0 (by omega)]
          exact h3 j k j0 jk (by omega)
        · rw [c, vt, v1 j j0 (by omega)]
          have q := y5 (by omega)
          have qj := h2' j j0 (by omega)
          by_cases ej : j = t - 1
          · rw [ej] at qj ⊢
            omega
          · have q2 := h3 j (t - 1) j0 (by omega) (by omega)
            omega
        · rw [v2 k c (by omega)]
          rcases Int.lt_trichotomy j t with c2 | c2 | c2
          · rw [v1 j j0 c2]
            exact h3 j (k - 1) j0 (by omega) (by omega)
          · rw [c2, vt]
            exact Or.inl (y4 (k - 1) (by omega) (by omega))
          · rw [v2 j c2 (by omega)]
            exact h3 (j - 1) (k - 1) (by omega) (by omega) (by omega)
    · rintro _ ⟨W, rfl, h1, h2⟩
      unfold qf_X4_sortActs_L2_b
      (try dsimp only)
      rw [if_pos (by omega)]
      exact qW_some ⟨W, rfl, h1, h2⟩
  refine ⟨B, ?_, b1, by rw [hR]; exact b2⟩
  unfold qf_X4_sortActs
  rw [e1]
  rfl
theorem take_C (n0 : 0 ≤ A 908 12 0) (n1 : A 908 12 0 ≤ 50) : ∃ B, qf_X4_takeTables 20000 A = some ((), B) ∧ (∀ z y, 0 ≤ z → z < 20 → 0 ≤ y → y < 14 → B 1176 z y = A 910 z y) ∧ (∀ z y, 0 ≤ z → z < 20 → 0 ≤ y → y < 5 → B 1197 z y = A 931 z y) ∧ (∀ a, 0 ≤ a → a < 20 → B 1270 a 0 = 0) ∧ (∀ r y, 0 ≤ r → r < A 908 12 0 → 0 ≤ y → y < 3 → B 1218 r y = A 952 r y) ∧ B 1172 9 0 = A 908 12 0 ∧ ORD (fun a => B 1197 a 2) (fun k => B 1269 k 0) 20 ∧ ∀ b x y, b ≠ 1176 → b ≠ 1197 → b ≠ 1270 → b ≠ 1218 → b ≠ 1269 → ¬ (b = 1172 ∧ x = 9) → B b x y = A b x y := by
  obtain ⟨o, e1, X, rfl, x1, x2⟩ : qW (qf_X4_takeTables_L2 20000 20000 0 A) (fun o => ∃ W, o = .inr ((), W) ∧ (∀ z y, 0 ≤ z → z < 20 → 0 ≤ y → y < 14 → W 1176 z y = A 910 z y) ∧ ∀ b x y, b ≠ 1176 → W b x y = A b x y) := by
    unfold qf_X4_takeTables_L2
    refine qW_for 20 (fun i s => ∃ W, s = (i, W) ∧ (∀ z y, 0 ≤ z → z < i → 0 ≤ y → y < 14 → W 1176 z y = A 910 z y) ∧ ∀ b x y, b ≠ 1176 → W b x y = A b x y) ?_ ?_ ⟨A, rfl, fun z y z0 z1 => by omega, fun _ _ _ _ => rfl⟩ (by omega) (by omega)
    · rintro i _ i0 i1 ⟨W, rfl, h1, h2⟩
      unfold qf_X4_takeTables_L2_b qbnd
      (try dsimp only)
      rw [if_neg (by omega)]
      simp only [if_pos (show 0 ≤ i ∧ i < 20 from ⟨i0, i1⟩)]
      rw [w32_id (x := i + 1) (by omega) (by omega)]
      refine qW_some ⟨_, rfl, fun z y z0 z1 y0 y1 => ?_, fun b x y z => ?_⟩
      · rw [qcp2_ap]
        by_cases ez : z = i
        · rw [if_pos (by omega), ez, show y - 0 + 0 = y by omega]
          exact h2 _ _ _ (by decide)
        · rw [if_neg (by omega)]
          exact h1 z y z0 (by omega) y0 y1
      · rw [qcp2_ap, if_neg (by omega)]
        exact h2 b x y z
    · rintro _ ⟨W, rfl, h1, h2⟩
      unfold qf_X4_takeTables_L2_b
      (try dsimp only)
      rw [if_pos (by omega)]
      exact qW_some ⟨W, rfl, h1, h2⟩
  obtain ⟨o, e2, Y, rfl, y1, y2, y3⟩ : qW (qf_X4_takeTables_L40 20000 20000 0 X) (fun o => ∃ W, o = .inr ((), W) ∧ (∀ z y, 0 ≤ z → z < 20 → 0 ≤ y → y < 5 → W 1197 z y = X 931 z y) ∧ (∀ a, 0 ≤ a → a < 20 → W 1270 a 0 = 0) ∧ ∀ b x y, b ≠ 1197 → b ≠ 1270 → W b x y = X b x y) := by
    unfold qf_X4_takeTables_L40
    refine qW_for 20 (fun i s => ∃ W, s = (i, W) ∧ (∀ z y, 0 ≤ z → z < i → 0 ≤ y → y < 5 → W 1197 z y = X 931 z y) ∧ (∀ a, 0 ≤ a → a < i → W 1270 a 0 = 0) ∧ ∀ b x y, b ≠ 1197 → b ≠ 1270 → W b x y = X b x y) ?_ ?_ ⟨X, rfl, fun z y z0 z1 => by omega, fun a a0 a1 => by omega, fun _ _ _ _ _ => rfl⟩ (by omega) (by omega)
    · rintro i _ i0 i1 ⟨W, rfl, h1, h3, h2⟩
      unfold qf_X4_takeTables_L40_b qbnd
      (try dsimp only)
      rw [if_neg (by omega)]
      simp only [if_pos (show 0 ≤ i ∧ i < 20 from ⟨i0, i1⟩)]
      rw [w32_id (x := i + 1) (by omega) (by omega)]
      refine qW_some ⟨_, rfl, fun z y z0 z1 y0 y1 => ?_, fun a a0 a1 => ?_, fun b x y z1 z2 => ?_⟩
      · rw [qw_a (by decide), qcp2_ap]
        by_cases ez : z = i
        · rw [if_pos (by omega), ez, show y - 0 + 0 = y by omega]
          exact h2 _ _ _ (by decide) (by decide)
        · rw [if_neg (by omega)]
          exact h1 z y z0 (by omega) y0 y1
      · by_cases ea : a = i
        · rw [ea]
          exact qw_s
        · rw [qw_i ea, qcp2_ap, if_neg (by omega)]
          exact h3 a a0 (by omega)
      · rw [qw_a z2, qcp2_ap, if_neg (by omega)]
        exact h2 b x y z1 z2
    · rintro _ ⟨W, rfl, h1, h2⟩
      unfold qf_X4_takeTables_L40_b
      (try dsimp only)
      rw [if_pos (by omega)]
      exact qW_some ⟨W, rfl, h1, h2⟩
  have Y12 : Y 908 12 0 = A 908 12 0 := (y3 _ _ _ (by decide) (by decide)).trans (x2 _ _ _ (by decide))
  obtain ⟨ρ, hρ⟩ : ∃ ρ, A 908 12 0 = ρ := ⟨_, rfl⟩
  rw [hρ] at n0 n1 Y12 ⊢
  obtain ⟨o, e3, Z, rfl, z1, z2⟩ : qW (qf_X4_takeTables_L85 20000 20000 0 Y) (fun o => ∃ W, o = .inr ((), W) ∧ (∀ r y, 0 ≤ r → r < ρ → 0 ≤ y → y < 3 → W 1218 r y = Y 952 r y) ∧ ∀ b x y, b ≠ 1218 → W b x y = Y b x y) := by
    unfold qf_X4_takeTables_L85
    refine qW_for ρ (fun i s => ∃ W, s = (i, W) ∧ (∀ z y, 0 ≤ z → z < i → 0 ≤ y → y < 3 → W 1218 z y = Y 952 z y) ∧ ∀ b x y, b ≠ 1218 → W b x y = Y b x y) ?_ ?_ ⟨Y, rfl, fun z y z0 z1 => by omega, fun _ _ _ _ => rfl⟩ n0 (by omega)
    · rintro i _ i0 i1 ⟨W, rfl, h1, h2⟩
      unfold qf_X4_takeTables_L85_b qbnd
      (try dsimp only)
      have w12 : W 908 12 0 = ρ := (h2 908 12 0 (by decide)).trans Y12
      rw [if_neg (by omega)]
      simp only [if_pos (show 0 ≤ i ∧ i < 50 by omega)]
      rw [w32_id (x := i + 1) (by omega) (by omega)]
      refine qW_some ⟨_, rfl, fun z y z0 z1 y0 y1 => ?_, fun b x y z => ?_⟩
      · rw [qcp2_ap]
        by_cases ez : z = i
        · rw [if_pos (by omega), ez, show y - 0 + 0 = y by omega]
          exact h2 _ _ _ (by decide)
        · rw [if_neg (by omega)]
          exact h1 z y z0 (by omega) y0 y1
      · rw [qcp2_ap, if_neg (by omega)]
        exact h2 b x y z
    · rintro _ ⟨W, rfl, h1, h2⟩
      unfold qf_X4_takeTables_L85_b
      (try dsimp only)
      have w12 : W 908 12 0 = ρ := (h2 908 12 0 (by decide)).trans Y12
      rw [if_pos (by omega)]
      exact qW_some ⟨W, rfl, h1, h2⟩
  obtain ⟨V, hV⟩ : ∃ V, qw Z 1172 9 0 ρ = V := ⟨_, rfl⟩
  have fV : ∀ b x y, ¬ (b = 1172 ∧ x = 9) → V b x y = Z b x y := fun b x y z => by rw [← hV, qw_ap, if_neg (by omega)]
  obtain ⟨B, e4, b1, b2⟩ := sort_C (A := V)
  refine ⟨B, ?_, fun z y q0 q1 q2 q3 => ?_, fun z y q0 q1 q2 q3 => ?_, fun a q0 q1 => ?_, fun r y q0 q1 q2 q3 => ?_, ?_, ?_, fun b x y q1 q2 q3 q4 q5 q6 => ?_⟩
  · unfold qf_X4_takeTables qbnd
    rw [e1]
    simp only [Option.bind_some]
    rw [e2]
    simp only [Option.bind_some]
    rw [e3]
    simp only [Option.bind_some]
    rw [z2 908 12 0 (by decide), Y12, hV, e4]
    rfl
  · rw [b1 _ _ _ (by decide), fV _ _ _ (by omega), z2 _ _ _ (by decide), y3 _ _ _ (by decide) (by decide)]
    exact x1 z y q0 q1 q2 q3
  · rw [b1 _ _ _ (by decide), fV _ _ _ (by omega), z2 _ _ _ (by decide), y1 z y q0 q1 q2 q3]
    exact x2 _ _ _ (by decide)
  · rw [b1 _ _ _ (by decide), fV _ _ _ (by omega), z2 _ _ _ (by decide)]
    exact y2 a q0 q1
  · rw [b1 _ _ _ (by decide), fV _ _ _ (by omega), z1 r y q0 q1 q2 q3, y3 _ _ _ (by decide) (by decide)]
    exact x2 _ _ _ (by decide)
  · rw [b1 _ _ _ (by decide), ← hV]
    exact qw_s
  · have e : (fun a => B 1197 a 2) = (fun a => V 1197 a 2) := funext (fun a => b1 _ _ _ (by decide))
    rw [e]
    exact b2
  · rw [b1 b x y q5, fV b x y q6, z2 b x y q4, y3 b x y q2 q3]
    exact x2 b x y q1
end MTm
