/-! ===== rules: clauses are reckoned alike ===== -/
section WDz
variable {M K A Z W M0 K0 : qm} {kd vl : Int → Int} {row : List (Int × Int)} {a b c d s u v n p q k to e h x y cl r u1 l1 u2 l2 a1 : Int} {N m : Nat}
theorem reck_both (hl : LSW kd n) (kv : KDV M kd vl n) (fc : FC3 M K) (hc : M 735 11 0 = c) (c0 : 0 ≤ c) (c1 : c ≤ n) (m12 : M 735 12 0 = 0) (m13 : M 735 13 0 = 0) (k40 : K 2184 40 0 = 0) (k41 : K 2184 41 0 = 0) (h1 : (pS kd vl 12 0 c).1 = 1) (ra : RAT K k (pS kd vl 12 0 c).2.2) (k0 : 0 ≤ k) (kt : to = k + (pS kd vl 12 0 c).2.2.length) (t8 : to ≤ 400) : ∃ A W, qf_X7_reckonSide 20000 0 M = some ((), A) ∧ qf_X15_reckon 20000 k to K = some ((), W) ∧ FRC M A ∧ FRK K W 0 ∧ ((VLG A W 0 ∧ A 735 11 0 = (pS kd vl 12 0 c).2.1) ∨ (VLB A W ∧ 0 ≤ A 735 11 0 ∧ A 735 11 0 ≤ 120)) := by
  obtain ⟨K1, hK1⟩ : ∃ X, qw K 2184 39 0 0 = X := ⟨_, rfl⟩
  have fK1 : FRK K K1 0 := fun b i j z1 z2 => by rw [← hK1, qw_ap, if_neg (by omega)]
  have f1 : ∀ x, x ≠ 39 → K1 2184 x 0 = K 2184 x 0 := fun x z => by rw [← hK1, qw_ap, if_neg (by omega)]
  have bg : RBG kd vl n M K1 c 0 := ⟨kv, fc3_o fc (fun _ _ _ _ => rfl) fK1, hc, c0, c1, m12, m13, (f1 40 (by decide)).trans k40, (f1 41 (by decide)).trans k41, by rw [← hK1]; exact qw_s, Int.le_refl _⟩
  obtain ⟨A, W, e1, fA, fW, hv⟩ := rsides_all (vl := vl) hl 12 0 (by decide) (by decide) (by decide) c M K1 0 k to bg h1 (by decide) (frk_rat fK1 ra) k0 (by show k + ((pS kd vl 12 0 c).2.2.length : Int) ≤ to; omega) (by omega)
  have st : qf_X15_reckon 20000 k to K = (qf_X15_reckon_L7 20000 20000 to k K1).bind (fun r => (match r with | .inl o => some o | .inr (_, M27) => some ((), M27))) := by
    unfold qf_X15_reckon qbnd
    rw [hK1]
    (try rfl)
  refine ⟨A, W, e1, ?_, fA, frk_t fK1 fW (Int.le_refl _), ?_⟩
  · rw [st]
    rcases hv with ⟨vg, cA, lp⟩ | ⟨vb, cb0, cb1, j, j1, lp⟩
    · obtain ⟨N, hN⟩ : ∃ N, 20000 = N + 1 + (pS kd vl 12 0 c).2.2.length := ⟨20000 - 1 - (pS kd vl 12 0 c).2.2.length, by omega⟩
      have := lp (N + 1)
      (try dsimp only at this)
      rw [← hN, ← kt, l7_stop (Or.inl (Int.le_refl _))] at this
      rw [this]
      rfl
    · obtain ⟨N, hN⟩ : ∃ N, 20000 = N + j + 1 := ⟨20000 - 1 - j, by (try dsimp only at j1); omega⟩
      have := lp N
      rw [← hN] at this
      rw [this]
      rfl
  · rcases hv with ⟨vg, cA, lp⟩ | ⟨vb, cb0, cb1, _⟩
    · exact Or.inl ⟨vg, cA⟩
    · exact Or.inr ⟨vb, cb0, cb1⟩
/-- what the signs say -/
theorem cmp_both (hs : isR s) (m12 : M 735 12 0 = 0) (m13 : M 735 13 0 = 0) (mu : M 735 14 0 = u2) (ml : M 735 15 0 = l2) (k40 : K 2184 40 0 = 0) (k41 : K 2184 41 0 = 0) (k42 : K 2184 42 0 = u1) (k43 : K 2184 43 0 = l1) (ku : K 2206 0 0 = u2) (kl : K 2207 0 0 = l2) (f1 : FIT u1) (f2 : FIT l1) (f3 : FIT u2) (f4 : FIT l2) (c0 : 0 ≤ cl) (c1 : cl < 120) (ks : K 2195 cl 0 = rel s) : ∃ b A W, qf_X7_compareWith 20000 s u1 l1 M = some (b, A) ∧ qf_X15_holds_J122 20000 cl K = some (b, W) ∧ (b = 0 ∨ b = 1) ∧ (∀ b x y, ¬ (b = 735 ∧ x = 12) → A b x y = M b x y) ∧ (∀ b x y, ¬ (b = 2184 ∧ (x = 40 ∨ x = 41)) → W b x y = K b x y) ∧ ((A 735 12 0 = 0 ∧ W 2184 40 0 = 0 ∧ W 2184 41 0 = 0) ∨ (b = 0 ∧ A 735 12 0 = 2 ∧ W 2184 40 0 = 2 ∧ W 2184 41 0 = 0)) := by
  obtain ⟨p, B, e1, pf, pB, hp⟩ := mu_C f1 f4 M
  obtain ⟨q, A, e2, qf, qA, hq⟩ := mu_C f3 f2 B
  obtain ⟨p', X, e3, pf', pX, hp'⟩ := mu_K f1 f4 K
  obtain ⟨q', W, e4, qf', qW, hq'⟩ := mu_K f3 f2 X
  have B14 : B 735 14 0 = u2 := (pB _ _ _ (by decide)).trans mu
  have Xu : X 2206 0 0 = u2 := (pX _ _ _ (by decide)).trans ku
  have X43 : X 2184 43 0 = l1 := (pX _ _ _ (by decide)).trans k43
  have fA : ∀ b x y, ¬ (b = 735 ∧ x = 12) → A b x y = M b x y := fun b x y z => (qA b x y z).trans (pB b x y z)
  have fW : ∀ b x y, ¬ (b = 2184 ∧ (x = 40 ∨ x = 41)) → W b x y = K b x y := fun b x y z => (qW b x y z).trans (pX b x y z)
  have Ws : W 2195 cl 0 = rel s := (fW _ _ _ (by omega)).trans ks
  have cc : 0 ≤ cl ∧ cl < 120 := ⟨c0, c1⟩
  have eC : qf_X7_compareWith 20000 s u1 l1 M = (if A 735 12 0 = 0 then if s = 60 then if q ≤ p then some (0, A) else some (1, A) else if s = 61 then if p = q then some (1, A) else some (0, A) else if s = 103 then if p < q then some (0, A) else some (1, A) else if s = 108 then if q < p then some (0, A) else some (1, A) else if p ≤ q then some (0, A) else some (1, A) else some (0, A)) := by
    unfold qf_X7_compareWith
    rw [ml, e1]
    simp only [Option.bind_some]
    rw [B14, e2]
    rfl
  have eK : qf_X15_holds_J122 20000 cl K = (if W 2184 40 0 ≤ 0 then (if rel s = 0 then if q' ≤ p' then some (0, W) else some (1, W) else if rel s = 1 then if q' < p' then some (0, W) else some (1, W) else if rel s = 2 then if p' = q' then some (1, W) else some (0, W) else if rel s = 3 then if p' < q' then some (0, W) else some (1, W) else if p' ≤ q' then some (0, W) else some (1, W)) else some (0, W)) := by
    unfold qf_X15_holds_J122
    rw [k42, kl, e3]
    simp only [Option.bind_some]
    rw [Xu, X43, e4]
    simp only [Option.bind_some]
    rw [if_pos cc, Ws]
  rw [eC, eK]
  by_cases g : FIT (u1 * l2) ∧ FIT (u2 * l1)
  · have A12 : A 735 12 0 = 0 ∧ p = u1 * l2 ∧ q = u2 * l1 := by
      rcases hp with ⟨_, x1, x2⟩ | ⟨x, _⟩
      · rcases hq with ⟨_, y1, y2⟩ | ⟨y, _⟩
        · exact ⟨by omega, x1, y1⟩
        · exact absurd g.2 y
      · exact absurd g.1 x
    have W40 : W 2184 40 0 = 0 ∧ W 2184 41 0 = 0 ∧ p' = u1 * l2 ∧ q' = u2 * l1 := by
      rcases hp' with ⟨_, _, x1, x2⟩ | ⟨_, x, _⟩ | ⟨x, _⟩
      · rw [x2] at hq'
        rcases hq' with ⟨_, _, y1, y2⟩ | ⟨_, y, _⟩ | ⟨y, _⟩
        · exact ⟨by rw [y2]; exact k40, by rw [y2]; exact k41, x1, y1⟩
        · exact absurd g.2 y
        · exact absurd k40 y
      · exact absurd g.1 x
      · exact absurd k40 x
    rw [if_pos A12.1, if_pos (show W 2184 40 0 ≤ 0 by omega), A12.2.1, A12.2.2, W40.2.2.1, W40.2.2.2]
    generalize u1 * l2 = P
    generalize u2 * l1 = Q
    have fin : ∀ b : Int, (b = 0 ∨ b = 1) → ∃ b' A' W', (some (b, A) : Option (Int × qm)) = some (b', A') ∧ (some (b, W) : Option (Int × qm)) = some (b', W') ∧ (b' = 0 ∨ b' = 1) ∧ (∀ b x y, ¬ (b = 735 ∧ x = 12) → A' b x y = M b x y) ∧ (∀ b x y, ¬ (b = 2184 ∧ (x = 40 ∨ x = 41)) → W' b x y = K b x y) ∧ ((A' 735 12 0 = 0 ∧ W' 2184 40 0 = 0 ∧ W' 2184 41 0 = 0) ∨ (b' = 0 ∧ A' 735 12 0 = 2 ∧ W' 2184 40 0 = 2 ∧ W' 2184 41 0 = 0)) := fun b hb => ⟨b, A, W, rfl, rfl, hb, fA, fW, Or.inl ⟨A12.1, W40.1, W40.2.1⟩⟩
    unfold isR at hs
    rcases hs with rfl | rfl | rfl | rfl | rfl
    · rw [if_pos rfl, if_pos (show rel 60 = 0 by decide)]
      by_cases z : Q ≤ P
      · rw [if_pos z, if_pos z]
        exact fin 0 (Or.inl rfl)
      · rw [if_neg z, if_neg z]
        exact fin 1 (Or.inr rfl)
    · rw [if_neg (show ¬ (108 : Int) = 60 by decide), if_neg (show ¬ (108 : Int) = 61 by decide), if_neg (show ¬ (108 : Int) = 103 by decide), if_pos rfl, if_neg (show ¬ rel 108 = 0 by decide), if_pos (show rel 108 = 1 by decide)]
      by_cases z : Q < P
      · rw [if_pos z, if_pos z]
        exact fin 0 (Or.inl rfl)
      · rw [if_neg z, if_neg z]
        exact fin 1 (Or.inr rfl)
    · rw [if_neg (show ¬ (61 : Int) = 60 by decide), if_pos rfl, if_neg (show ¬ rel 61 = 0 by decide), if_neg (show ¬ rel 61 = 1 by decide), if_pos (show rel 61 = 2 by decide)]
      by_cases z : P = Q
      · rw [if_pos z, if_pos z]
        exact fin 1 (Or.inr rfl)
      · rw [if_neg z, if_neg z]
        exact fin 0 (Or.inl rfl)
    · rw [if_neg (show ¬ (103 : Int) = 60 by decide), if_neg (show ¬ (103 : Int) = 61 by decide), if_pos rfl, if_neg (show ¬ rel 103 = 0 by decide), if_neg (show ¬ rel 103 = 1 by decide), if_neg (show ¬ rel 103 = 2 by decide), if_pos (show rel 103 = 3 by decide)]
      by_cases z : P < Q
      · rw [if_pos z, if_pos z]
        exact fin 0 (Or.inl rfl)
      · rw [if_neg z, if_neg z]
        exact fin 1 (Or.inr rfl)
    · rw [if_neg (show ¬ (62 : Int) = 60 by decide), if_neg (show ¬ (62 : Int) = 61 by decide), if_neg (show ¬ (62 : Int) = 103 by decide), if_neg (show ¬ (62 : Int) = 108 by decide), if_neg (show ¬ rel 62 = 0 by decide), if_neg (show ¬ rel 62 = 1 by decide), if_neg (show ¬ rel 62 = 2 by decide), if_neg (show ¬ rel 62 = 3 by decide)]
      by_cases z : P ≤ Q
      · rw [if_pos z, if_pos z]
        exact fin 0 (Or.inl rfl)
      · rw [if_neg z, if_neg z]
        exact fin 1 (Or.inr rfl)
  · have A12 : A 735 12 0 = 2 := by
      rcases hq with ⟨y0, _, y2⟩ | ⟨_, y⟩
      · rcases hp with ⟨x0, _, _⟩ | ⟨_, x⟩
        · exact absurd ⟨x0, y0⟩ g
        · omega
      · exact y
    have W40 : W 2184 40 0 = 2 ∧ W 2184 41 0 = 0 := by
      rcases hp' with ⟨_, x0, _, x2⟩ | ⟨_, _, x1, x2⟩ | ⟨x, _⟩
      · rw [x2] at hq'
        rcases hq' with ⟨_, y0, _⟩ | ⟨_, _, y1, y2⟩ | ⟨y, _⟩
        · exact absurd ⟨x0, y0⟩ g
        · exact ⟨y1, y2⟩
        · exact absurd k40 y
      · rcases hq' with ⟨y, _⟩ | ⟨y, _⟩ | ⟨_, y⟩
        · omega
        · omega
        · rw [y]
          exact ⟨x1, x2⟩
      · exact absurd k40 x
    rw [if_neg (show ¬ A 735 12 0 = 0 by omega), if_neg (show ¬ W 2184 40 0 ≤ 0 by omega)]
    exact ⟨0, A, W, rfl, rfl, Or.inl rfl, fA, fW, Or.inr ⟨rfl, A12, W40.1, W40.2⟩⟩
/-- a clause -/
theorem clau_both (hl : LSW kd n) (kv : KDV M kd vl n) (fc : FC3 M K) (hc : M 735 11 0 = c) (c0 : 0 ≤ c) (c1 : c ≤ n) (m12 : M 735 12 0 = 0) (m13 : M 735 13 0 = 0) (k40 : K 2184 40 0 = 0) (k41 : K 2184 41 0 = 0) (hk : CLK kd vl K 0 0 cl c) (q0 : 0 ≤ cl) (q1 : cl < 60) (r0 : 0 ≤ r) (r1 : r < 12) (h1 : K 2199 r 0 = M 740 a1 1) (h2 : K 2200 r 0 = M 740 a1 2) (h3 : K 2201 r 0 = M 740 a1 3) (h4 : K 2202 r 0 = M 740 a1 4) : ∃ b A W, qf_X7_reckonClause 20000 a1 M = some (b, A) ∧ qf_X15_holds 20000 cl r K = some (b, W) ∧ (b = 0 ∨ b = 1) ∧ (∀ b x y, ¬ (b = 735 ∧ 11 ≤ x ∧ x ≤ 15) → ¬ (b = 740 ∧ x = a1 ∧ 1 ≤ y ∧ y ≤ 4) → A b x y = M b x y) ∧ (∀ b i j, ¬ (b = 2206 ∨ b = 2207) → ¬ (b = 2184 ∧ 39 ≤ i ∧ i ≤ 43) → ¬ (2199 ≤ b ∧ b ≤ 2202 ∧ i = r) → W b i j = K b i j) ∧ ((A 735 12 0 = 0 ∧ A 735 13 0 = 0 ∧ W 2184 40 0 = 0 ∧ W 2184 41 0 = 0 ∧ A 735 11 0 = (pC kd vl c).2) ∨ (b = 0 ∧ VLB A W ∧ 0 ≤ A 735 11 0 ∧ A 735 11 0 ≤ 120)) ∧ W 2199 r 0 = A 740 a1 1 ∧ W 2200 r 0 = A 740 a1 2 ∧ W 2201 r 0 = A 740 a1 3 ∧ W 2202 r 0 = A 740 a1 4 := by
  have n1 := hl.2.1
  obtain ⟨x1, x2, x3, x4, x5, x6, x7, x8, x9, x10⟩ := hk
  rw [Int.zero_add] at x1 x2 x3 x4 x5 x7 x8
  rw [Int.zero_add] at x7 x8
  have ok := pS_ok (vl := vl) hl 12 0 c c0 c1
  obtain ⟨o1, o2, o3, o4⟩ := ok
  have pe : pC kd vl c = ((pS kd vl 12 0 ((pS kd vl 12 0 c).2.1 + 1)).1, (pS kd vl 12 0 ((pS kd vl 12 0 c).2.1 + 1)).2.1) := by
    unfold pC
    rw [if_neg (by omega), if_pos x6]
  rw [pe]
  (try dsimp only)
  obtain ⟨c2, hc2⟩ : ∃ c2, (pS kd vl 12 0 c).2.1 = c2 := ⟨_, rfl⟩
  rw [hc2] at x4 x5 x6 x8 x10 o2 o3 ⊢
  have cn := lst_lt hl o3 (by unfold isR at x6; omega) (by unfold isR at x6; omega)
  have ok2 := pS_ok (vl := vl) hl 12 0 (c2 + 1) (by omega) (by omega)
  have cc : 0 ≤ cl ∧ cl < 120 := by omega
  -- the first side
  obtain ⟨A1, W1, e1, e2, fA1, fW1, hv1⟩ := reck_both hl kv fc hc c0 c1 m12 m13 k40 k41 x9 x7 x1 x3 (by omega)
  rw [hc2] at hv1
  have stC : qf_X7_reckonClause 20000 a1 M = (if A1 735 12 0 = 0 then (qf_X7_takeWord 20000 (qw (qw A1 740 a1 1 (A1 735 14 0)) 740 a1 2 (A1 735 15 0))).bind (fun r9 => (qf_X7_reckonSide 20000 0 r9.2).bind (fun r11 => if (r11.2 735 12 0) = 0 then (qf_X7_compareWith 20000 r9.1 (qw (qw r11.2 740 a1 3 (r11.2 735 14 0)) 740 a1 4 (r11.2 735 15 0) 740 a1 1) (qw (qw r11.2 740 a1 3 (r11.2 735 14 0)) 740 a1 4 (r11.2 735 15 0) 740 a1 2) (qw (qw r11.2 740 a1 3 (r11.2 735 14 0)) 740 a1 4 (r11.2 735 15 0))).bind (fun r20 => if (r20.1 = 0 ∨ r20.1 = 1) then some (r20.1, r20.2) else none) else some (0, r11.2))) else some (0, A1)) := by
    unfold qf_X7_reckonClause qbnd
    rw [e1]
    simp only [Option.bind_some]
    rfl
  obtain ⟨K2, hK2⟩ : ∃ X, (qw (qw (qw (qw W1 2184 42 0 (W1 2206 0 0)) 2184 43 0 (W1 2207 0 0)) 2199 r 0 (W1 2206 0 0)) 2200 r 0 (W1 2207 0 0)) = X := ⟨_, rfl⟩
  have stK : qf_X15_holds 20000 cl r K = (if W1 2184 40 0 ≤ 0 then qf_X15_holds_J69 20000 cl r K2 else some (0, W1)) := by
    unfold qf_X15_holds qbnd
    rw [if_pos cc, if_pos cc, e2]
    simp only [Option.bind_some]
    rw [if_neg (show ¬ r < 0 by omega), if_pos (show 0 ≤ r ∧ r < 12 from ⟨r0, r1⟩), if_pos (show 0 ≤ r ∧ r < 12 from ⟨r0, r1⟩)]
    have p1 : qw W1 2184 42 0 (W1 2206 0 0) 2207 0 0 = W1 2207 0 0 := qw_a (by decide)
    have p2 : (qw (qw W1 2184 42 0 (W1 2206 0 0)) 2184 43 0 (W1 2207 0 0)) 2184 42 0 = W1 2206 0 0 := (qw_i (by decide)).trans qw_s
    have p3 : qw (qw (qw W1 2184 42 0 (W1 2206 0 0)) 2184 43 0 (W1 2207 0 0)) 2199 r 0 (W1 2206 0 0) 2184 43 0 = W1 2207 0 0 := (qw_a (by decide)).trans qw_s
    rw [p1, p2, p3, hK2]
  rw [stC, stK]
  rcases hv1 with ⟨vg1, cA1⟩ | ⟨vb1, cb0, cb1⟩
  · obtain ⟨v1, v2, v3, v4, v5, v6, v7, v8, v9, v10⟩ := vg1
    rw [if_pos v1, if_pos (show W1 2184 40 0 ≤ 0 by omega)]
    obtain ⟨B, hB⟩ : ∃ X, qw (qw A1 740 a1 1 (A1 735 14 0)) 740 a1 2 (A1 735 15 0) = X := ⟨_, rfl⟩
    rw [hB]
    have fB : ∀ b x y, ¬ (b = 740 ∧ x = a1 ∧ 1 ≤ y ∧ y ≤ 4) → B b x y = A1 b x y := fun b x y z => by rw [← hB, qw_ap, if_neg (by omega), qw_ap, if_neg (by omega)]
    have kvB : KDV B kd vl n := ⟨fun j j0 j1 => by rw [fB 736 _ _ (by omega), fB 737 _ _ (by omega)]; exact (kdv_o kv fA1).1 j j0 j1, kv.2⟩
    have cB : B 735 11 0 = c2 := (fB _ _ _ (by omega)).trans cA1
    have tw := tw_C (M := B) cB (by omega) (by omega) (kvB.1 c2 (by omega) (by omega)).1
    obtain ⟨D, hD⟩ : ∃ X, qw B 735 11 0 (c2 + 1) = X := ⟨_, rfl⟩
    rw [hD] at tw
    rw [tw]
    simp only [Option.bind_some]
    have fD : ∀ b x y, ¬ (b = 735 ∧ x = 11) → D b x y = B b x y := fun b x y z => by rw [← hD, qw_ap, if_neg (by omega)]
    have kvD : KDV D kd vl n := kdv_o kvB (fun b x y z => fD b x y (by omega))
    have fMD : ∀ b x y, ¬ (b = 735 ∧ 11 ≤ x ∧ x ≤ 15) → ¬ (b = 740 ∧ x = a1 ∧ 1 ≤ y ∧ y ≤ 4) → D b x y = M b x y := fun b x y z1 z2 => by
      rw [fD b x y (by omega), fB b x y z2]
      exact fA1 b x y z1
    have fK2 : ∀ b i j, ¬ (b = 2184 ∧ (i = 42 ∨ i = 43)) → ¬ (2199 ≤ b ∧ b ≤ 2202 ∧ i = r) → K2 b i j = W1 b i j := fun b i j z1 z2 => by
      rw [← hK2]
      rw [qw_ap, if_neg (by omega), qw_ap, if_neg (by omega), qw_ap, if_neg (by omega), qw_ap, if_neg (by omega)]
    have fKK2 : ∀ b i j, ¬ (b = 2206 ∨ b = 2207) → ¬ (b = 2184 ∧ 39 ≤ i ∧ i ≤ 43) → ¬ (2199 ≤ b ∧ b ≤ 2202 ∧ i = r) → K2 b i j = K b i j := fun b i j z1 z2 z3 => by
      rw [fK2 b i j (by omega) z3]
      exact fW1 b i j (by omega) (by omega)
    have fcD : FC3 D K2 := by
      obtain ⟨g1, g2, g3⟩ := fc3_o fc fA1 fW1
      unfold R_factn at g1
      unfold R_facts at g2
      unfold R_factd at g3
      have d8 : D 735 8 0 = A1 735 8 0 := (fD _ _ _ (by omega)).trans (fB _ _ _ (by omega))
      have d54 : ∀ k, D 754 k 0 = A1 754 k 0 := fun k => (fD _ _ _ (by omega)).trans (fB _ _ _ (by omega))
      have d55 : ∀ k, D 755 k 0 = A1 755 k 0 := fun k => (fD _ _ _ (by omega)).trans (fB _ _ _ (by omega))
      refine ⟨?_, fun k k0 k1 => ?_, fun j k j0 jk k1 => ?_⟩
      · unfold R_factn
        rw [d8, fK2 2184 2 0 (by omega) (by omega)]
        exact g1
      · rw [d8] at k1
        rw [d54, d55, fK2 2186 _ _ (by omega) (by omega), fK2 2187 _ _ (by omega) (by omega)]
        exact g2 k k0 k1
      · rw [d8] at k1
        rw [d54, d54]
        exact g3 j k j0 jk k1
    have D12 : D 735 12 0 = 0 := (fD _ _ _ (by omega)).trans ((fB _ _ _ (by omega)).trans v1)
    have D13 : D 735 13 0 = 0 := (fD _ _ _ (by omega)).trans ((fB _ _ _ (by omega)).trans v2)
    have D11 : D 735 11 0 = c2 + 1 := by rw [← hD]; exact qw_s
    have k240 : K2 2184 40 0 = 0 := (fK2 _ _ _ (by omega) (by omega)).trans v3
    have k241 : K2 2184 41 0 = 0 := (fK2 _ _ _ (by omega) (by omega)).trans v4
    have k242 : K2 2184 42 0 = A1 735 14 0 := by rw [← hK2, qw_a (by decide), qw_a (by decide), qw_i (by decide)]; exact qw_s.trans v6
    have k243 : K2 2184 43 0 = A1 735 15 0 := by rw [← hK2, qw_a (by decide), qw_a (by decide)]; exact qw_s.trans v7
    have kr1 : K2 2199 r 0 = A1 735 14 0 := by rw [← hK2, qw_a (by decide)]; exact qw_s.trans v6
    have kr2 : K2 2200 r 0 = A1 735 15 0 := by rw [← hK2]; exact qw_s.trans v7
    have kr3 : K2 2201 r 0 = M 740 a1 3 := by rw [← hK2, qw_a (by decide), qw_a (by decide), qw_a (by decide), qw_a (by decide), fW1 _ _ _ (by omega) (by omega)]; exact h3
    have kr4 : K2 2202 r 0 = M 740 a1 4 := by rw [← hK2, qw_a (by decide), qw_a (by decide), qw_a (by decide), qw_a (by decide), fW1 _ _ _ (by omega) (by omega)]; exact h4
    have cr1 : D 740 a1 1 = A1 735 14 0 := by rw [fD _ _ _ (by omega), ← hB, qw_j (by decide)]; exact qw_s
    have cr2 : D 740 a1 2 = A1 735 15 0 := by rw [fD _ _ _ (by omega), ← hB]; exact qw_s
    have cr3 : D 740 a1 3 = M 740 a1 3 := by rw [fD _ _ _ (by omega), ← hB, qw_j (by decide), qw_j (by decide)]; exact fA1 _ _ _ (by omega)
    have cr4 : D 740 a1 4 = M 740 a1 4 := by rw [fD _ _ _ (by omega), ← hB, qw_j (by decide), qw_j (by decide)]; exact fA1 _ _ _ (by omega)
    have mid : K2 2193 cl 0 = K 2193 cl 0 := fKK2 _ _ _ (by omega) (by omega) (by omega)
    have tos : K2 2194 cl 0 = K 2194 cl 0 := fKK2 _ _ _ (by omega) (by omega) (by omega)
    have sgn : K2 2195 cl 0 = rel (kd c2) := (fKK2 _ _ _ (by omega) (by omega) (by omega)).trans x5
    have ra2 : RAT K2 (K 2193 cl 0) (pS kd vl 12 0 (c2 + 1)).2.2 := rat_fr (fun i _ _ => ⟨fKK2 _ _ _ (by omega) (by omega) (by omega), fKK2 _ _ _ (by omega) (by omega) (by omega)⟩) x8
    obtain ⟨A2, W2, e3, e4, fA2, fW2, hv2⟩ := reck_both hl kvD fcD D11 (by omega) (by omega) D12 D13 k240 k241 x10 ra2 (by omega) x4 (by omega)
    rw [e3]
    simp only [Option.bind_some]
    unfold qf_X15_holds_J69 qbnd
    rw [if_pos cc, if_pos cc, mid, tos, e4]
    simp only [Option.bind_some]
    rcases hv2 with ⟨vg2, cA2⟩ | ⟨vb2, cb0, cb1⟩
    · obtain ⟨y1, y2, y3, y4, y5, y6, y7, y8, y9, y10⟩ := vg2
      rw [if_pos y1, if_pos (show W2 2184 40 0 ≤ 0 by omega)]
      obtain ⟨E, hE⟩ : ∃ X, qw (qw A2 740 a1 3 (A2 735 14 0)) 740 a1 4 (A2 735 15 0) = X := ⟨_, rfl⟩
      rw [hE]
      have fE : ∀ b x y, ¬ (b = 740 ∧ x = a1 ∧ 1 ≤ y ∧ y ≤ 4) → E b x y = A2 b x y := fun b x y z => by rw [← hE, qw_ap, if_neg (by omega), qw_ap, if_neg (by omega)]
      have E1 : E 740 a1 1 = A1 735 14 0 := by rw [← hE, qw_j (by decide), qw_j (by decide), fA2 _ _ _ (by omega)]; exact cr1
      have E2 : E 740 a1 2 = A1 735 15 0 := by rw [← hE, qw_j (by decide), qw_j (by decide), fA2 _ _ _ (by omega)]; exact cr2
      have E3 : E 740 a1 3 = A2 735 14 0 := by rw [← hE, qw_j (by decide)]; exact qw_s
      have E4 : E 740 a1 4 = A2 735 15 0 := by rw [← hE]; exact qw_s
      obtain ⟨Q, hQ⟩ : ∃ X, qw (qw W2 2201 r 0 (W2 2206 0 0)) 2202 r 0 (W2 2207 0 0) = X := ⟨_, rfl⟩
      have fQ : ∀ b i j, ¬ (2199 ≤ b ∧ b ≤ 2202 ∧ i = r) → Q b i j = W2 b i j := fun b i j z => by rw [← hQ, qw_ap, if_neg (by omega), qw_ap, if_neg (by omega)]
      have Q1 : Q 2199 r 0 = A1 735 14 0 := by rw [← hQ, qw_a (by decide), qw_a (by decide), fW2 _ _ _ (by omega) (by omega)]; exact kr1
      have Q2 : Q 2200 r 0 = A1 735 15 0 := by rw [← hQ, qw_a (by decide), qw_a (by decide), fW2 _ _ _ (by omega) (by omega)]; exact kr2
      have Q3 : Q 2201 r 0 = A2 735 14 0 := by rw [← hQ, qw_a (by decide), qw_s]; exact y6
      have Q4 : Q 2202 r 0 = A2 735 15 0 := by rw [← hQ, qw_s]; exact y7
      rw [if_neg (show ¬ r < 0 by omega), if_pos (show 0 ≤ r ∧ r < 12 from ⟨r0, r1⟩)]
      (try dsimp only)
      rw [if_pos (show 0 ≤ r ∧ r < 12 from ⟨r0, r1⟩), show qw W2 2201 r 0 (W2 2206 0 0) 2207 0 0 = W2 2207 0 0 from qw_a (by decide), hQ]
      rw [E1, E2]
      obtain ⟨b, G, R, e5, e6, hb, fG, fR, hv3⟩ := cmp_both (M := E) (K := Q) (cl := cl) x6 ((fE _ _ _ (by omega)).trans y1) ((fE _ _ _ (by omega)).trans y2) (fE _ _ _ (by omega)) (fE _ _ _ (by omega)) ((fQ _ _ _ (by omega)).trans y3) ((fQ _ _ _ (by omega)).trans y4) ((fQ _ _ _ (by omega)).trans ((fW2 _ _ _ (by omega) (by omega)).trans k242)) ((fQ _ _ _ (by omega)).trans ((fW2 _ _ _ (by omega) (by omega)).trans k243)) ((fQ _ _ _ (by omega)).trans y6) ((fQ _ _ _ (by omega)).trans y7) v8 v9 y8 y9 q0 (by omega) ((fQ _ _ _ (by omega)).trans ((fW2 _ _ _ (by omega) (by omega)).trans sgn))
      rw [e5, e6]
      simp only [Option.bind_some]
      rw [if_pos hb]
      have G11 : G 735 11 0 = (pS kd vl 12 0 (c2 + 1)).2.1 := by
        rw [fG _ _ _ (by omega), fE _ _ _ (by omega)]
        exact cA2
      have G13 : G 735 13 0 = 0 := by
        rw [fG _ _ _ (by omega), fE _ _ _ (by omega)]
        exact y2
      refine ⟨b, G, R, rfl, rfl, hb, fun b x y z1 z2 => ?_, fun b i j z1 z2 z3 => ?_, ?_, ?_, ?_, ?_, ?_⟩
      · rw [fG b x y (by omega), fE b x y z2, fA2 b x y z1]
        exact fMD b x y z1 z2
      · rw [fR b i j (by omega), fQ b i j z3, fW2 b i j (by omega) (by omega)]
        exact fKK2 b i j z1 z2 z3
      · rcases hv3 with ⟨t1, t2, t3⟩ | ⟨t0, t1, t2, t3⟩
        · exact Or.inl ⟨t1, G13, t2, t3, G11⟩
        · refine Or.inr ⟨t0, ⟨by omega, by omega, by omega, by omega⟩, ?_, ?_⟩
          · rw [G11]
            have := ok2.2.1
            omega
          · rw [G11]
            have := ok2.2.2.1
            omega
      · rw [fG _ _ _ (by omega), fR _ _ _ (by omega), E1]
        exact Q1
      · rw [fG _ _ _ (by omega), fR _ _ _ (by omega), E2]
        exact Q2
      · rw [fG _ _ _ (by omega), fR _ _ _ (by omega), E3]
        exact Q3
      · rw [fG _ _ _ (by omega), fR _ _ _ (by omega), E4]
        exact Q4
    · have w40 : ¬ W2 2184 40 0 ≤ 0 := by
        have := vb2.1
        have := vb2.2.1
        have := vb2.2.2.2
        omega
      rw [if_neg vb2.1, if_neg w40]
      refine ⟨0, A2, W2, rfl, rfl, Or.inl rfl, fun b x y z1 z2 => ?_, fun b i j z1 z2 z3 => ?_, Or.inr ⟨rfl, vb2, cb0, cb1⟩, ?_, ?_, ?_, ?_⟩
      · rw [fA2 b x y z1]
        exact fMD b x y z1 z2
      · rw [fW2 b i j (by omega) (by omega)]
        exact fKK2 b i j z1 z2 z3
      · rw [fW2 _ _ _ (by omega) (by omega), fA2 _ _ _ (by omega), cr1]
        exact kr1
      · rw [fW2 _ _ _ (by omega) (by omega), fA2 _ _ _ (by omega), cr2]
        exact kr2
      · rw [fW2 _ _ _ (by omega) (by omega), fA2 _ _ _ (by omega), cr3]
        exact kr3
      · rw [fW2 _ _ _ (by omega) (by omega), fA2 _ _ _ (by omega), cr4]
        exact kr4
  · have w40 : ¬ W1 2184 40 0 ≤ 0 := by
      have := vb1.1
      have := vb1.2.1
      have := vb1.2.2.2
      omega
    rw [if_neg vb1.1, if_neg w40]
    refine ⟨0, A1, W1, rfl, rfl, Or.inl rfl, fun b x y z1 z2 => fA1 b x y z1, fun b i j z1 z2 z3 => fW1 b i j (by omega) (by omega), Or.inr ⟨rfl, vb1, cb0, cb1⟩, ?_, ?_, ?_, ?_⟩
    · rw [fW1 _ _ _ (by omega) (by omega), fA1 _ _ _ (by omega)]
      exact h1
    · rw [fW1 _ _ _ (by omega) (by omega), fA1 _ _ _ (by omega)]
      exact h2
    · rw [fW1 _ _ _ (by omega) (by omega), fA1 _ _ _ (by omega)]
      exact h3
    · rw [fW1 _ _ _ (by omega) (by omega), fA1 _ _ _ (by omega)]
      exact h4
/-- a clause -/
theorem excl_both (hl : LSW kd n) (kv : KDV M kd vl n) (fc : FC3 M K) (hc : M 735 11 0 = c) (c0 : 0 ≤ c) (c1 : c ≤ n) (m12 : M 735 12 0 = 0) (m13 : M 735 13 0 = 0) (k40 : K 2184 40 0 = 0) (k41 : K 2184 41 0 = 0) (hk : CLK kd vl K 0 0 cl c) (q0 : 0 ≤ cl) (q1 : cl < 60)  : ∃ b A W, qf_X7_reckonClause_s1 20000 M = some (b, A) ∧ qf_X15_holds 20000 cl (-1) K = some (b, W) ∧ (b = 0 ∨ b = 1) ∧ (∀ b x y, ¬ (b = 735 ∧ 11 ≤ x ∧ x ≤ 15) → ¬ (b = 753) → A b x y = M b x y) ∧ (∀ b i j, ¬ (b = 2206 ∨ b = 2207) → ¬ (b = 2184 ∧ 39 ≤ i ∧ i ≤ 43) → True → W b i j = K b i j) ∧ ((A 735 12 0 = 0 ∧ A 735 13 0 = 0 ∧ W 2184 40 0 = 0 ∧ W 2184 41 0 = 0 ∧ A 735 11 0 = (pC kd vl c).2) ∨ (b = 0 ∧ VLB A W ∧ 0 ≤ A 735 11 0 ∧ A 735 11 0 ≤ 120))  := by
  have n1 := hl.2.1
  obtain ⟨x1, x2, x3, x4, x5, x6, x7, x8, x9, x10⟩ := hk
  rw [Int.zero_add] at x1 x2 x3 x4 x5 x7 x8
  rw [Int.zero_add] at x7 x8
  have ok := pS_ok (vl := vl) hl 12 0 c c0 c1
  obtain ⟨o1, o2, o3, o4⟩ := ok
  have pe : pC kd vl c = ((pS kd vl 12 0 ((pS kd vl 12 0 c).2.1 + 1)).1, (pS kd vl 12 0 ((pS kd vl 12 0 c).2.1 + 1)).2.1) := by
    unfold pC
    rw [if_neg (by omega), if_pos x6]
  rw [pe]
  (try dsimp only)
  obtain ⟨c2, hc2⟩ : ∃ c2, (pS kd vl 12 0 c).2.1 = c2 := ⟨_, rfl⟩
  rw [hc2] at x4 x5 x6 x8 x10 o2 o3 ⊢
  have cn := lst_lt hl o3 (by unfold isR at x6; omega) (by unfold isR at x6; omega)
  have ok2 := pS_ok (vl := vl) hl 12 0 (c2 + 1) (by omega) (by omega)
  have cc : 0 ≤ cl ∧ cl < 120 := by omega
  -- the first side
  obtain ⟨A1, W1, e1, e2, fA1, fW1, hv1⟩ := reck_both hl kv fc hc c0 c1 m12 m13 k40 k41 x9 x7 x1 x3 (by omega)
  rw [hc2] at hv1
  have stC : qf_X7_reckonClause_s1 20000 M = (if A1 735 12 0 = 0 then (qf_X7_takeWord 20000 (qw (qw A1 753 1 0 (A1 735 14 0)) 753 2 0 (A1 735 15 0))).bind (fun r9 => (qf_X7_reckonSide 20000 0 r9.2).bind (fun r11 => if (r11.2 735 12 0) = 0 then (qf_X7_compareWith 20000 r9.1 (qw (qw r11.2 753 3 0 (r11.2 735 14 0)) 753 4 0 (r11.2 735 15 0) 753 1 0) (qw (qw r11.2 753 3 0 (r11.2 735 14 0)) 753 4 0 (r11.2 735 15 0) 753 2 0) (qw (qw r11.2 753 3 0 (r11.2 735 14 0)) 753 4 0 (r11.2 735 15 0))).bind (fun r20 => if (r20.1 = 0 ∨ r20.1 = 1) then some (r20.1, r20.2) else none) else some (0, r11.2))) else some (0, A1)) := by
    unfold qf_X7_reckonClause_s1 qbnd
    rw [e1]
    simp only [Option.bind_some]
    rfl
  obtain ⟨K2, hK2⟩ : ∃ X, (qw (qw W1 2184 42 0 (W1 2206 0 0)) 2184 43 0 (W1 2207 0 0)) = X := ⟨_, rfl⟩
  have stK : qf_X15_holds 20000 cl (-1) K = (if W1 2184 40 0 ≤ 0 then qf_X15_holds_J69 20000 cl (-1) K2 else some (0, W1)) := by
    unfold qf_X15_holds qbnd
    rw [if_pos cc, if_pos cc, e2]
    simp only [Option.bind_some]
    have p1 : qw W1 2184 42 0 (W1 2206 0 0) 2207 0 0 = W1 2207 0 0 := qw_a (by decide)
    rw [if_pos (show (-1 : Int) < 0 by decide), p1, hK2]
  rw [stC, stK]
  rcases hv1 with ⟨vg1, cA1⟩ | ⟨vb1, cb0, cb1⟩
  · obtain ⟨v1, v2, v3, v4, v5, v6, v7, v8, v9, v10⟩ := vg1
    rw [if_pos v1, if_pos (show W1 2184 40 0 ≤ 0 by omega)]
    obtain ⟨B, hB⟩ : ∃ X, qw (qw A1 753 1 0 (A1 735 14 0)) 753 2 0 (A1 735 15 0) = X := ⟨_, rfl⟩
    rw [hB]
    have fB : ∀ b x y, ¬ (b = 753) → B b x y = A1 b x y := fun b x y z => by rw [← hB, qw_ap, if_neg (by omega), qw_ap, if_neg (by omega)]
    have kvB : KDV B kd vl n := ⟨fun j j0 j1 => by rw [fB 736 _ _ (by omega), fB 737 _ _ (by omega)]; exact (kdv_o kv fA1).1 j j0 j1, kv.2⟩
    have cB : B 735 11 0 = c2 := (fB _ _ _ (by omega)).trans cA1
    have tw := tw_C (M := B) cB (by omega) (by omega) (kvB.1 c2 (by omega) (by omega)).1
    obtain ⟨D, hD⟩ : ∃ X, qw B 735 11 0 (c2 + 1) = X := ⟨_, rfl⟩
    rw [hD] at tw
    rw [tw]
    simp only [Option.bind_some]
    have fD : ∀ b x y, ¬ (b = 735 ∧ x = 11) → D b x y = B b x y := fun b x y z => by rw [← hD, qw_ap, if_neg (by omega)]
    have kvD : KDV D kd vl n := kdv_o kvB (fun b x y z => fD b x y (by omega))
    have fMD : ∀ b x y, ¬ (b = 735 ∧ 11 ≤ x ∧ x ≤ 15) → ¬ (b = 753) → D b x y = M b x y := fun b x y z1 z2 => by
      rw [fD b x y (by omega), fB b x y z2]
      exact fA1 b x y z1
    have fK2 : ∀ b i j, ¬ (b = 2184 ∧ (i = 42 ∨ i = 43)) → True → K2 b i j = W1 b i j := fun b i j z1 z2 => by
      rw [← hK2]
      rw [qw_ap, if_neg (by omega), qw_ap, if_neg (by omega)]
    have fKK2 : ∀ b i j, ¬ (b = 2206 ∨ b = 2207) → ¬ (b = 2184 ∧ 39 ≤ i ∧ i ≤ 43) → True → K2 b i j = K b i j := fun b i j z1 z2 z3 => by
      rw [fK2 b i j (by omega) z3]
      exact fW1 b i j (by omega) (by omega)
    have fcD : FC3 D K2 := by
      obtain ⟨g1, g2, g3⟩ := fc3_o fc fA1 fW1
      unfold R_factn at g1
      unfold R_facts at g2
      unfold R_factd at g3
      have d8 : D 735 8 0 = A1 735 8 0 := (fD _ _ _ (by omega)).trans (fB _ _ _ (by omega))
      have d54 : ∀ k, D 754 k 0 = A1 754 k 0 := fun k => (fD _ _ _ (by omega)).trans (fB _ _ _ (by omega))
      have d55 : ∀ k, D 755 k 0 = A1 755 k 0 := fun k => (fD _ _ _ (by omega)).trans (fB _ _ _ (by omega))
      refine ⟨?_, fun k k0 k1 => ?_, fun j k j0 jk k1 => ?_⟩
      · unfold R_factn
        rw [d8, fK2 2184 2 0 (by omega) trivial]
        exact g1
      · rw [d8] at k1
        rw [d54, d55, fK2 2186 _ _ (by omega) trivial, fK2 2187 _ _ (by omega) trivial]
        exact g2 k k0 k1
      · rw [d8] at k1
        rw [d54, d54]
        exact g3 j k j0 jk k1
    have D12 : D 735 12 0 = 0 := (fD _ _ _ (by omega)).trans ((fB _ _ _ (by omega)).trans v1)
    have D13 : D 735 13 0 = 0 := (fD _ _ _ (by omega)).trans ((fB _ _ _ (by omega)).trans v2)
    have D11 : D 735 11 0 = c2 + 1 := by rw [← hD]; exact qw_s
    have k240 : K2 2184 40 0 = 0 := (fK2 _ _ _ (by omega) trivial).trans v3
    have k241 : K2 2184 41 0 = 0 := (fK2 _ _ _ (by omega) trivial).trans v4
    have k242 : K2 2184 42 0 = A1 735 14 0 := by rw [← hK2, qw_i (by decide)]; exact qw_s.trans v6
    have k243 : K2 2184 43 0 = A1 735 15 0 := by rw [← hK2]; exact qw_s.trans v7
    have cr1 : D 753 1 0 = A1 735 14 0 := by rw [fD _ _ _ (by omega), ← hB, qw_i (by decide)]; exact qw_s
    have cr2 : D 753 2 0 = A1 735 15 0 := by rw [fD _ _ _ (by omega), ← hB]; exact qw_s
    have mid : K2 2193 cl 0 = K 2193 cl 0 := fKK2 _ _ _ (by omega) (by omega) trivial
    have tos : K2 2194 cl 0 = K 2194 cl 0 := fKK2 _ _ _ (by omega) (by omega) trivial
    have sgn : K2 2195 cl 0 = rel (kd c2) := (fKK2 _ _ _ (by omega) (by omega) trivial).trans x5
    have ra2 : RAT K2 (K 2193 cl 0) (pS kd vl 12 0 (c2 + 1)).2.2 := rat_fr (fun i _ _ => ⟨fKK2 _ _ _ (by omega) (by omega) trivial, fKK2 _ _ _ (by omega) (by omega) trivial⟩) x8
    obtain ⟨A2, W2, e3, e4, fA2, fW2, hv2⟩ := reck_both hl kvD fcD D11 (by omega) (by omega) D12 D13 k240 k241 x10 ra2 (by omega) x4 (by omega)
    rw [e3]
    simp only [Option.bind_some]
    unfold qf_X15_holds_J69 qbnd
    rw [if_pos cc, if_pos cc, mid, tos, e4]
    simp only [Option.bind_some]
    rcases hv2 with ⟨vg2, cA2⟩ | ⟨vb2, cb0, cb1⟩
    · obtain ⟨y1, y2, y3, y4, y5, y6, y7, y8, y9, y10⟩ := vg2
      rw [if_pos y1, if_pos (show W2 2184 40 0 ≤ 0 by omega)]
      obtain ⟨E, hE⟩ : ∃ X, qw (qw A2 753 3 0 (A2 735 14 0)) 753 4 0 (A2 735 15 0) = X := ⟨_, rfl⟩
      rw [hE]
      have fE : ∀ b x y, ¬ (b = 753) → E b x y = A2 b x y := fun b x y z => by rw [← hE, qw_ap, if_neg (by omega), qw_ap, if_neg (by omega)]
      have E1 : E 753 1 0 = A1 735 14 0 := by rw [← hE, qw_i (by decide), qw_i (by decide), fA2 _ _ _ (by omega)]; exact cr1
      have E2 : E 753 2 0 = A1 735 15 0 := by rw [← hE, qw_i (by decide), qw_i (by decide), fA2 _ _ _ (by omega)]; exact cr2
      obtain ⟨Q, hQ⟩ : ∃ X, W2 = X := ⟨_, rfl⟩
      have fQ : ∀ b i j, True → Q b i j = W2 b i j := fun b i j z => by rw [hQ]
      rw [if_pos (show (-1 : Int) < 0 by decide), hQ]
      rw [E1, E2]
      obtain ⟨b, G, R, e5, e6, hb, fG, fR, hv3⟩ := cmp_both (M := E) (K := Q) (cl := cl) x6 ((fE _ _ _ (by omega)).trans y1) ((fE _ _ _ (by omega)).trans y2) (fE _ _ _ (by omega)) (fE _ _ _ (by omega)) ((fQ _ _ _ trivial).trans y3) ((fQ _ _ _ trivial).trans y4) ((fQ _ _ _ trivial).trans ((fW2 _ _ _ (by omega) (by omega)).trans k242)) ((fQ _ _ _ trivial).trans ((fW2 _ _ _ (by omega) (by omega)).trans k243)) ((fQ _ _ _ trivial).trans y6) ((fQ _ _ _ trivial).trans y7) v8 v9 y8 y9 q0 (by omega) ((fQ _ _ _ trivial).trans ((fW2 _ _ _ (by omega) (by omega)).trans sgn))
      rw [e5, e6]
      simp only [Option.bind_some]
      rw [if_pos hb]
      have G11 : G 735 11 0 = (pS kd vl 12 0 (c2 + 1)).2.1 := by
        rw [fG _ _ _ (by omega), fE _ _ _ (by omega)]
        exact cA2
      have G13 : G 735 13 0 = 0 := by
        rw [fG _ _ _ (by omega), fE _ _ _ (by omega)]
        exact y2
      refine ⟨b, G, R, rfl, rfl, hb, fun b x y z1 z2 => ?_, fun b i j z1 z2 z3 => ?_, ?_⟩
      · rw [fG b x y (by omega), fE b x y z2, fA2 b x y z1]
        exact fMD b x y z1 z2
      · rw [fR b i j (by omega), fQ b i j z3, fW2 b i j (by omega) (by omega)]
        exact fKK2 b i j z1 z2 z3
      · rcases hv3 with ⟨t1, t2, t3⟩ | ⟨t0, t1, t2, t3⟩
        · exact Or.inl ⟨t1, G13, t2, t3, G11⟩
        · refine Or.inr ⟨t0, ⟨by omega, by omega, by omega, by omega⟩, ?_, ?_⟩
          · rw [G11]
            have := ok2.2.1
            omega
          · rw [G11]
            have := ok2.2.2.1
            omega
    · have w40 : ¬ W2 2184 40 0 ≤ 0 := by
        have := vb2.1
        have := vb2.2.1
        have := vb2.2.2.2
        omega
      rw [if_neg vb2.1, if_neg w40]
      refine ⟨0, A2, W2, rfl, rfl, Or.inl rfl, fun b x y z1 z2 => ?_, fun b i j z1 z2 z3 => ?_, Or.inr ⟨rfl, vb2, cb0, cb1⟩⟩
      · rw [fA2 b x y z1]
        exact fMD b x y z1 z2
      · rw [fW2 b i j (by omega) (by omega)]
        exact fKK2 b i j z1 z2 z3
  · have w40 : ¬ W1 2184 40 0 ≤ 0 := by
      have := vb1.1
      have := vb1.2.1
      have := vb1.2.2.2
      omega
    rw [if_neg vb1.1, if_neg w40]
    refine ⟨0, A1, W1, rfl, rfl, Or.inl rfl, fun b x y z1 z2 => fA1 b x y z1, fun b i j z1 z2 z3 => fW1 b i j (by omega) (by omega), Or.inr ⟨rfl, vb1, cb0, cb1⟩⟩
end WDz
