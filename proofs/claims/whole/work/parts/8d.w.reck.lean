/-! ===== rules: both reckon a side ===== -/
section WDw
variable {M K A Z W M0 K0 : qm} {kd vl : Int → Int} {S F : Int → Int × Int × List (Int × Int)} {G KK : Int → qm → Option (Unit × qm)} {r : Int × Int × List (Int × Int)} {row : List (Int × Int)} {a b c d s x y u l v n i p q k to e : Int} {N m : Nat}
/-- facts, the same on both sides -/
def FC3 (M K : qm) : Prop := R_factn M K ∧ R_facts M K ∧ R_factd M K
theorem fc3_o (h : FC3 M K) (hA : FRC M A) (hW : FRK K W v) : FC3 A W := by
  obtain ⟨h1, h2, h3⟩ := h
  unfold R_factn at h1
  unfold R_facts at h2
  unfold R_factd at h3
  refine ⟨?_, fun k k0 k1 => ?_, fun j k j0 jk k1 => ?_⟩
  · unfold R_factn
    rw [hA 735 8 0 (by omega), hW 2184 2 0 (by omega) (by omega)]
    exact h1
  · rw [hA 735 8 0 (by omega)] at k1
    rw [hA 754 _ _ (by omega), hA 755 _ _ (by omega), hW 2186 _ _ (by omega) (by omega), hW 2187 _ _ (by omega) (by omega)]
    exact h2 k k0 k1
  · rw [hA 735 8 0 (by omega)] at k1
    rw [hA 754 _ _ (by omega), hA 754 _ _ (by omega)]
    exact h3 j k j0 jk k1
/-- the class's words -/
def KDV (M : qm) (kd vl : Int → Int) (n : Int) : Prop := (∀ j, 0 ≤ j → j ≤ 120 → M 736 j 0 = kd j ∧ M 737 j 0 = vl j) ∧ (∀ j, 0 ≤ j → j ≤ n → kd j = 48 → 0 ≤ vl j ∧ vl j < 1000000000)
theorem kdv_o (h : KDV M kd vl n) (hA : FRC M A) : KDV A kd vl n := ⟨fun j j0 j1 => by rw [hA 736 _ _ (by omega), hA 737 _ _ (by omega)]; exact h.1 j j0 j1, h.2⟩
theorem frk_rat (h : FRK K W v) (hr : RAT K a row) : RAT W a row := rat_fr (fun i _ _ => ⟨h _ _ _ (by omega) (by omega), h _ _ _ (by omega) (by omega)⟩) hr
/-- where reckoning begins: the class at word c, the reference at step k with v values -/
def RBG (kd vl : Int → Int) (n : Int) (M K : qm) (c v : Int) : Prop := KDV M kd vl n ∧ FC3 M K ∧ M 735 11 0 = c ∧ 0 ≤ c ∧ c ≤ n ∧ M 735 12 0 = 0 ∧ M 735 13 0 = 0 ∧ K 2184 40 0 = 0 ∧ K 2184 41 0 = 0 ∧ K 2184 39 0 = v ∧ 0 ≤ v
/-- both have reckoned row: a value at v, or open -/
def RC1 (cls : qm → Prop) (M K : qm) (row : List (Int × Int)) (k to v c' : Int) : Prop := ∃ A W, cls A ∧ FRC M A ∧ FRK K W v ∧ ((VLG A W v ∧ A 735 11 0 = c' ∧ ∀ N, qf_X15_reckon_L7 20000 (N + row.length) to k K = qf_X15_reckon_L7 20000 N to (k + row.length) W) ∨ (VLB A W ∧ 0 ≤ A 735 11 0 ∧ A 735 11 0 ≤ 120 ∧ ∃ j : Nat, j ≤ row.length ∧ ∀ N, qf_X15_reckon_L7 20000 (N + j + 1) to k K = some (.inr ((), W))))
def RCO (G : qm → Option (Unit × qm)) (M K : qm) (row : List (Int × Int)) (k to v c' : Int) : Prop := RC1 (fun A => G M = some ((), A)) M K row k to v c'
def RCK (kd vl : Int → Int) (n : Int) (P : Int → Int × Int × List (Int × Int)) (G : qm → Option (Unit × qm)) (h : Int) : Prop := ∀ c M K v k to, RBG kd vl n M K c v → (P c).1 = 1 → v + h ≤ 128 → RAT K k (P c).2.2 → 0 ≤ k → k + (P c).2.2.length ≤ to → to ≤ 800 → RCO G M K (P c).2.2 k to v (P c).2.1
theorem l7_go (h : qf_X15_reckon_L7_b 20000 to k K = some (.inr (to, k + 1, W))) (N : Nat) : qf_X15_reckon_L7 20000 (N + 1) to k K = qf_X15_reckon_L7 20000 N to (k + 1) W := by
  show qloop _ (N + 1) (to, k, K) = _
  rw [qloop.eq_2]
  (try dsimp only)
  rw [h]
  rfl
theorem l7_stop (h : to ≤ k ∨ K 2184 40 0 ≠ 0) (N : Nat) : qf_X15_reckon_L7 20000 (N + 1) to k K = some (.inr ((), K)) := by
  show qloop _ (N + 1) (to, k, K) = _
  rw [qloop.eq_2]
  (try dsimp only)
  have : qf_X15_reckon_L7_b 20000 to k K = some (.inl (.inr ((), K))) := by
    unfold qf_X15_reckon_L7_b
    by_cases g : to ≤ k
    · rw [if_pos g]
    · rw [if_neg g, if_neg (by omega)]
  rw [this]
theorem tw_C (hc : M 735 11 0 = c) (c0 : 0 ≤ c) (c1 : c < 120) (hk : M 736 c 0 = e) : qf_X7_takeWord 20000 M = some (e, qw M 735 11 0 (c + 1)) := by
  unfold qf_X7_takeWord qbnd
  rw [hc, if_pos (show 0 ≤ c ∧ c < 121 by omega), if_neg (by omega), hk, w32_id (x := c + 1) (by omega) (by omega)]
theorem lw_1 : lwF x 1 = some (x, 1) := by
  unfold lwF
  rw [Int.gcd_one_right]
  show (if 0 ≤ (1 : Int) / 1 then some (x / 1, (1 : Int) / 1) else _) = _
  rw [if_pos (by decide), Int.ediv_one]
  rfl
/-- a number or a name -/
theorem val_both (hl : LSW kd n) (h : RBG kd vl n M K c v) (hv : v < 129) (hk : (kd c = 48 ∧ s = 0) ∨ (kd c = 97 ∧ s = 1)) (hr : K 2196 k 0 = s ∧ K 2197 k 0 = vl c) (k0 : 0 ≤ k) (kt : k + 1 ≤ to) (t8 : to ≤ 800) : RCO (qf_X7_reckonFactor 20000 KK d) M K [(s, vl c)] k to v (c + 1) := by
  obtain ⟨h1, h2, h3, h4, h5, h6, h7, h8, h9, h10, h11⟩ := h
  have n1 := hl.2.1
  have cn := lst_lt hl h5 (by omega) (by omega)
  have kc := h1.1 c h4 (by omega)
  obtain ⟨f1, f2, f3⟩ := h2
  have s_facts := f2
  unfold R_facts at s_facts
  have s_factn := f1
  unfold R_factn at s_factn
  obtain ⟨B, hB⟩ : ∃ B, qw (qw M 735 11 0 (c + 1)) 735 15 0 1 = B := ⟨_, rfl⟩
  have fB : ∀ b x y, ¬ (b = 735 ∧ (x = 11 ∨ x = 15)) → B b x y = M b x y := fun b x y z => by rw [← hB, qw_ap, if_neg (by omega), qw_ap, if_neg (by omega)]
  have B11 : B 735 11 0 = c + 1 := by rw [← hB, qw_i (by decide)]; exact qw_s
  have B15 : B 735 15 0 = 1 := by rw [← hB]; exact qw_s
  have ck : 0 ≤ k ∧ k < 800 := by omega
  -- the class, past the word
  have eC : qf_X7_reckonFactor 20000 KK d M = (if kd c = 48 then some ((), qw B 735 14 0 (vl c)) else (qf_X7_findFact 20000 (vl c) B).bind (fun r8 => if r8 = (-1) then some ((), qw (qw B 735 12 0 1) 735 13 0 (vl c)) else if 0 ≤ r8 ∧ r8 < 40 then some ((), qw B 735 14 0 (B 755 r8 0)) else none)) := by
    unfold qf_X7_reckonFactor
    rw [h3, if_pos (show 0 ≤ c ∧ c < 121 by omega), tw_C h3 h4 (by omega) kc.1]
    simp only [Option.bind_some]
    rw [if_neg (by omega), kc.2]
    unfold qf_X7_reckonFactor_J42 qbnd
    rw [hB]
  -- a value goes on the pile
  have psh : ∀ x, FIT x → ∃ W, qf_X15_push 20000 x 1 K = some ((), W) ∧ FRK K W v ∧ W 2184 39 0 = v + 1 ∧ W 2184 40 0 = 0 ∧ W 2184 41 0 = 0 ∧ W 2206 v 0 = x ∧ W 2207 v 0 = 1 := fun x hx => by
    obtain ⟨W, e1, p1, w1, hW⟩ := push_e (u := x) (l := 1) h10 h11 (by omega) h8 hx.1 hx.2 (by decide) (by decide) (by decide)
    rw [lw_1] at hW
    rcases hW with ⟨p, q, l1, l2, l3, l4, l5⟩ | ⟨l1, _⟩
    · obtain ⟨rfl, rfl⟩ := Prod.mk.inj (Option.some.inj l1)
      exact ⟨W, e1, puf_k p1, w1, l2, l3.trans h9, l4, l5⟩
    · cases l1
  have good : ∀ x A, FIT x → qf_X7_reckonFactor 20000 KK d M = some ((), A) → A = qw B 735 14 0 x → qf_X15_reckon_L7_b 20000 to k K = (qf_X15_push 20000 x 1 K).bind (fun r26 => some (.inr (to, k + 1, r26.2))) → RCO (qf_X7_reckonFactor 20000 KK d) M K [(s, vl c)] k to v (c + 1) := fun x A hx e1 eA e2 => by
    obtain ⟨W, p1, p2, p3, p4, p5, p6, p7⟩ := psh x hx
    rw [p1] at e2
    have A14 : A 735 14 0 = x := by rw [eA]; exact qw_s
    have fA : ∀ b x y, ¬ (b = 735 ∧ x = 14) → A b x y = B b x y := fun b x y z => by rw [eA, qw_ap, if_neg (by omega)]
    have A15 : A 735 15 0 = 1 := (fA _ _ _ (by decide)).trans B15
    refine ⟨A, W, e1, fun b x y z => ?_, p2, Or.inl ⟨⟨?_, ?_, p4, p5, p3, p6.trans A14.symm, p7.trans A15.symm, ?_, ?_, ?_⟩, ?_, fun N => ?_⟩⟩
    · rw [fA b x y (by omega)]
      exact fB b x y (by omega)
    · rw [fA _ _ _ (by decide), fB _ _ _ (by decide)]
      exact h6
    · rw [fA _ _ _ (by decide), fB _ _ _ (by decide)]
      exact h7
    · rw [A14]
      exact hx
    · rw [A15]
      unfold FIT
      decide
    · rw [A15]
      decide
    · rw [fA _ _ _ (by decide)]
      exact B11
    · exact l7_go e2 N
  have l7 : qf_X15_reckon_L7_b 20000 to k K = if s = 0 then (qf_X15_push 20000 (vl c) 1 K).bind (fun r26 => some (.inr (to, k + 1, r26.2))) else (qf_X15_factOf 20000 (vl c) K).bind (fun r14 => if 0 ≤ r14 then if 0 ≤ r14 ∧ r14 < 40 then (qf_X15_push 20000 (K 2187 r14 0) 1 K).bind (fun r18 => some (.inr (to, k + 1, r18.2))) else none else (qf_X15_opens 20000 1 (vl c) K).bind (fun r22 => some (.inr (to, k + 1, r22.2)))) := by
    unfold qf_X15_reckon_L7_b
    rw [if_neg (by omega), if_pos h8, if_pos ck, hr.1, hr.2, w32_id (x := k + 1) (by omega) (by omega)]
    by_cases g : s = 0
    · rw [if_pos g, if_pos g, if_pos ck]
    · rw [if_neg g, if_neg g, if_pos ck, if_pos (by omega), if_pos ck, if_pos ck]
  rcases hk with ⟨g, s0⟩ | ⟨g, s1⟩
  · have nb := h1.2 c h4 h5 g
    rw [if_pos g] at eC
    rw [if_pos s0] at l7
    exact good (vl c) _ (by unfold FIT; omega) eC rfl l7
  · rw [if_neg (by omega)] at eC
    rw [if_neg (by omega)] at l7
    have fr : FRC M B := fun b x y z => fB b x y (by omega)
    have f0 : FRK K K 0 := fun _ _ _ _ _ => rfl
    obtain ⟨g1, g2, g3⟩ := fc3_o ⟨f1, f2, f3⟩ fr f0
    obtain ⟨r, r1, r2, r3⟩ := fact_both (x := vl c) g1 g2 g3
    rw [r1] at eC
    rw [r2] at l7
    simp only [Option.bind_some] at eC l7
    rcases r3 with ⟨rm, _⟩ | ⟨q0, q1, q2⟩
    · rw [if_pos rm] at eC
      rw [if_neg (by omega)] at l7
      have eo : qf_X15_opens 20000 1 (vl c) K = some ((), qw (qw K 2184 40 0 1) 2184 41 0 (vl c)) := by
        unfold qf_X15_opens qbnd
        rw [if_pos h8]
      rw [eo] at l7
      simp only [Option.bind_some] at l7
      obtain ⟨W, hW⟩ : ∃ W, qw (qw K 2184 40 0 1) 2184 41 0 (vl c) = W := ⟨_, rfl⟩
      rw [hW] at l7
      have W40 : W 2184 40 0 = 1 := by rw [← hW, qw_i (by decide)]; exact qw_s
      have W41 : W 2184 41 0 = vl c := by rw [← hW]; exact qw_s
      obtain ⟨A, hA⟩ : ∃ A, qw (qw B 735 12 0 1) 735 13 0 (vl c) = A := ⟨_, rfl⟩
      rw [hA] at eC
      have A12 : A 735 12 0 = 1 := by rw [← hA, qw_i (by decide)]; exact qw_s
      have A13 : A 735 13 0 = vl c := by rw [← hA]; exact qw_s
      refine ⟨A, W, eC, fun b x y z => ?_, fun b i j z1 z2 => by rw [← hW, qw_ap, if_neg (by omega), qw_ap, if_neg (by omega)], Or.inr ⟨⟨by omega, by omega, by omega, by omega⟩, ?_, ?_, 1, Nat.le_refl _, fun N => ?_⟩⟩
      · rw [← hA, qw_ap, if_neg (by omega), qw_ap, if_neg (by omega)]
        exact fB b x y (by omega)
      · rw [← hA, qw_i (by decide), qw_i (by decide), B11]
        omega
      · rw [← hA, qw_i (by decide), qw_i (by decide), B11]
        omega
      · rw [l7_go l7]
        exact l7_stop (Or.inr (by omega)) N
    · have b8 : B 735 8 0 = M 735 8 0 := fB _ _ _ (by decide)
      have sf := s_facts r q0 (by omega)
      have c40 : 0 ≤ r ∧ r < 40 := by omega
      rw [if_neg (by omega), if_pos c40, fB 755 r 0 (by omega)] at eC
      rw [if_pos q0, if_pos c40, sf.2.1] at l7
      exact good (M 755 r 0) _ (by unfold FIT; omega) eC rfl l7
end WDw
