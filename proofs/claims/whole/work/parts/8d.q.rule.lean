/-! ===== rules: the class reads a rule ===== -/
section WDq
variable {M K A Z D W W' Z2 : qm} {T kd vl pl : Int → Int} {L p q e k v i j x y z c d f n w t s a u ns g o b cl o' b' c1 cl0 rr : Int} {N m : Nat}
/-- a name that can be a rule's -/
def NEW (M : qm) (ad : Nat) (o rr v : Int) : Prop := ∀ r, 0 ≤ r → r < rr → M ad (o + r) 0 ≠ v
theorem isname_C (h : M 727 6 0 = rr) (r0 : 0 ≤ rr) (r1 : rr ≤ 12) : qf_X6_isRuleName 20000 v M = some (1 - b01 (NEW M 732 0 rr v)) := by
  refine qW_e ?_
  unfold qf_X6_isRuleName qf_X6_isRuleName_L2
  refine qW_call (Q := fun o => (o = .inl 1 ∧ ¬ NEW M 732 0 rr v) ∨ (o = .inr () ∧ NEW M 732 0 rr v)) ?_ ?_
  · refine qW_for rr (fun i s => s = (v, i) ∧ ∀ r, 0 ≤ r → r < i → M 732 (0 + r) 0 ≠ v) ?_ ?_ ⟨rfl, fun t t0 t1 => by omega⟩ r0 (by omega)
    · rintro i _ i0 i1 ⟨rfl, h2⟩
      unfold qf_X6_isRuleName_L2_b
      (try dsimp only)
      rw [h, if_neg (by omega), if_pos (show 0 ≤ i ∧ i < 12 by omega)]
      by_cases g : M 732 i 0 = v
      · rw [if_pos g]
        refine qW_some (Or.inl ⟨rfl, fun z => z i i0 i1 ?_⟩)
        rw [Int.zero_add]
        exact g
      · rw [if_neg g, w32_id (x := i + 1) (by omega) (by omega)]
        refine qW_some ⟨rfl, fun t t0 t1 => ?_⟩
        by_cases e : t = i
        · rw [e, Int.zero_add]
          exact g
        · exact h2 t t0 (by omega)
    · rintro _ ⟨rfl, h2⟩
      unfold qf_X6_isRuleName_L2_b
      (try dsimp only)
      rw [h, if_pos (by omega)]
      exact qW_some (Or.inr ⟨rfl, h2⟩)
  · rintro o (⟨rfl, h2⟩ | ⟨rfl, h2⟩)
    · exact qW_some (by rw [b01_f h2]; rfl)
    · exact qW_some (by rw [b01_t h2]; rfl)
theorem isnew_K (h : K 2184 32 0 = rr) (r0 : 0 ≤ rr) (r1 : rr ≤ 12) : qf_X15_isNew 20000 v K = some (b01 (NEW K 2188 12 rr v)) := by
  refine qW_e ?_
  unfold qf_X15_isNew qf_X15_isNew_L5
  refine qW_call (Q := fun o => o = .inr (b01 (NEW K 2188 12 rr v))) ?_ ?_
  · refine qW_for rr (fun i s => s = (v, b01 (NEW K 2188 12 i v), i)) ?_ ?_ ?_ r0 (by omega)
    · rintro i _ i0 i1 rfl
      unfold qf_X15_isNew_L5_b qf_X15_isNew_J37
      (try dsimp only)
      rw [h, if_neg (by omega), w32_id (x := 12 + i) (by omega) (by omega), if_pos (show 0 ≤ 12 + i ∧ 12 + i < 24 by omega), w32_id (x := i + 1) (by omega) (by omega)]
      by_cases g : NEW K 2188 12 i v
      · rw [b01_t g, if_neg (by decide)]
        by_cases g2 : K 2188 (12 + i) 0 = v
        · rw [if_pos g2, b01_f (p := NEW K 2188 12 (i + 1) v) (fun z => z i i0 (by omega) g2)]
          exact qW_some rfl
        · rw [if_neg g2, b01_t (p := NEW K 2188 12 (i + 1) v) (fun r r0 r1 => if e : r = i then (by rw [e]; exact g2) else g r r0 (by omega))]
          exact qW_some rfl
      · rw [b01_f g, if_pos rfl, b01_f (p := NEW K 2188 12 (i + 1) v) (fun z => g (fun r r0 r1 => z r r0 (by omega)))]
        exact qW_some rfl
    · rintro _ rfl
      unfold qf_X15_isNew_L5_b
      (try dsimp only)
      rw [h, if_pos (by omega)]
      exact qW_some rfl
    · rw [b01_t (p := NEW K 2188 12 0 v) (fun r r0 r1 => by omega)]
  · rintro _ rfl
    (try dsimp only)
    rw [if_pos b01_01]
    exact qW_some rfl
/-- behind a rule's name: fine or not, where it stopped, the day -/
noncomputable def pR (kd vl : Int → Int) (c : Int) : Int × Int × Int :=
  if kd (c + 1) = 58 then (if (pC kd vl (c + 2)).1 = 0 then (0, (pC kd vl (c + 2)).2, 0) else if (pX kd vl 120 (pC kd vl (c + 2)).2).1 = 0 then (0, (pX kd vl 120 (pC kd vl (c + 2)).2).2, 0) else if kd (pX kd vl 120 (pC kd vl (c + 2)).2).2 = 64 then (if kd ((pX kd vl 120 (pC kd vl (c + 2)).2).2 + 1) = 48 then (1, (pX kd vl 120 (pC kd vl (c + 2)).2).2 + 2, w32 (vl ((pX kd vl 120 (pC kd vl (c + 2)).2).2 + 1))) else (0, (pX kd vl 120 (pC kd vl (c + 2)).2).2 + 1, 0)) else (1, (pX kd vl 120 (pC kd vl (c + 2)).2).2, 0)) else (0, c + 1, 0)
theorem pR_ok (hl : LSW kd n) (c0 : 0 ≤ c) (c1 : c ≤ n) (h97 : kd c = 97) : ((pR kd vl c).1 = 0 ∨ (pR kd vl c).1 = 1) ∧ c < (pR kd vl c).2.1 ∧ (pR kd vl c).2.1 ≤ n := by
  have cn := lst_lt hl c1 (by omega) (by omega)
  unfold pR
  by_cases g : kd (c + 1) = 58
  · have cn2 := lst_lt hl (show c + 1 ≤ n by omega) (by omega) (by omega)
    obtain ⟨o1, o2, o3, o4⟩ := pC_ok (vl := vl) hl (show 0 ≤ c + 2 by omega) (by omega)
    rw [if_pos g]
    by_cases g2 : (pC kd vl (c + 2)).1 = 0
    · rw [if_pos g2]
      exact ⟨Or.inl rfl, by show c < (pC kd vl (c + 2)).2; omega, o3⟩
    · rw [if_neg g2]
      obtain ⟨p1, p2, p3⟩ := pX_ok (vl := vl) hl 120 (pC kd vl (c + 2)).2 (by omega) o3
      by_cases g3 : (pX kd vl 120 (pC kd vl (c + 2)).2).1 = 0
      · rw [if_pos g3]
        exact ⟨Or.inl rfl, by show c < (pX kd vl 120 (pC kd vl (c + 2)).2).2; omega, p3⟩
      · rw [if_neg g3]
        by_cases g4 : kd (pX kd vl 120 (pC kd vl (c + 2)).2).2 = 64
        · have cn3 := lst_lt hl p3 (by omega) (by omega)
          rw [if_pos g4]
          by_cases g5 : kd ((pX kd vl 120 (pC kd vl (c + 2)).2).2 + 1) = 48
          · have cn4 := lst_lt hl (show (pX kd vl 120 (pC kd vl (c + 2)).2).2 + 1 ≤ n by omega) (by omega) (by omega)
            rw [if_pos g5]
            exact ⟨Or.inr rfl, by show c < (pX kd vl 120 (pC kd vl (c + 2)).2).2 + 2; omega, by show (pX kd vl 120 (pC kd vl (c + 2)).2).2 + 2 ≤ n; omega⟩
          · rw [if_neg g5]
            exact ⟨Or.inl rfl, by show c < (pX kd vl 120 (pC kd vl (c + 2)).2).2 + 1; omega, by show (pX kd vl 120 (pC kd vl (c + 2)).2).2 + 1 ≤ n; omega⟩
        · rw [if_neg g4]
          exact ⟨Or.inr rfl, by show c < (pX kd vl 120 (pC kd vl (c + 2)).2).2; omega, p3⟩
  · rw [if_neg g]
    exact ⟨Or.inl rfl, by show c < c + 1; omega, by show c + 1 ≤ n; omega⟩
/-- what reading a rule changes in the class -/
def RFC (M A : qm) (rr : Int) : Prop := ∀ b x y, ¬ (b = 727 ∧ (x = 5 ∨ x = 6)) → ¬ ((b = 732 ∨ b = 733 ∨ b = 734) ∧ x = rr) → A b x y = M b x y
theorem rule0_C (h : LSW kd n) (hk : KDS M kd) (hr : M 727 6 0 = rr) (r0 : 0 ≤ rr) (r1 : rr ≤ 12) (hv : M 730 c 0 = vl c) (c0 : 0 ≤ c) (c1 : c ≤ n) (hn : ¬ (kd c = 97 ∧ rr < 12 ∧ NEW M 732 0 rr (vl c))) : qf_X6_readRule 20000 (cu M c) = some (0, cu M c) := by
  have n1 := h.2.1
  have cc : 0 ≤ c ∧ c < 121 := by omega
  unfold qf_X6_readRule
  rw [cu_c, if_pos cc, cu_o (by omega), hk c c0 (by omega)]
  by_cases g : kd c = 97
  · rw [if_pos g, cu_o (x := 6) (by omega), hr]
    by_cases g2 : 12 ≤ rr
    · rw [if_pos g2]
    · rw [if_neg g2, if_pos cc, cu_o (x := c) (by omega), hv, isname_C (rr := rr) ((cu_o (by omega)).trans hr) r0 r1]
      have e : NEW (cu M c) 732 0 rr (vl c) = NEW M 732 0 rr (vl c) := by
        unfold NEW
        exact propext ⟨fun z r a b => by have := z r a b; rw [cu_o (by omega)] at this; exact this, fun z r a b => by rw [cu_o (by omega)]; exact z r a b⟩
      rw [e, b01_f (fun z => hn ⟨g, by omega, z⟩)]
      simp only [Option.bind_some]
      rw [if_neg (by decide)]
  · rw [if_neg g]
theorem rule1_C (h : LSW kd n) (hk : KDS M kd) (hr : M 727 6 0 = rr) (r0 : 0 ≤ rr) (r1 : rr < 12) (hv : ∀ j, 0 ≤ j → j ≤ 120 → M 730 j 0 = vl j) (c0 : 0 ≤ c) (c1 : c ≤ n) (h97 : kd c = 97) (hn : NEW M 732 0 rr (vl c)) : ∃ A, qf_X6_readRule 20000 (cu M c) = some ((pR kd vl c).1, A) ∧ RFC M A rr ∧ A 727 5 0 = (pR kd vl c).2.1 ∧ ((pR kd vl c).1 = 1 → A 727 6 0 = rr + 1 ∧ A 732 rr 0 = vl c ∧ A 733 rr 0 = c + 2 ∧ A 734 rr 0 = (pR kd vl c).2.2) := by
  have n1 := h.2.1
  have cc : 0 ≤ c ∧ c < 121 := by omega
  have rc : 0 ≤ rr ∧ rr < 12 := ⟨r0, r1⟩
  have cn := lst_lt h c1 (by omega) (by omega)
  have e : NEW (cu M c) 732 0 rr (vl c) = NEW M 732 0 rr (vl c) := by
    unfold NEW
    exact propext ⟨fun z r a b => by have := z r a b; rw [cu_o (by omega)] at this; exact this, fun z r a b => by rw [cu_o (by omega)]; exact z r a b⟩
  -- a write elsewhere, seen past the cursor
  have sw : ∀ (X : qm) (ad : Nat) (i j v d : Int), ad ≠ 727 → qw (cu X d) ad i j v = cu (qw X ad i j v) d := fun X ad i j v d h => by
    funext b x y
    unfold cu
    rw [qw_ap, qw_ap, qw_ap, qw_ap]
    by_cases g : b = ad ∧ x = i ∧ y = j
    · rw [if_pos g, if_neg (by omega), if_pos g]
    · rw [if_neg g]
      by_cases g2 : b = 727 ∧ x = 5 ∧ y = 0
      · rw [if_pos g2, if_pos g2]
      · rw [if_neg g2, if_neg g2, if_neg g]
  obtain ⟨M1, hM1⟩ : ∃ X, qw M 732 rr 0 (vl c) = X := ⟨_, rfl⟩
  obtain ⟨M2, hM2⟩ : ∃ X, qw (qw M1 733 rr 0 (c + 2)) 734 rr 0 0 = X := ⟨_, rfl⟩
  have f1 : ∀ b x y, ¬ (b = 732 ∧ x = rr) → M1 b x y = M b x y := fun b x y z => by rw [← hM1, qw_ap, if_neg (by omega)]
  have f2 : ∀ b x y, ¬ ((b = 733 ∨ b = 734) ∧ x = rr) → M2 b x y = M1 b x y := fun b x y z => by rw [← hM2, qw_ap, if_neg (by omega), qw_ap, if_neg (by omega)]
  have hk1 : KDS M1 kd := fun j j0 j1 => (f1 _ _ _ (by omega)).trans (hk j j0 j1)
  have hk2 : KDS M2 kd := fun j j0 j1 => (f2 _ _ _ (by omega)).trans (hk1 j j0 j1)
  have fc1 : ∀ d, RFC M (cu M1 d) rr := fun d b x y z1 z2 => by rw [cu_o (by omega)]; exact f1 _ _ _ (by omega)
  have fc2 : ∀ d, RFC M (cu M2 d) rr := fun d b x y z1 z2 => by rw [cu_o (by omega), f2 _ _ _ (by omega)]; exact f1 _ _ _ (by omega)
  have v2 : M2 732 rr 0 = vl c ∧ M2 733 rr 0 = c + 2 ∧ M2 734 rr 0 = 0 := ⟨by rw [f2 _ _ _ (by omega), ← hM1]; exact qw_s, by rw [← hM2, qw_a (by decide)]; exact qw_s, by rw [← hM2]; exact qw_s⟩
  have r6 : M2 727 6 0 = rr := by rw [f2 _ _ _ (by omega), f1 _ _ _ (by omega)]; exact hr
  unfold qf_X6_readRule pR
  rw [cu_c, if_pos cc, cu_o (by omega), hk c c0 (by omega), if_pos h97, cu_o (x := 6) (by omega), hr, if_neg (by omega), if_pos cc, cu_o (x := c) (by omega), hv c c0 (by omega), isname_C (rr := rr) ((cu_o (by omega)).trans hr) r0 (by omega), e, b01_t hn]
  simp only [Option.bind_some]
  rw [if_pos (show (1 : Int) - 1 = 0 by decide), if_pos cc, if_pos rc]
  unfold qbnd
  rw [sw _ _ _ _ _ _ (by decide), hM1]
  (try dsimp only)
  rw [skip_y h hk1 c0 c1 h97 (by decide) (by decide)]
  simp only [Option.bind_some]
  rw [if_neg (by decide)]
  by_cases g : kd (c + 1) = 58
  · have cn2 := lst_lt h (show c + 1 ≤ n by omega) (by omega) (by omega)
    obtain ⟨o1, o2, o3, o4⟩ := pC_ok (vl := vl) h (show 0 ≤ c + 2 by omega) (by omega)
    rw [skip_y h hk1 (by omega) (by omega) g (by decide) (by decide), if_pos g]
    simp only [Option.bind_some]
    rw [if_neg (by decide), cu_o (x := 6) (by omega), f1 727 6 0 (by omega), hr, if_pos rc, cu_c, show c + 1 + 1 = c + 2 by omega, sw _ _ _ _ _ _ (by decide)]
    rw [cu_o (x := 6) (by omega), qw_a (show (727 : Nat) ≠ 733 by decide), f1 727 6 0 (by omega), hr, if_pos rc, sw _ _ _ _ _ _ (by decide), hM2, clause_C (vl := vl) h hk2 (by omega) (by omega)]
    simp only [Option.bind_some]
    by_cases g2 : (pC kd vl (c + 2)).1 = 0
    · rw [if_pos g2, if_pos g2]
      exact ⟨_, rfl, fc2 _, cu_c, fun z => by have z : (0 : Int) = 1 := z; omega⟩
    · rw [if_neg g2, if_neg g2, exc_C (vl := vl) h hk2 120 20000 0 _ (by decide) (by decide) (by decide) (by omega) o3]
      obtain ⟨p1, p2, p3⟩ := pX_ok (vl := vl) h 120 (pC kd vl (c + 2)).2 (by omega) o3
      by_cases g3 : (pX kd vl 120 (pC kd vl (c + 2)).2).1 = 0
      · rw [if_pos g3, if_pos g3]
        exact ⟨_, rfl, fc2 _, cu_c, fun z => by have z : (0 : Int) = 1 := z; omega⟩
      · rw [if_neg g3, if_neg g3]
        simp only [Option.bind_some]
        obtain ⟨c5, hc5⟩ : ∃ x, (pX kd vl 120 (pC kd vl (c + 2)).2).2 = x := ⟨_, rfl⟩
        rw [hc5] at p2 p3 ⊢
        unfold qf_X6_readRule_J143 qf_X6_readRule_J182 qbnd
        by_cases g4 : kd c5 = 64
        · have cn3 := lst_lt h p3 (by omega) (by omega)
          rw [skip_y h hk2 (by omega) p3 g4 (by decide) (by decide), if_pos g4]
          simp only [Option.bind_some]
          rw [if_neg (by decide), cu_c, if_pos (show 0 ≤ c5 + 1 ∧ c5 + 1 < 121 by omega), cu_o (x := 6) (by omega), r6, if_pos rc, cu_o (x := c5 + 1) (by omega), f2 730 _ _ (by omega), f1 730 _ _ (by omega), hv _ (by omega) (by omega), sw _ _ _ _ _ _ (by decide)]
          obtain ⟨M3, hM3⟩ : ∃ X, qw M2 734 rr 0 (w32 (vl (c5 + 1))) = X := ⟨_, rfl⟩
          have f3 : ∀ b x y, ¬ (b = 734 ∧ x = rr) → M3 b x y = M2 b x y := fun b x y z => by rw [← hM3, qw_ap, if_neg (by omega)]
          have hk3 : KDS M3 kd := fun j j0 j1 => (f3 _ _ _ (by omega)).trans (hk2 j j0 j1)
          have fc3 : ∀ d, RFC M (cu M3 d) rr := fun d b x y z1 z2 => by rw [cu_o (by omega), f3 _ _ _ (by omega), f2 _ _ _ (by omega)]; exact f1 _ _ _ (by omega)
          rw [hM3]
          by_cases g5 : kd (c5 + 1) = 48
          · rw [skip_y h hk3 (by omega) (by omega) g5 (by decide) (by decide), if_pos g5]
            simp only [Option.bind_some]
            rw [if_neg (by decide), cu_o (x := 6) (by omega), f3 727 6 0 (by omega), r6, w32_id (x := rr + 1) (by omega) (by omega)]
            refine ⟨_, rfl, fun b x y z1 z2 => ?_, ?_, fun _ => ⟨qw_s, ?_, ?_, ?_⟩⟩
            · rw [qw_ap, if_neg (by omega)]
              exact fc3 _ b x y z1 z2
            · rw [qw_i (by decide), cu_c]
              show c5 + 1 + 1 = c5 + 2
              omega
            · rw [qw_a (by decide), cu_o (by omega), f3 _ _ _ (by omega)]
              exact v2.1
            · rw [qw_a (by decide), cu_o (by omega), f3 _ _ _ (by omega)]
              exact v2.2.1
            · rw [qw_a (by decide), cu_o (by omega), ← hM3]
              exact qw_s
          · rw [skip_n h hk3 (by omega) (by omega) g5, if_neg g5]
            exact ⟨_, rfl, fc3 _, cu_c (M := M3) (c := c5 + 1), fun z => by have z : (0 : Int) = 1 := z; omega⟩
        · rw [skip_n h hk2 (by omega) p3 g4, if_neg g4]
          simp only [Option.bind_some]
          (first | rw [if_pos trivial] | rw [if_pos rfl])
          rw [cu_o (x := 6) (by omega), r6, w32_id (x := rr + 1) (by omega) (by omega)]
          refine ⟨_, rfl, fun b x y z1 z2 => ?_, ?_, fun _ => ⟨qw_s, ?_, ?_, ?_⟩⟩
          · rw [qw_ap, if_neg (by omega)]
            exact fc2 _ b x y z1 z2
          · rw [qw_i (by decide)]
            exact cu_c
          · rw [qw_a (by decide), cu_o (by omega)]
            exact v2.1
          · rw [qw_a (by decide), cu_o (by omega)]
            exact v2.2.1
          · rw [qw_a (by decide), cu_o (by omega)]
            exact v2.2.2
  · rw [skip_n h hk1 (by omega) (by omega) g, if_neg g]
    exact ⟨_, rfl, fc1 _, cu_c (M := M1) (c := c + 1), fun z => by have z : (0 : Int) = 1 := z; omega⟩
end WDq
