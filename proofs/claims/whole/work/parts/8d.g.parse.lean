/-! ===== rules: reading as a function on words; the class reads so ===== -/
section WDg
variable {M K A Z D W : qm} {kd vl pl : Int → Int} {S F : Int → Int × Int × List (Int × Int)} {r : Int × Int × List (Int × Int)} {L p q e k v i j x y z c d n w t s : Int} {m : Nat} {KK : Int → qm → Option (Int × qm)}
def opn (k : Int) : Int := if k = 43 then 2 else if k = 45 then 3 else if k = 42 then 4 else if k = 47 then 5 else 0
/-- fine or not, where it stopped, what is to be done -/
def pF (kd vl : Int → Int) (S : Int → Int × Int × List (Int × Int)) (d c : Int) : Int × Int × List (Int × Int) :=
  if kd c = 48 then (1, c + 1, [(0, vl c)]) else if kd c = 97 then (1, c + 1, [(1, vl c)]) else if 8 ≤ d then (0, c, []) else if kd c = 40 then (if (S (c + 1)).1 = 0 then (0, (S (c + 1)).2.1, []) else if kd (S (c + 1)).2.1 = 41 then (1, (S (c + 1)).2.1 + 1, (S (c + 1)).2.2) else (0, (S (c + 1)).2.1, [])) else (0, c, [])
def pL (kd : Int → Int) (x y : Int) (F : Int → Int × Int × List (Int × Int)) : Nat → Int × Int × List (Int × Int) → Int × Int × List (Int × Int)
  | 0, r => r
  | m + 1, r => if r.1 = 0 then r else if kd r.2.1 = x ∨ kd r.2.1 = y then pL kd x y F m ((F (r.2.1 + 1)).1, (F (r.2.1 + 1)).2.1, r.2.2 ++ ((F (r.2.1 + 1)).2.2 ++ [(opn (kd r.2.1), 0)])) else r
def pT (kd vl : Int → Int) (S : Int → Int × Int × List (Int × Int)) (d c : Int) : Int × Int × List (Int × Int) := pL kd 42 47 (pF kd vl S d) 120 (pF kd vl S d c)
def pS0 (kd vl : Int → Int) (S : Int → Int × Int × List (Int × Int)) (d c : Int) : Int × Int × List (Int × Int) :=
  if kd c = 45 then pL kd 43 45 (pT kd vl S d) 120 ((pT kd vl S d (c + 1)).1, (pT kd vl S d (c + 1)).2.1, (0, 0) :: ((pT kd vl S d (c + 1)).2.2 ++ [(3, 0)])) else pL kd 43 45 (pT kd vl S d) 120 (pT kd vl S d c)
def pS (kd vl : Int → Int) : Nat → Int → Int → Int × Int × List (Int × Int)
  | 0, _, c => (0, c, [])
  | m + 1, d, c => pS0 kd vl (fun c => pS kd vl m (d + 1) c) d c
def ROK (n c : Int) (r : Int × Int × List (Int × Int)) : Prop := (r.1 = 0 ∨ r.1 = 1) ∧ c ≤ r.2.1 ∧ r.2.1 ≤ n ∧ (r.1 = 1 → c < r.2.1)
theorem rok_mk {b : Int} {l : List (Int × Int)} (h1 : b = 0 ∨ b = 1) (h2 : c ≤ s) (h3 : s ≤ n) (h4 : b = 1 → c < s) : ROK n c (b, s, l) := ⟨h1, h2, h3, h4⟩
/-- the last word is the END or a wrong one -/
def LSW (kd : Int → Int) (n : Int) : Prop := 0 ≤ n ∧ n ≤ 120 ∧ (kd n = 101 ∨ kd n = 63)
theorem lst_lt (h : LSW kd n) (hc : c ≤ n) (k1 : kd c ≠ 101) (k2 : kd c ≠ 63) : c < n := by
  have : c ≠ n := fun z => by
    rw [z] at k1 k2
    rcases h.2.2 with q | q
    · exact k1 q
    · exact k2 q
  omega
theorem pF_ok (h : LSW kd n) (hS : ∀ c, 0 ≤ c → c ≤ n → ROK n c (S c)) (c0 : 0 ≤ c) (c1 : c ≤ n) : ROK n c (pF kd vl S d c) := by
  unfold pF
  by_cases g : kd c = 48
  · have := lst_lt h c1 (by omega) (by omega)
    rw [if_pos g]
    exact rok_mk (Or.inr rfl) (by omega) (by omega) (fun _ => by omega)
  · rw [if_neg g]
    by_cases g2 : kd c = 97
    · have := lst_lt h c1 (by omega) (by omega)
      rw [if_pos g2]
      exact rok_mk (Or.inr rfl) (by omega) (by omega) (fun _ => by omega)
    · rw [if_neg g2]
      by_cases g3 : 8 ≤ d
      · rw [if_pos g3]
        exact rok_mk (Or.inl rfl) (by omega) (by omega) (fun z => by omega)
      · rw [if_neg g3]
        by_cases g4 : kd c = 40
        · have := lst_lt h c1 (by omega) (by omega)
          have o := hS (c + 1) (by omega) (by omega)
          rw [if_pos g4]
          by_cases g5 : (S (c + 1)).1 = 0
          · rw [if_pos g5]
            have := o.2.1
            exact rok_mk (Or.inl rfl) (by omega) (o.2.2.1) (fun z => by omega)
          · rw [if_neg g5]
            have o1 := o.2.1
            have o2 := o.2.2.1
            by_cases g6 : kd (S (c + 1)).2.1 = 41
            · have := lst_lt h o2 (by omega) (by omega)
              rw [if_pos g6]
              exact rok_mk (Or.inr rfl) (by omega) (by omega) (fun _ => by omega)
            · rw [if_neg g6]
              exact rok_mk (Or.inl rfl) (by omega) (o2) (fun z => by omega)
        · rw [if_neg g4]
          exact rok_mk (Or.inl rfl) (by omega) (by omega) (fun z => by omega)
theorem pL_ok (h : LSW kd n) (hF : ∀ c, 0 ≤ c → c ≤ n → ROK n c (F c)) (hx : (x = 42 ∧ y = 47) ∨ (x = 43 ∧ y = 45)) : ∀ (m : Nat) (r : Int × Int × List (Int × Int)), 0 ≤ c → ROK n c r → ROK n c (pL kd x y F m r) := by
  intro m
  induction m with
  | zero => exact fun r _ o => o
  | succ m ih =>
    intro r c0 o
    unfold pL
    by_cases g : r.1 = 0
    · rw [if_pos g]
      exact o
    · rw [if_neg g]
      by_cases g2 : kd r.2.1 = x ∨ kd r.2.1 = y
      · rw [if_pos g2]
        have o1 := o.2.1
        have := lst_lt h o.2.2.1 (by omega) (by omega)
        have f := hF (r.2.1 + 1) (by omega) (by omega)
        have f1 := f.2.1
        exact ih _ c0 (rok_mk f.1 (by omega) f.2.2.1 (fun _ => by omega))
      · rw [if_neg g2]
        exact o
theorem pT_ok (h : LSW kd n) (hS : ∀ c, 0 ≤ c → c ≤ n → ROK n c (S c)) (c0 : 0 ≤ c) (c1 : c ≤ n) : ROK n c (pT kd vl S d c) := pL_ok h (fun c c0 c1 => pF_ok h hS c0 c1) (Or.inl ⟨rfl, rfl⟩) _ _ c0 (pF_ok h hS c0 c1)
theorem pS0_ok (h : LSW kd n) (hS : ∀ c, 0 ≤ c → c ≤ n → ROK n c (S c)) (c0 : 0 ≤ c) (c1 : c ≤ n) : ROK n c (pS0 kd vl S d c) := by
  unfold pS0
  by_cases g : kd c = 45
  · have := lst_lt h c1 (by omega) (by omega)
    rw [if_pos g]
    have o := pT_ok (vl := vl) (d := d) h hS (show 0 ≤ c + 1 by omega) (by omega)
    have o1 := o.2.1
    exact pL_ok h (fun c c0 c1 => pT_ok h hS c0 c1) (Or.inr ⟨rfl, rfl⟩) _ _ c0 (rok_mk o.1 (by omega) o.2.2.1 (fun _ => by omega))
  · rw [if_neg g]
    exact pL_ok h (fun c c0 c1 => pT_ok h hS c0 c1) (Or.inr ⟨rfl, rfl⟩) _ _ c0 (pT_ok h hS c0 c1)
theorem pS_ok (h : LSW kd n) : ∀ (m : Nat) (d c : Int), 0 ≤ c → c ≤ n → ROK n c (pS kd vl m d c) := by
  intro m
  induction m with
  | zero => exact fun d c c0 c1 => ⟨Or.inl rfl, Int.le_refl _, c1, fun z => by have z : (0 : Int) = 1 := z; omega⟩
  | succ m ih => exact fun d c c0 c1 => pS0_ok h (fun c c0 c1 => ih (d + 1) c c0 c1) c0 c1
/-- the class's cursor -/
def cu (M : qm) (c : Int) : qm := qw M 727 5 0 c
theorem cu_c : cu M c 727 5 0 = c := qw_s
theorem cu_o {b : Nat} (h : ¬ (b = 727 ∧ x = 5)) : cu M c b x y = M b x y := by
  unfold cu
  rw [qw_ap, if_neg (by omega)]
theorem cu_cu : cu (cu M c) d = cu M d := qw_qw
def KDS (M : qm) (kd : Int → Int) : Prop := ∀ j, 0 ≤ j → j ≤ 120 → M 729 j 0 = kd j
theorem skip_n (h : LSW kd n) (hk : KDS M kd) (c0 : 0 ≤ c) (c1 : c ≤ n) (g : kd c ≠ s) : qf_X6_skipSign 20000 s (cu M c) = some (0, cu M c) := by
  have n1 := h.2.1
  unfold qf_X6_skipSign
  rw [cu_c, if_pos (show 0 ≤ c ∧ c < 121 by omega), cu_o (by omega), hk c c0 (by omega), if_neg g]
theorem skip_y (h : LSW kd n) (hk : KDS M kd) (c0 : 0 ≤ c) (c1 : c ≤ n) (g : kd c = s) (s1 : s ≠ 101) (s2 : s ≠ 63) : qf_X6_skipSign 20000 s (cu M c) = some (1, cu M (c + 1)) := by
  have n1 := h.2.1
  have := lst_lt h c1 (by omega) (by omega)
  unfold qf_X6_skipSign qbnd
  rw [cu_c, if_pos (show 0 ≤ c ∧ c < 121 by omega), cu_o (by omega), hk c c0 (by omega), if_pos g, if_pos (show c < 120 by omega), w32_id (x := c + 1) (by omega) (by omega)]
  exact congrArg (fun z => some (1, z)) cu_cu
theorem factor_C (h : LSW kd n) (hk : KDS M kd) (hS : ∀ c, 0 ≤ c → c ≤ n → ROK n c (S c)) (hK : ∀ c, 0 ≤ c → c ≤ n → d < 8 → KK (d + 1) (cu M c) = some ((S c).1, cu M (S c).2.1)) (d0 : 0 ≤ d) (d1 : d ≤ 8) (c0 : 0 ≤ c) (c1 : c ≤ n) : qf_X6_readFactor 20000 KK d (cu M c) = some ((pF kd vl S d c).1, cu M (pF kd vl S d c).2.1) := by
  unfold qf_X6_readFactor pF
  by_cases g : kd c = 48
  · rw [skip_y h hk c0 c1 g (by decide) (by decide), if_pos g]
    rfl
  · rw [skip_n h hk c0 c1 g, if_neg g]
    simp only [Option.bind_some]
    (first | rw [if_pos trivial] | rw [if_pos rfl])
    by_cases g2 : kd c = 97
    · rw [skip_y h hk c0 c1 g2 (by decide) (by decide), if_pos g2]
      rfl
    · rw [skip_n h hk c0 c1 g2, if_neg g2]
      simp only [Option.bind_some]
      (first | rw [if_pos trivial] | rw [if_pos rfl])
      by_cases g3 : 8 ≤ d
      · rw [if_pos g3, if_pos g3]
      · rw [if_neg g3, if_neg g3]
        by_cases g4 : kd c = 40
        · have := lst_lt h c1 (by omega) (by omega)
          rw [skip_y h hk c0 c1 g4 (by decide) (by decide), if_pos g4]
          simp only [Option.bind_some]
          rw [if_neg (by decide), w32_id (x := d + 1) (by omega) (by omega), hK (c + 1) (by omega) (by omega) (by omega)]
          simp only [Option.bind_some]
          have o := hS (c + 1) (by omega) (by omega)
          have o1 := o.2.1
          by_cases g5 : (S (c + 1)).1 = 0
          · rw [if_pos g5, if_pos g5]
          · rw [if_neg g5, if_neg g5]
            by_cases g6 : kd (S (c + 1)).2.1 = 41
            · rw [skip_y h hk (by omega) o.2.2.1 g6 (by decide) (by decide), if_pos g6]
              rfl
            · rw [skip_n h hk (by omega) o.2.2.1 g6, if_neg g6]
              rfl
        · rw [skip_n h hk c0 c1 g4, if_neg g4]
          rfl
theorem termL_C (h : LSW kd n) (hk : KDS M kd) (hF : ∀ c, 0 ≤ c → c ≤ n → ROK n c (F c)) (hK : ∀ c, 0 ≤ c → c ≤ n → qf_X6_readFactor 20000 KK d (cu M c) = some ((F c).1, cu M (F c).2.1)) : ∀ (m N : Nat) (i : Int) (r : Int × Int × List (Int × Int)), 0 ≤ i → i + m = 120 → m < N → (r.1 = 0 ∨ r.1 = 1) → 0 ≤ r.2.1 → r.2.1 ≤ n → qf_X6_readTerm_L8 20000 KK N d r.1 i (cu M r.2.1) = some (.inr ((pL kd 42 47 F m r).1, cu M (pL kd 42 47 F m r).2.1)) := by
  intro m
  induction m with
  | zero =>
    intro N i r i0 i1 hN _ _ _
    obtain ⟨N, rfl⟩ : ∃ N', N = N' + 1 := ⟨N - 1, by omega⟩
    unfold qf_X6_readTerm_L8 qloop qf_X6_readTerm_L8_b
    (try dsimp only)
    rw [if_pos (by omega)]
    rfl
  | succ m ih =>
    intro N i r i0 i1 hN b r0 r1
    obtain ⟨N, rfl⟩ : ∃ N', N = N' + 1 := ⟨N - 1, by omega⟩
    unfold qf_X6_readTerm_L8 qloop qf_X6_readTerm_L8_b pL
    (try dsimp only)
    rw [if_neg (by omega)]
    by_cases g : r.1 = 0
    · rw [if_pos g, if_pos g]
    · rw [if_neg g, if_neg g]
      have nx : kd r.2.1 = 42 ∨ kd r.2.1 = 47 → qf_X6_readTerm_J36 20000 KK d i (cu M (r.2.1 + 1)) = some (.inr (d, (F (r.2.1 + 1)).1, i + 1, cu M (F (r.2.1 + 1)).2.1)) := fun z => by
        have := lst_lt h r1 (by omega) (by omega)
        unfold qf_X6_readTerm_J36
        rw [hK (r.2.1 + 1) (by omega) (by omega), w32_id (x := i + 1) (by omega) (by omega)]
        rfl
      have go : ∀ z : kd r.2.1 = 42 ∨ kd r.2.1 = 47, qloop (fun s => qf_X6_readTerm_L8_b 20000 KK s.1 s.2.1 s.2.2.1 s.2.2.2) N (d, (F (r.2.1 + 1)).1, i + 1, cu M (F (r.2.1 + 1)).2.1) = some (.inr ((pL kd 42 47 F m ((F (r.2.1 + 1)).1, (F (r.2.1 + 1)).2.1, r.2.2 ++ ((F (r.2.1 + 1)).2.2 ++ [(opn (kd r.2.1), 0)]))).1, cu M (pL kd 42 47 F m ((F (r.2.1 + 1)).1, (F (r.2.1 + 1)).2.1, r.2.2 ++ ((F (r.2.1 + 1)).2.2 ++ [(opn (kd r.2.1), 0)]))).2.1)) := fun z => by
        have := lst_lt h r1 (by omega) (by omega)
        have f := hF (r.2.1 + 1) (by omega) (by omega)
        have f1 := f.2.1
        exact ih N (i + 1) ((F (r.2.1 + 1)).1, (F (r.2.1 + 1)).2.1, r.2.2 ++ ((F (r.2.1 + 1)).2.2 ++ [(opn (kd r.2.1), 0)])) (by omega) (by omega) (by omega) f.1 (by show 0 ≤ (F (r.2.1 + 1)).2.1; omega) f.2.2.1
      by_cases g1 : kd r.2.1 = 42
      · rw [skip_y h hk r0 r1 g1 (by decide) (by decide), if_pos (Or.inl g1)]
        simp only [Option.bind_some]
        rw [if_neg (by decide), nx (Or.inl g1)]
        exact go (Or.inl g1)
      · rw [skip_n h hk r0 r1 g1]
        simp only [Option.bind_some]
        (first | rw [if_pos trivial] | rw [if_pos rfl])
        by_cases g2 : kd r.2.1 = 47
        · rw [skip_y h hk r0 r1 g2 (by decide) (by decide), if_pos (Or.inr g2)]
          simp only [Option.bind_some]
          rw [if_neg (by decide), nx (Or.inr g2)]
          exact go (Or.inr g2)
        · rw [skip_n h hk r0 r1 g2, if_neg (by omega)]
          simp only [Option.bind_some]
          (first | rw [if_pos trivial] | rw [if_pos rfl])
theorem term_C (h : LSW kd n) (hk : KDS M kd) (hS : ∀ c, 0 ≤ c → c ≤ n → ROK n c (S c)) (hK : ∀ c, 0 ≤ c → c ≤ n → d < 8 → KK (d + 1) (cu M c) = some ((S c).1, cu M (S c).2.1)) (d0 : 0 ≤ d) (d1 : d ≤ 8) (c0 : 0 ≤ c) (c1 : c ≤ n) : qf_X6_readTerm 20000 KK d (cu M c) = some ((pT kd vl S d c).1, cu M (pT kd vl S d c).2.1) := by
  have o := pF_ok (vl := vl) (d := d) h hS c0 c1
  have o1 := o.2.1
  have l := termL_C (KK := KK) (d := d) h hk (fun c c0 c1 => pF_ok (vl := vl) (d := d) h hS c0 c1) (fun c c0 c1 => factor_C h hk hS hK d0 d1 c0 c1) 120 20000 0 (pF kd vl S d c) (by decide) (by decide) (by decide) o.1 (by omega) o.2.2.1
  have o2 := pT_ok (vl := vl) (d := d) h hS c0 c1
  unfold qf_X6_readTerm
  rw [factor_C h hk hS hK d0 d1 c0 c1]
  simp only [Option.bind_some]
  rw [l]
  simp only [Option.bind_some]
  unfold pT at o2 ⊢
  rw [if_pos o2.1]
theorem sideL_C (h : LSW kd n) (hk : KDS M kd) (hF : ∀ c, 0 ≤ c → c ≤ n → ROK n c (F c)) (hK : ∀ c, 0 ≤ c → c ≤ n → qf_X6_readTerm 20000 KK d (cu M c) = some ((F c).1, cu M (F c).2.1)) : ∀ (m N : Nat) (i : Int) (r : Int × Int × List (Int × Int)), 0 ≤ i → i + m = 120 → m < N → (r.1 = 0 ∨ r.1 = 1) → 0 ≤ r.2.1 → r.2.1 ≤ n → qf_X6_readSide_B_L15 20000 KK N d r.1 i (cu M r.2.1) = some (.inr ((pL kd 43 45 F m r).1, cu M (pL kd 43 45 F m r).2.1)) := by
  intro m
  induction m with
  | zero =>
    intro N i r i0 i1 hN _ _ _
    obtain ⟨N, rfl⟩ : ∃ N', N = N' + 1 := ⟨N - 1, by omega⟩
    unfold qf_X6_readSide_B_L15 qloop qf_X6_readSide_B_L15_b
    (try dsimp only)
    rw [if_pos (by omega)]
    rfl
  | succ m ih =>
    intro N i r i0 i1 hN b r0 r1
    obtain ⟨N, rfl⟩ : ∃ N', N = N' + 1 := ⟨N - 1, by omega⟩
    unfold qf_X6_readSide_B_L15 qloop qf_X6_readSide_B_L15_b pL
    (try dsimp only)
    rw [if_neg (by omega)]
    by_cases g : r.1 = 0
    · rw [if_pos g, if_pos g]
    · rw [if_neg g, if_neg g]
      have nx : kd r.2.1 = 43 ∨ kd r.2.1 = 45 → qf_X6_readSide_B_J43 20000 KK d i (cu M (r.2.1 + 1)) = some (.inr (d, (F (r.2.1 + 1)).1, i + 1, cu M (F (r.2.1 + 1)).2.1)) := fun z => by
        have := lst_lt h r1 (by omega) (by omega)
        unfold qf_X6_readSide_B_J43
        rw [hK (r.2.1 + 1) (by omega) (by omega), w32_id (x := i + 1) (by omega) (by omega)]
        rfl
      have go : ∀ z : kd r.2.1 = 43 ∨ kd r.2.1 = 45, qloop (fun s => qf_X6_readSide_B_L15_b 20000 KK s.1 s.2.1 s.2.2.1 s.2.2.2) N (d, (F (r.2.1 + 1)).1, i + 1, cu M (F (r.2.1 + 1)).2.1) = some (.inr ((pL kd 43 45 F m ((F (r.2.1 + 1)).1, (F (r.2.1 + 1)).2.1, r.2.2 ++ ((F (r.2.1 + 1)).2.2 ++ [(opn (kd r.2.1), 0)]))).1, cu M (pL kd 43 45 F m ((F (r.2.1 + 1)).1, (F (r.2.1 + 1)).2.1, r.2.2 ++ ((F (r.2.1 + 1)).2.2 ++ [(opn (kd r.2.1), 0)]))).2.1)) := fun z => by
        have := lst_lt h r1 (by omega) (by omega)
        have f := hF (r.2.1 + 1) (by omega) (by omega)
        have f1 := f.2.1
        exact ih N (i + 1) ((F (r.2.1 + 1)).1, (F (r.2.1 + 1)).2.1, r.2.2 ++ ((F (r.2.1 + 1)).2.2 ++ [(opn (kd r.2.1), 0)])) (by omega) (by omega) (by omega) f.1 (by show 0 ≤ (F (r.2.1 + 1)).2.1; omega) f.2.2.1
      by_cases g1 : kd r.2.1 = 43
      · rw [skip_y h hk r0 r1 g1 (by decide) (by decide), if_pos (Or.inl g1)]
        simp only [Option.bind_some]
        rw [if_neg (by decide), nx (Or.inl g1)]
        exact go (Or.inl g1)
      · rw [skip_n h hk r0 r1 g1]
        simp only [Option.bind_some]
        (first | rw [if_pos trivial] | rw [if_pos rfl])
        by_cases g2 : kd r.2.1 = 45
        · rw [skip_y h hk r0 r1 g2 (by decide) (by decide), if_pos (Or.inr g2)]
          simp only [Option.bind_some]
          rw [if_neg (by decide), nx (Or.inr g2)]
          exact go (Or.inr g2)
        · rw [skip_n h hk r0 r1 g2, if_neg (by omega)]
          simp only [Option.bind_some]
          (first | rw [if_pos trivial] | rw [if_pos rfl])
theorem side0_C (h : LSW kd n) (hk : KDS M kd) (hS : ∀ c, 0 ≤ c → c ≤ n → ROK n c (S c)) (hK : ∀ c, 0 ≤ c → c ≤ n → d < 8 → KK (d + 1) (cu M c) = some ((S c).1, cu M (S c).2.1)) (d0 : 0 ≤ d) (d1 : d ≤ 8) (c0 : 0 ≤ c) (c1 : c ≤ n) : qf_X6_readSide_B 20000 KK d (cu M c) = some ((pS0 kd vl S d c).1, cu M (pS0 kd vl S d c).2.1) := by
  have o2 := pS0_ok (vl := vl) (d := d) h hS c0 c1
  have lp := fun r => sideL_C (KK := KK) (d := d) h hk (fun c c0 c1 => pT_ok (vl := vl) (d := d) h hS c0 c1) (fun c c0 c1 => term_C h hk hS hK d0 d1 c0 c1) 120 20000 0 r (by decide) (by decide) (by decide)
  unfold qf_X6_readSide_B
  unfold pS0 at o2 ⊢
  by_cases g : kd c = 45
  · have := lst_lt h c1 (by omega) (by omega)
    have o := pT_ok (vl := vl) (d := d) h hS (show 0 ≤ c + 1 by omega) (by omega)
    have o1 := o.2.1
    rw [if_pos g] at o2
    rw [skip_y h hk c0 c1 g (by decide) (by decide), if_pos g]
    simp only [Option.bind_some]
    rw [term_C (vl := vl) h hk hS hK d0 d1 (show 0 ≤ c + 1 by omega) (by omega)]
    simp only [Option.bind_some]
    have l := lp ((pT kd vl S d (c + 1)).1, (pT kd vl S d (c + 1)).2.1, (0, 0) :: ((pT kd vl S d (c + 1)).2.2 ++ [(3, 0)])) o.1 (by show 0 ≤ (pT kd vl S d (c + 1)).2.1; omega) o.2.2.1
    (try dsimp only at l)
    rw [l]
    simp only [Option.bind_some]
    rw [if_pos o2.1]
  · have o := pT_ok (vl := vl) (d := d) h hS c0 c1
    have o1 := o.2.1
    rw [if_neg g] at o2
    rw [skip_n h hk c0 c1 g, if_neg g]
    simp only [Option.bind_some]
    rw [term_C (vl := vl) h hk hS hK d0 d1 c0 c1]
    simp only [Option.bind_some]
    rw [lp _ o.1 (by omega) o.2.2.1]
    simp only [Option.bind_some]
    rw [if_pos o2.1]
theorem sideR_C (h : LSW kd n) (hk : KDS M kd) : ∀ (m : Nat) (d c : Int), 0 ≤ d → d ≤ 8 → 9 ≤ d + m → 0 ≤ c → c ≤ n → qr_X6_readSide 20000 m d (cu M c) = some ((pS kd vl m d c).1, cu M (pS kd vl m d c).2.1) := by
  intro m
  induction m with
  | zero => intro d c d0 d1 d2; omega
  | succ m ih =>
    intro d c d0 d1 d2 c0 c1
    exact side0_C h hk (fun c c0 c1 => pS_ok h m (d + 1) c c0 c1) (fun c c0 c1 d8 => ih (d + 1) c (by omega) (by omega) (by omega) c0 c1) d0 d1 c0 c1
theorem side_C (h : LSW kd n) (hk : KDS M kd) (c0 : 0 ≤ c) (c1 : c ≤ n) : qf_X6_readSide 20000 0 (cu M c) = some ((pS kd vl 12 0 c).1, cu M (pS kd vl 12 0 c).2.1) := sideR_C h hk 12 0 c (by decide) (by decide) (by decide) c0 c1
end WDg
