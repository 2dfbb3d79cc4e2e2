/-! ===== the call say ===== -/
section SY
variable {M K : qm} {x : Int}
/-- the text with the bytes 7 .. 8 - k put behind -/
def apd (T S : Nat) (x : Int) (M : qm) : Nat → qm
  | 0 => M
  | k + 1 => if y8 x (7 - k) = 0 then apd T S x M k else qw (qw (apd T S x M k) T (apd T S x M k S 1 0) 0 (y8 x (7 - k))) S 1 0 (apd T S x M k S 1 0 + 1)
theorem apd_s {T S : Nat} (h : S ≠ T) {k : Nat} (hk : k ≤ 8) : apd T S x M k S 1 0 = M S 1 0 + (yn x 8 - yn x (8 - k)) := by
  induction k with
  | zero =>
    show M S 1 0 = _
    rw [show (8 : Int) - ((0 : Nat) : Int) = 8 by omega]
    omega
  | succ k ih =>
    have q := ih (by omega)
    have s := yc_s (x := x) (i := 7 - k) (by omega)
    rw [show (7 : Int) - (k : Int) + 1 = 8 - (k : Int) by omega] at s
    show (if y8 x (7 - k) = 0 then apd T S x M k else qw (qw (apd T S x M k) T (apd T S x M k S 1 0) 0 (y8 x (7 - k))) S 1 0 (apd T S x M k S 1 0 + 1)) S 1 0 = _
    rw [show (8 : Int) - ((k + 1 : Nat) : Int) = 7 - k by omega]
    by_cases g : y8 x (7 - k) = 0
    · rw [if_pos g] at s ⊢
      omega
    · rw [if_neg g] at s ⊢
      rw [qw_ap, if_pos ⟨rfl, rfl, rfl⟩]
      omega
theorem apd_o {T S b : Nat} (h : b ≠ T) (h2 : b ≠ S) {k : Nat} {i j : Int} : apd T S x M k b i j = M b i j := by
  induction k with
  | zero => rfl
  | succ k ih =>
    show (if y8 x (7 - k) = 0 then apd T S x M k else qw (qw (apd T S x M k) T (apd T S x M k S 1 0) 0 (y8 x (7 - k))) S 1 0 (apd T S x M k S 1 0 + 1)) b i j = _
    split
    · exact ih
    · rw [qw_a h2, qw_a h]
      exact ih
theorem apd_S {T S : Nat} (h : S ≠ T) {k : Nat} {i j : Int} (hi : ¬ (i = 1 ∧ j = 0)) : apd T S x M k S i j = M S i j := by
  induction k with
  | zero => rfl
  | succ k ih =>
    show (if y8 x (7 - k) = 0 then apd T S x M k else qw (qw (apd T S x M k) T (apd T S x M k S 1 0) 0 (y8 x (7 - k))) S 1 0 (apd T S x M k S 1 0 + 1)) S i j = _
    split
    · exact ih
    · rw [qw_ap, if_neg (fun z => hi z.2), qw_a h]
      exact ih
theorem append_r (h0 : 0 ≤ M 727 1 0) (h1 : M 727 1 0 + yn x 8 ≤ 800) : qf_X6_append 20000 x M = some (M 727 1 0 + yn x 8, apd 728 727 x M 8) := by
  have b8 := yc_b (x := x) (i := 8) (by decide)
  refine qW_e ?_
  unfold qf_X6_append
  refine qW_call (Q := fun o => o = .inr ((), apd 728 727 x M 8)) ?_ ?_
  · unfold qf_X6_append_L3
    refine qW_for 8 (fun i s => s = (x, 8 * (7 - i), apd 728 727 x M i.toNat)) ?_ ?_ ?_ (by decide) (by decide)
    · rintro i _ i0 i1 rfl
      obtain ⟨n, rfl⟩ : ∃ n : Nat, i = n := ⟨i.toNat, by omega⟩
      have s := apd_s (T := 728) (S := 727) (x := x) (M := M) (by decide) (k := n) (by omega)
      have b := yc_b (x := x) (i := 8 - n) (by omega)
      have e := yc_s (x := x) (i := 7 - n) (by omega)
      have b7 := yc_b (x := x) (i := 7 - n) (by omega)
      have y := y8_b (x := x) (k := 7 - n)
      have mono : yn x (8 - n) ≤ yn x 8 := by
        have z : ∀ a : Nat, ∀ c : Int, 0 ≤ c → yn x c ≤ yn x (c + a) := by
          intro a c c0
          induction a with
          | zero => rw [show c + ((0 : Nat) : Int) = c by omega]; exact Int.le_refl _
          | succ a ih =>
            have q := yc_s (x := x) (i := c + a) (by omega)
            rw [show c + ((a + 1 : Nat) : Int) = c + a + 1 by omega, q]
            split <;> omega
        have w := z n (8 - n) (by omega)
        rw [show (8 : Int) - (n : Int) + (n : Int) = 8 by omega] at w
        exact w
      rw [show (7 : Int) - (n : Int) + 1 = 8 - (n : Int) by omega] at e
      have st : apd 728 727 x M (n + 1) = if y8 x (7 - n) = 0 then apd 728 727 x M n else qw (qw (apd 728 727 x M n) 728 (apd 728 727 x M n 727 1 0) 0 (y8 x (7 - n))) 727 1 0 (apd 728 727 x M n 727 1 0 + 1) := rfl
      unfold qf_X6_append_L3_b
      (try dsimp only)
      rw [if_neg (show ¬ 8 * (7 - (n : Int)) < 0 by omega), lA_y (by omega) (by omega), w32_id (x := 8 * (7 - (n : Int)) - 8) (by omega) (by omega), show ((n : Int) + 1).toNat = n + 1 by omega, show ((n : Int)).toNat = n by omega, st]
      by_cases g : y8 x (7 - n) = 0
      · rw [if_pos g, if_pos g]
        exact qW_some (show (_ : Int × Int × qm) = _ by rw [show 8 * (7 - (n : Int)) - 8 = 8 * (7 - ((n : Int) + 1)) by omega])
      · rw [if_neg g] at e
        rw [if_neg g, if_neg g, if_neg (by omega), if_pos ⟨by omega, by omega⟩, w32_id (x := y8 x (7 - n)) (by omega) (by omega), show y8 x (7 - (n : Int)) % 65536 % 65536 = y8 x (7 - n) by omega]
        refine qW_bnd ?_
        (try dsimp only)
        refine qW_bnd ?_
        (try dsimp only)
        rw [qw_a (show (727 : Nat) ≠ 728 by decide), w32_id (x := apd 728 727 x M n 727 1 0 + 1) (by omega) (by omega)]
        exact qW_some (show (_ : Int × Int × qm) = _ by rw [show 8 * (7 - (n : Int)) - 8 = 8 * (7 - ((n : Int) + 1)) by omega])
    · rintro _ rfl
      unfold qf_X6_append_L3_b
      (try dsimp only)
      rw [if_pos (show 8 * (7 - (8 : Int)) < 0 by omega)]
      exact qW_some rfl
    · exact rfl
  · rintro _ rfl
    (try dsimp only)
    have s := apd_s (T := 728) (S := 727) (x := x) (M := M) (by decide) (k := 8) (by omega)
    rw [show (8 : Int) - ((8 : Nat) : Int) = 0 by decide, show yn x 0 = 0 from rfl] at s
    rw [s]
    exact qW_some (by rw [show M 727 1 0 + (yn x 8 - 0) = M 727 1 0 + yn x 8 by omega])
theorem saying_r (h0 : 0 ≤ K 2184 1 0) (h1 : K 2184 1 0 + yn x 8 ≤ 800) : qf_X15_say 20000 x K = some (K 2184 1 0 + yn x 8, apd 2185 2184 x K 8) := by
  have b8 := yc_b (x := x) (i := 8) (by decide)
  refine qW_e ?_
  unfold qf_X15_say
  refine qW_call (Q := fun o => o = .inr ((), apd 2185 2184 x K 8)) ?_ ?_
  · unfold qf_X15_say_L3
    refine qW_for 8 (fun i s => s = (x, 7 - i, apd 2185 2184 x K i.toNat)) ?_ ?_ ?_ (by decide) (by decide)
    · rintro i _ i0 i1 rfl
      obtain ⟨n, rfl⟩ : ∃ n : Nat, i = n := ⟨i.toNat, by omega⟩
      have s := apd_s (T := 2185) (S := 2184) (x := x) (M := K) (by decide) (k := n) (by omega)
      have b := yc_b (x := x) (i := 8 - n) (by omega)
      have e := yc_s (x := x) (i := 7 - n) (by omega)
      have b7 := yc_b (x := x) (i := 7 - n) (by omega)
      have y := y8_b (x := x) (k := 7 - n)
      have mono : yn x (8 - n) ≤ yn x 8 := by
        have z : ∀ a : Nat, ∀ c : Int, 0 ≤ c → yn x c ≤ yn x (c + a) := by
          intro a c c0
          induction a with
          | zero => rw [show c + ((0 : Nat) : Int) = c by omega]; exact Int.le_refl _
          | succ a ih =>
            have q := yc_s (x := x) (i := c + a) (by omega)
            rw [show c + ((a + 1 : Nat) : Int) = c + a + 1 by omega, q]
            split <;> omega
        have w := z n (8 - n) (by omega)
        rw [show (8 : Int) - (n : Int) + (n : Int) = 8 by omega] at w
        exact w
      rw [show (7 : Int) - (n : Int) + 1 = 8 - (n : Int) by omega] at e
      have st : apd 2185 2184 x K (n + 1) = if y8 x (7 - n) = 0 then apd 2185 2184 x K n else qw (qw (apd 2185 2184 x K n) 2185 (apd 2185 2184 x K n 2184 1 0) 0 (y8 x (7 - n))) 2184 1 0 (apd 2185 2184 x K n 2184 1 0 + 1) := rfl
      unfold qf_X15_say_L3_b
      (try dsimp only)
      rw [if_neg (show ¬ 7 - (n : Int) < 0 by omega), byteOf_r (by omega) (by omega), w32_id (x := 7 - (n : Int) - 1) (by omega) (by omega), show ((n : Int) + 1).toNat = n + 1 by omega, show ((n : Int)).toNat = n by omega, st]
      refine qW_bind (qW_some ?_)
      by_cases g : y8 x (7 - n) = 0
      · rw [if_pos g, if_pos (show y8 x (7 - n) ≤ 0 by omega)]
        exact qW_some (show (_ : Int × Int × qm) = _ by rw [show 7 - (n : Int) - 1 = 7 - ((n : Int) + 1) by omega])
      · rw [if_neg g] at e
        rw [if_neg g, if_neg (show ¬ y8 x (7 - n) ≤ 0 by omega)]
        refine qW_bind (qW_some ?_)
        rw [if_pos ⟨by omega, by omega⟩]
        refine qW_bnd ?_
        (try dsimp only)
        refine qW_bnd ?_
        (try dsimp only)
        rw [qw_a (show (2184 : Nat) ≠ 2185 by decide), w32_id (x := apd 2185 2184 x K n 2184 1 0 + 1) (by omega) (by omega)]
        exact qW_some (show (_ : Int × Int × qm) = _ by rw [show 7 - (n : Int) - 1 = 7 - ((n : Int) + 1) by omega])
    · rintro _ rfl
      unfold qf_X15_say_L3_b
      (try dsimp only)
      rw [if_pos (show 7 - (8 : Int) < 0 by omega)]
      exact qW_some rfl
    · exact rfl
  · rintro _ rfl
    (try dsimp only)
    have s := apd_s (T := 2185) (S := 2184) (x := x) (M := K) (by decide) (k := 8) (by omega)
    rw [show (8 : Int) - ((8 : Nat) : Int) = 0 by decide, show yn x 0 = 0 from rfl] at s
    rw [s]
    exact qW_some (by rw [show K 2184 1 0 + (yn x 8 - 0) = K 2184 1 0 + yn x 8 by omega])
theorem apd_both (h_textn : R_textn M K) (h_textc : R_textc M K) (hk : yok x 8) : ∀ k : Nat, k ≤ 8 → M 727 1 0 + (yn x 8 - yn x (8 - k)) ≤ 800 → R_textn (apd 728 727 x M k) (apd 2185 2184 x K k) ∧ R_textc (apd 728 727 x M k) (apd 2185 2184 x K k) := by
  intro k
  induction k with
  | zero => exact fun _ _ => ⟨h_textn, h_textc⟩
  | succ k ih =>
    intro k8 hb
    have s := yc_s (x := x) (i := 7 - k) (by omega)
    rw [show (7 : Int) - (k : Int) + 1 = 8 - (k : Int) by omega] at s
    rw [show (8 : Int) - ((k + 1 : Nat) : Int) = 7 - k by omega] at hb
    have e1 := apd_s (T := 728) (S := 727) (x := x) (M := M) (by decide) (k := k) (by omega)
    have sC : apd 728 727 x M (k + 1) = if y8 x (7 - k) = 0 then apd 728 727 x M k else qw (qw (apd 728 727 x M k) 728 (apd 728 727 x M k 727 1 0) 0 (y8 x (7 - k))) 727 1 0 (apd 728 727 x M k 727 1 0 + 1) := rfl
    have sR : apd 2185 2184 x K (k + 1) = if y8 x (7 - k) = 0 then apd 2185 2184 x K k else qw (qw (apd 2185 2184 x K k) 2185 (apd 2185 2184 x K k 2184 1 0) 0 (y8 x (7 - k))) 2184 1 0 (apd 2185 2184 x K k 2184 1 0 + 1) := rfl
    have ok := hk (7 - k) (by omega) (by omega)
    by_cases g : y8 x (7 - k) = 0
    · rw [if_pos g] at s sC sR
      rw [sC, sR]
      exact ih (by omega) (by omega)
    · rw [if_neg g] at s sC sR
      rw [sC, sR]
      obtain ⟨q1, q2⟩ := ih (by omega) (by omega)
      unfold R_textn at q1
      unfold R_textn R_textc at *
      generalize apd 728 727 x M k = A at *
      generalize apd 2185 2184 x K k = B at *
      simp only [qw_ap, false_and, true_and, and_true, and_false, and_self, if_false, if_true, reduceIte, Nat.reduceEqDiff, Int.reduceEq]
      refine ⟨⟨by omega, by omega, by omega⟩, ?_⟩
      intro i i0 i1
      by_cases gi : i = A 727 1 0
      · rw [if_pos gi, if_pos (by omega)]
        omega
      · rw [if_neg gi, if_neg (by omega)]
        exact q2 i i0 (by omega)
theorem op_say (h_textn : R_textn M K) (h_textc : R_textc M K) : oK2 cI (qf_L_say 20000 x M) (qf_X18_say 20000 x K) (fun M' K' => R_textn M' K' ∧ R_textc M' K') := by
  have s_textn := h_textn
  unfold R_textn at s_textn
  have eS := isSayable_r (x := x) (M := M)
  have eH := hasRoomFor_r (x := x) (M := M) s_textn.1 s_textn.2.1
  have eC := characters_r (x := x) (M := K)
  have b := yc_b (x := x) (i := 8) (by decide)
  unfold oK2
  rcases b01_o (p := yok x 8) with ⟨g, hk⟩ | ⟨g, hk⟩
  · rw [g] at eS eC
    rw [if_neg (by decide)] at eC
    have hw : w32 ((K 2184 1 0) + yn x 8) = (K 2184 1 0) + yn x 8 := w32_id (by omega) (by omega)
    by_cases hr : M 727 1 0 + yn x 8 ≤ 800
    · rw [b01_t hr] at eH
      have eA := append_r (x := x) (M := M) s_textn.1 hr
      have eB := saying_r (x := x) (K := qw K 2156 0 0 0) (by show 0 ≤ K 2184 1 0; omega) (by show K 2184 1 0 + yn x 8 ≤ 800; omega)
      rw [show (qw K 2156 0 0 0) 2184 1 0 = K 2184 1 0 from rfl] at eB
      have fin := apd_both (x := x) (M := M) (K := qw K 2156 0 0 0) (R_textn_x (M := M) (K := K) rfl rfl h_textn) (R_textc_x (M := M) (K := K) rfl (fun _ _ => rfl) (fun _ _ => rfl) h_textc) hk 8 (by decide) (by rw [show (8 : Int) - ((8 : Nat) : Int) = 0 by decide, show yn x 0 = 0 from rfl]; omega)
      have z : apd 2185 2184 x (qw K 2156 0 0 0) 8 2156 0 0 = 0 := apd_o (by decide) (by decide)
      unfold qf_L_say qf_X11_say qf_X18_say qf_X18_say_J15 qf_X18_say_J35
      repeat' first
        | ((with_reducible refine qW_eq eS ?_); (try dsimp only))
        | ((with_reducible refine qW_eq eH ?_); (try dsimp only))
        | ((with_reducible refine qW_eq eC ?_); (try dsimp only))
        | ((with_reducible refine qW_eq eA ?_); (try dsimp only))
        | ((with_reducible refine qW_eq eB ?_); (try dsimp only))
        | with_reducible refine qW_pos (Or.inl trivial) ?_
        | with_reducible refine qW_pos (Or.inr trivial) ?_
        | with_reducible refine qW_within (fun _ => ?_) (fun _ _ => ?_)
        | with_reducible refine qW_isIn (fun _ => ?_) (fun _ _ => ?_)
        | with_reducible refine qW_na (fun _ => ?_) (fun _ => ?_)
        | with_reducible refine qW_ns (fun _ => ?_) (fun _ => ?_)
        | (with_reducible refine qW_goes (fun _ => ?_) (fun _ _ => ?_) (fun _ _ => ?_) <;> (try dsimp only) <;> (try simp only [qw_ap, qfl1_ap, qfl2_ap, qcp1_ap, qcp2_ap, false_and, true_and, and_true, and_false, and_self, if_false, if_true, reduceIte, Nat.reduceEqDiff, Int.reduceEq, Int.reduceNeg]))
        | (with_reducible refine qW_stays (by omega) (fun _ => ?_) (fun _ => ?_) <;> (try dsimp only) <;> (try simp only [qw_ap, qfl1_ap, qfl2_ap, qcp1_ap, qcp2_ap, false_and, true_and, and_true, and_false, and_self, if_false, if_true, reduceIte, Nat.reduceEqDiff, Int.reduceEq, Int.reduceNeg]))
        | (exfalso; omega)
        | with_reducible refine qW_bind ?_
        | (with_reducible refine qW_bnd ?_; try simp only [qw_ap, qfl1_ap, qfl2_ap, qcp1_ap, qcp2_ap, false_and, true_and, and_true, and_false, and_self, if_false, if_true, reduceIte, Nat.reduceEqDiff, Int.reduceEq, Int.reduceNeg])
        | (with_reducible refine qW_some ?_; (try dsimp only); try simp only [qw_ap, qfl1_ap, qfl2_ap, qcp1_ap, qcp2_ap, false_and, true_and, and_true, and_false, and_self, if_false, if_true, reduceIte, Nat.reduceEqDiff, Int.reduceEq, Int.reduceNeg])
        | ((with_reducible refine qW_no ?_); omega)
        | with_reducible refine qW_pos rfl ?_
        | ((with_reducible refine qW_pos ?_ ?_); omega)
        | ((with_reducible refine qW_neg ?_ ?_); (first | omega | decide))
        | with_reducible refine qW_ite (fun _ => ?_) (fun _ => ?_)
        | dsimp only
      all_goals first
        | exact ⟨z, fun _ => by show M 727 1 0 + yn x 8 = K 2184 1 0 + yn x 8; omega, fin⟩
        | done
    · rw [b01_f hr] at eH
      unfold qf_L_say qf_X11_say qf_X18_say qf_X18_say_J15 qf_X18_say_J35
      repeat' first
        | ((with_reducible refine qW_eq eS ?_); (try dsimp only))
        | ((with_reducible refine qW_eq eH ?_); (try dsimp only))
        | ((with_reducible refine qW_eq eC ?_); (try dsimp only))
        | with_reducible refine qW_pos (Or.inl trivial) ?_
        | with_reducible refine qW_pos (Or.inr trivial) ?_
        | with_reducible refine qW_within (fun _ => ?_) (fun _ _ => ?_)
        | with_reducible refine qW_isIn (fun _ => ?_) (fun _ _ => ?_)
        | with_reducible refine qW_na (fun _ => ?_) (fun _ => ?_)
        | with_reducible refine qW_ns (fun _ => ?_) (fun _ => ?_)
        | (with_reducible refine qW_goes (fun _ => ?_) (fun _ _ => ?_) (fun _ _ => ?_) <;> (try dsimp only) <;> (try simp only [qw_ap, qfl1_ap, qfl2_ap, qcp1_ap, qcp2_ap, false_and, true_and, and_true, and_false, and_self, if_false, if_true, reduceIte, Nat.reduceEqDiff, Int.reduceEq, Int.reduceNeg]))
        | (with_reducible refine qW_stays (by omega) (fun _ => ?_) (fun _ => ?_) <;> (try dsimp only) <;> (try simp only [qw_ap, qfl1_ap, qfl2_ap, qcp1_ap, qcp2_ap, false_and, true_and, and_true, and_false, and_self, if_false, if_true, reduceIte, Nat.reduceEqDiff, Int.reduceEq, Int.reduceNeg]))
        | (exfalso; omega)
        | with_reducible refine qW_bind ?_
        | (with_reducible refine qW_bnd ?_; try simp only [qw_ap, qfl1_ap, qfl2_ap, qcp1_ap, qcp2_ap, false_and, true_and, and_true, and_false, and_self, if_false, if_true, reduceIte, Nat.reduceEqDiff, Int.reduceEq, Int.reduceNeg])
        | (with_reducible refine qW_some ?_; (try dsimp only); try simp only [qw_ap, qfl1_ap, qfl2_ap, qcp1_ap, qcp2_ap, false_and, true_and, and_true, and_false, and_self, if_false, if_true, reduceIte, Nat.reduceEqDiff, Int.reduceEq, Int.reduceNeg])
        | ((with_reducible refine qW_no ?_); omega)
        | with_reducible refine qW_pos rfl ?_
        | ((with_reducible refine qW_pos ?_ ?_); omega)
        | ((with_reducible refine qW_neg ?_ ?_); (first | omega | decide))
        | with_reducible refine qW_ite (fun _ => ?_) (fun _ => ?_)
        | dsimp only
      all_goals first
        | exact ⟨fun x => absurd x (by decide), R_textn_x (M := M) (K := K) rfl rfl h_textn, R_textc_x (M := M) (K := K) rfl (fun _ _ => rfl) (fun _ _ => rfl) h_textc⟩
        | done
  · rw [g] at eS eC
    rw [if_pos rfl] at eC
    have hw : w32 ((K 2184 1 0) + -1) = (K 2184 1 0) + -1 := w32_id (by omega) (by omega)
    by_cases hr : M 727 1 0 + yn x 8 ≤ 800
    · rw [b01_t hr] at eH
      unfold qf_L_say qf_X11_say qf_X18_say qf_X18_say_J15 qf_X18_say_J35
      repeat' first
        | ((with_reducible refine qW_eq eS ?_); (try dsimp only))
        | ((with_reducible refine qW_eq eH ?_); (try dsimp only))
        | ((with_reducible refine qW_eq eC ?_); (try dsimp only))
        | with_reducible refine qW_pos (Or.inl trivial) ?_
        | with_reducible refine qW_pos (Or.inr trivial) ?_
        | with_reducible refine qW_within (fun _ => ?_) (fun _ _ => ?_)
        | with_reducible refine qW_isIn (fun _ => ?_) (fun _ _ => ?_)
        | with_reducible refine qW_na (fun _ => ?_) (fun _ => ?_)
        | with_reducible refine qW_ns (fun _ => ?_) (fun _ => ?_)
        | (with_reducible refine qW_goes (fun _ => ?_) (fun _ _ => ?_) (fun _ _ => ?_) <;> (try dsimp only) <;> (try simp only [qw_ap, qfl1_ap, qfl2_ap, qcp1_ap, qcp2_ap, false_and, true_and, and_true, and_false, and_self, if_false, if_true, reduceIte, Nat.reduceEqDiff, Int.reduceEq, Int.reduceNeg]))
        | (with_reducible refine qW_stays (by omega) (fun _ => ?_) (fun _ => ?_) <;> (try dsimp only) <;> (try simp only [qw_ap, qfl1_ap, qfl2_ap, qcp1_ap, qcp2_ap, false_and, true_and, and_true, and_false, and_self, if_false, if_true, reduceIte, Nat.reduceEqDiff, Int.reduceEq, Int.reduceNeg]))
        | (exfalso; omega)
        | with_reducible refine qW_bind ?_
        | (with_reducible refine qW_bnd ?_; try simp only [qw_ap, qfl1_ap, qfl2_ap, qcp1_ap, qcp2_ap, false_and, true_and, and_true, and_false, and_self, if_false, if_true, reduceIte, Nat.reduceEqDiff, Int.reduceEq, Int.reduceNeg])
        | (with_reducible refine qW_some ?_; (try dsimp only); try simp only [qw_ap, qfl1_ap, qfl2_ap, qcp1_ap, qcp2_ap, false_and, true_and, and_true, and_false, and_self, if_false, if_true, reduceIte, Nat.reduceEqDiff, Int.reduceEq, Int.reduceNeg])
        | ((with_reducible refine qW_no ?_); omega)
        | with_reducible refine qW_pos rfl ?_
        | ((with_reducible refine qW_pos ?_ ?_); omega)
        | ((with_reducible refine qW_neg ?_ ?_); (first | omega | decide))
        | with_reducible refine qW_ite (fun _ => ?_) (fun _ => ?_)
        | dsimp only
      all_goals first
        | exact ⟨fun x => absurd x (by decide), R_textn_x (M := M) (K := K) rfl rfl h_textn, R_textc_x (M := M) (K := K) rfl (fun _ _ => rfl) (fun _ _ => rfl) h_textc⟩
        | done
    · rw [b01_f hr] at eH
      unfold qf_L_say qf_X11_say qf_X18_say qf_X18_say_J15 qf_X18_say_J35
      repeat' first
        | ((with_reducible refine qW_eq eS ?_); (try dsimp only))
        | ((with_reducible refine qW_eq eH ?_); (try dsimp only))
        | ((with_reducible refine qW_eq eC ?_); (try dsimp only))
        | with_reducible refine qW_pos (Or.inl trivial) ?_
        | with_reducible refine qW_pos (Or.inr trivial) ?_
        | with_reducible refine qW_within (fun _ => ?_) (fun _ _ => ?_)
        | with_reducible refine qW_isIn (fun _ => ?_) (fun _ _ => ?_)
        | with_reducible refine qW_na (fun _ => ?_) (fun _ => ?_)
        | with_reducible refine qW_ns (fun _ => ?_) (fun _ => ?_)
        | (with_reducible refine qW_goes (fun _ => ?_) (fun _ _ => ?_) (fun _ _ => ?_) <;> (try dsimp only) <;> (try simp only [qw_ap, qfl1_ap, qfl2_ap, qcp1_ap, qcp2_ap, false_and, true_and, and_true, and_false, and_self, if_false, if_true, reduceIte, Nat.reduceEqDiff, Int.reduceEq, Int.reduceNeg]))
        | (with_reducible refine qW_stays (by omega) (fun _ => ?_) (fun _ => ?_) <;> (try dsimp only) <;> (try simp only [qw_ap, qfl1_ap, qfl2_ap, qcp1_ap, qcp2_ap, false_and, true_and, and_true, and_false, and_self, if_false, if_true, reduceIte, Nat.reduceEqDiff, Int.reduceEq, Int.reduceNeg]))
        | (exfalso; omega)
        | with_reducible refine qW_bind ?_
        | (with_reducible refine qW_bnd ?_; try simp only [qw_ap, qfl1_ap, qfl2_ap, qcp1_ap, qcp2_ap, false_and, true_and, and_true, and_false, and_self, if_false, if_true, reduceIte, Nat.reduceEqDiff, Int.reduceEq, Int.reduceNeg])
        | (with_reducible refine qW_some ?_; (try dsimp only); try simp only [qw_ap, qfl1_ap, qfl2_ap, qcp1_ap, qcp2_ap, false_and, true_and, and_true, and_false, and_self, if_false, if_true, reduceIte, Nat.reduceEqDiff, Int.reduceEq, Int.reduceNeg])
        | ((with_reducible refine qW_no ?_); omega)
        | with_reducible refine qW_pos rfl ?_
        | ((with_reducible refine qW_pos ?_ ?_); omega)
        | ((with_reducible refine qW_neg ?_ ?_); (first | omega | decide))
        | with_reducible refine qW_ite (fun _ => ?_) (fun _ => ?_)
        | dsimp only
      all_goals first
        | exact ⟨fun x => absurd x (by decide), R_textn_x (M := M) (K := K) rfl rfl h_textn, R_textc_x (M := M) (K := K) rfl (fun _ _ => rfl) (fun _ _ => rfl) h_textc⟩
        | done
end SY
