/-! ===== the call sentence ===== -/
section SE
variable {M K A B : qm} {cs : List Int} {i1 i2 i3 i4 i5 v c : Int}
theorem tk_s {cs : List Int} {k : Nat} (h : k < cs.length) : cs.take (k + 1) = cs.take k ++ [cs.getD k 0] := by
  induction cs generalizing k with
  | nil => exact absurd h (Nat.not_lt_zero k)
  | cons c cs ih =>
    cases k with
    | zero => rfl
    | succ k =>
      show c :: cs.take (k + 1) = c :: (cs.take k ++ [cs.getD k 0])
      rw [ih (Nat.lt_of_succ_lt_succ h)]
theorem unitW_r (h0 : 0 ≤ B 2208 6 0) (h1 : B 2208 6 0 < 2000) : qf_X14_unit 20000 c B = some (B 2208 6 0 + 1, wT 2212 2208 6 [c] B) := by
  refine qW_e ?_
  unfold qf_X14_unit
  rw [if_pos ⟨h0, h1⟩]
  refine qW_bnd ?_
  (try dsimp only)
  rw [qw_a (show (2208 : Nat) ≠ 2212 by decide), w32_id (by omega) (by omega)]
  refine qW_bnd ?_
  refine qW_some ?_
  rw [qw_ap, if_pos ⟨rfl, rfl, rfl⟩]
  rfl
theorem rSay (h1 : B 2208 35 0 = cs.length) (hl : cs.length ≤ 150) (h2 : ∀ i : Int, 0 ≤ i → i < cs.length → B 2234 i 0 = cs.getD i.toNat 0) (h3 : 0 ≤ B 2208 6 0) (h4 : B 2208 6 0 + cs.length ≤ 2000) : qf_X14_say 20000 B = some (B 2208 6 0 + cs.length, wT 2212 2208 6 cs B) := by
  refine qW_e ?_
  unfold qf_X14_say
  refine qW_call (Q := fun o => o = .inr ((), wT 2212 2208 6 cs B)) ?_ ?_
  · unfold qf_X14_say_L2
    refine qW_for cs.length (fun i s => s = (i, wT 2212 2208 6 (cs.take i.toNat) B)) ?_ ?_ ?_ (by omega) (by omega)
    · rintro i _ i0 i1 rfl
      have n := wT_n (T := 2212) (S := 2208) (s := 6) (M := B) (cs := cs.take i.toNat) (by decide)
      have l : (cs.take i.toNat).length = i.toNat := by rw [List.length_take]; omega
      rw [l] at n
      unfold qf_X14_say_L2_b
      (try dsimp only)
      have z : wT 2212 2208 6 (cs.take i.toNat) B 2208 35 0 = cs.length := (wT_S (by decide) (by decide)).trans h1
      have y : wT 2212 2208 6 (cs.take i.toNat) B 2234 i 0 = cs.getD i.toNat 0 := (wT_o (by decide) (by decide)).trans (h2 i i0 i1)
      rw [if_neg (by omega), if_pos ⟨i0, by omega⟩, y, w32_id (x := i + 1) (by omega) (by omega)]
      refine qW_eq (unitW_r (by omega) (by omega)) ?_
      refine qW_some ?_
      show (_ : Int × qm) = _
      rw [show (i + 1).toNat = i.toNat + 1 by omega, tk_s (by omega), wT_app]
    · rintro _ rfl
      unfold qf_X14_say_L2_b
      (try dsimp only)
      have z : wT 2212 2208 6 (cs.take ((cs.length : Int)).toNat) B 2208 35 0 = cs.length := (wT_S (by decide) (by decide)).trans h1
      rw [if_pos (by omega)]
      refine qW_some ?_
      rw [Int.toNat_natCast, List.take_length]
    · exact rfl
  · rintro _ rfl
    (try dsimp only)
    rw [wT_n (by decide)]
    exact qW_some rfl
def okL (cs : List Int) : Prop := ∀ c ∈ cs, 0 ≤ c ∧ c ≤ 127
theorem okL_a {a b : List Int} (h1 : okL a) (h2 : okL b) : okL (a ++ b) := by
  intro c hc
  rcases List.mem_append.mp hc with g | g
  · exact h1 c g
  · exact h2 c g
theorem okL_c {a : Int} {b : List Int} (h1 : 0 ≤ a ∧ a ≤ 127) (h2 : okL b) : okL (a :: b) := by
  intro c hc
  rcases List.mem_cons.mp hc with g | g
  · rw [g]
    exact h1
  · exact h2 c g
theorem okL_n : okL [] := fun c hc => absurd hc List.not_mem_nil
theorem okL_d {cs : List Int} (h : okL cs) (k : Nat) : 0 ≤ cs.getD k 0 ∧ cs.getD k 0 ≤ 127 := by
  induction cs generalizing k with
  | nil => exact ⟨Int.le_refl 0, show (0 : Int) ≤ 127 by decide⟩
  | cons c cs ih =>
    cases k with
    | zero => exact h c List.mem_cons_self
    | succ k => exact ih (fun d hd => h d (List.mem_cons_of_mem _ hd)) k
theorem okL_wl {n : Nat} {t : Int} : okL (wl n t) := by
  induction n generalizing t with
  | zero => exact okL_n
  | succ n ih =>
    show okL (if t ≤ 0 then [] else (96 + t % 32) :: wl n (t / 32))
    split
    · exact okL_n
    · exact okL_c (by omega) ih
theorem okL_nd (v0 : 0 ≤ v) (v1 : v ≤ 99999) : okL (nd5 v) := by
  have h1 : okL (nd1 v) := okL_c (by omega) (okL_c (by decide) okL_n)
  have h2 : okL (nd2 v) := by
    unfold nd2
    split
    · exact h1
    · exact okL_c (by omega) h1
  have h3 : okL (nd3 v) := by
    unfold nd3
    split
    · exact h2
    · exact okL_c (by omega) h2
  have h4 : okL (nd4 v) := by
    unfold nd4
    split
    · exact h3
    · exact okL_c (by omega) h3
  unfold nd5
  split
  · exact h4
  · exact okL_c (by omega) h4
theorem okL_ns {a : Int} {n : Nat} (a0 : 0 ≤ a) (h : a + n ≤ 99999) : okL (nums a n) := by
  induction n with
  | zero => exact okL_n
  | succ n ih => exact okL_a (ih (by omega)) (okL_nd (by omega) (by omega))
theorem okL_w {x t v : Int} (e : byl x 8 = wl 6 t) (v0 : 0 ≤ v) (v1 : v ≤ 9999) : okL (wpa x v) := by
  unfold wpa
  rw [e]
  exact okL_a okL_wl (okL_c (by decide) (okL_nd v0 (by omega)))
theorem okL_t (hs : sok i1 i2 i3 i4 i5) : okL (txt i1 i2 i3 i4 i5) := by
  obtain ⟨a1, a2, a3, a4, a5, a6⟩ := hs
  unfold txt
  refine okL_a ?_ (okL_c (by decide) (okL_c (by decide) okL_n))
  by_cases g0 : i1 = 0
  · rw [if_pos g0]
    have b3 := a3 (by omega)
    have b4 := a4 (by omega)
    have b5 := a5 g0
    refine okL_a (okL_w (t := 178682) (by decide +kernel) a2.1 a2.2) (okL_a (okL_w (t := 20059310) (by decide +kernel) b3.1 b3.2) ?_)
    rw [show byl 28518 8 = wl 6 207 by decide +kernel]
    exact okL_a okL_wl (okL_c (by decide) (okL_ns b4.1 (by omega)))
  · rw [if_neg g0]
    by_cases g1 : i1 = 1
    · rw [if_pos g1]
      have b3 := a3 (by omega)
      have b4 := a4 (by omega)
      have b6 := a6 g1
      exact okL_a (okL_w (t := 20577) (by decide +kernel) a2.1 a2.2) (okL_a (okL_w (t := 145707) (by decide +kernel) b3.1 b3.2) (okL_a (okL_w (t := 374834) (by decide +kernel) b4.1 b4.2) (okL_w (t := 26259620) (by decide +kernel) b6.1 b6.2)))
    · rw [if_neg g1]
      by_cases g2 : i1 = 2
      · rw [if_pos g2]
        have b3 := a3 (by omega)
        exact okL_a (okL_w (t := 464151) (by decide +kernel) a2.1 a2.2) (okL_w (t := 628196) (by decide +kernel) b3.1 b3.2)
      · rw [if_neg g2]
        by_cases g3 : i1 = 3
        · rw [if_pos g3]
          have b3 := a3 (by omega)
          have b4 := a4 (by omega)
          refine okL_a (okL_w (t := 464151) (by decide +kernel) a2.1 a2.2) (okL_a ?_ (okL_w (t := 628196) (by decide +kernel) b4.1 b4.2))
          unfold wpa
          rw [show byl 38 8 = [38] by decide +kernel]
          exact okL_c (by decide) (okL_c (by decide) (okL_nd b3.1 (by omega)))
        · rw [if_neg g3]
          exact okL_w (t := 143848) (by decide +kernel) a2.1 a2.2
theorem isSN_r {f : Int → Option Int} {T : Int → Prop} (h0 : ¬ (0 ≤ v ∧ v ≤ 9999) → qW (f 0) T) (h1 : 0 ≤ v ∧ v ≤ 9999 → qW (f 1) T) : qW ((qf_X11_isSentenceNumber 20000 v M).bind f) T := by
  have e : qf_X11_isSentenceNumber 20000 v M = some (b01 (0 ≤ v ∧ v ≤ 9999)) := by
    refine qW_e ?_
    unfold qf_X11_isSentenceNumber
    refine qW_within (fun g => ?_) (fun g1 g2 => ?_)
    · rw [b01_f (by omega)]
      exact qW_some rfl
    · rw [b01_t ⟨g1, g2⟩]
      exact qW_some rfl
  refine qW_eq e ?_
  rcases b01_o (p := 0 ≤ v ∧ v ≤ 9999) with ⟨g, q⟩ | ⟨g, q⟩
  · rw [g]
    exact h1 q
  · rw [g]
    exact h0 q
theorem asn_r (h : 0 ≤ i1 ∧ i1 ≤ 4) : qf_X11_areSentenceNumbers 20000 i1 i2 i3 i4 i5 M = some (b01 (sok i1 i2 i3 i4 i5)) := by
  refine qW_e ?_
  have yes : sok i1 i2 i3 i4 i5 → (1 : Int) = b01 (sok i1 i2 i3 i4 i5) := fun z => (b01_t z).symm
  have no : ¬ sok i1 i2 i3 i4 i5 → (0 : Int) = b01 (sok i1 i2 i3 i4 i5) := fun z => (b01_f z).symm
  have hc : i1 = 0 ∨ i1 = 1 ∨ i1 = 2 ∨ i1 = 3 ∨ i1 = 4 := by omega
  rcases hc with rfl | rfl | rfl | rfl | rfl
  all_goals
    unfold qf_X11_areSentenceNumbers qf_X11_areSentenceNumbers_J27 qf_X11_areSentenceNumbers_J28 qf_X11_areSentenceNumbers_J30 qf_X11_areSentenceNumbers_J44 qf_X11_areSentenceNumbers_J60 qf_X11_areSentenceNumbers_J61 qf_X11_areSentenceNumbers_J63 qf_X11_areSentenceNumbers_J87 qf_X11_areSentenceNumbers_J88 qf_X11_areSentenceNumbers_J90 qf_X11_areSentenceNumbers_J112
    repeat' first
      | with_reducible refine isSN_r (fun _ => ?_) (fun _ => ?_)
      | with_reducible refine qW_pos (Or.inl trivial) ?_
      | with_reducible refine qW_pos (Or.inr trivial) ?_
      | with_reducible refine qW_within (fun _ => ?_) (fun _ _ => ?_)
      | with_reducible refine qW_isIn (fun _ => ?_) (fun _ _ => ?_)
      | with_reducible refine qW_na (fun _ => ?_) (fun _ => ?_)
      | with_reducible refine qW_ns (fun _ => ?_) (fun _ => ?_)
      | (with_reducible refine qW_goes (fun _ => ?_) (fun _ _ => ?_) (fun _ _ => ?_) <;> (try dsimp only) <;> (try simp only [qw_ap, qfl1_ap, qfl2_ap, qcp1_ap, qcp2_ap, false_and, true_and, and_true, and_false, and_self, if_false, if_true, reduceIte, Nat.reduceEqDiff, Int.reduceEq, Int.reduceNeg]))
      | (with_reducible refine qW_stays (by omega) (fun _ => ?_) (fun _ => ?_) <;> (try dsimp only) <;> (try simp only [qw_ap, qfl1_ap, qfl2_ap, qcp1_ap, qcp2_ap, false_and, true_and, and_true, and_false, and_self, if_false, if_true, reduceIte, Nat.reduceEqDiff, Int.reduceEq, Int.reduceNeg]))
      | (exfalso; omega)
      | with_reducible refine qW_bind ?_
      | (with_reducible refine qW_bnd ?_; try simp only [qw_ap, qfl1_ap, qfl2_ap, qcp1_ap, qcp2_ap, false_and, true_and, and_true, and_false, and_self, if_false, if_true, reduceIte, Nat.reduceEqDiff, Int.reduceEq, Int.reduceNeg])
      | (with_reducible refine qW_some ?_; (try dsimp only); try simp only [qw_ap, qfl1_ap, qfl2_ap, qcp1_ap, qcp2_ap, false_and, true_and, and_true, and_false, and_self, if_false, if_true, reduceIte, Nat.reduceEqDiff, Int.reduceEq, Int.reduceNeg])
      | ((with_reducible refine qW_no ?_); omega)
      | with_reducible refine qW_pos rfl ?_
      | ((with_reducible refine qW_pos ?_ ?_); omega)
      | ((with_reducible refine qW_neg ?_ ?_); (first | omega | decide))
      | with_reducible refine qW_ite (fun _ => ?_) (fun _ => ?_)
      | dsimp only
    all_goals first
      | exact yes (by unfold sok; omega)
      | exact no (by unfold sok; omega)
theorem sent_T (h_mtextn : R_mtextn M K) (h_mtext : R_mtext M K) (ok : okL cs) (hl : cs.length ≤ 150) (hA : CA (qw M 908 2 0 (M 908 1 0)) cs 150 A) {L : Int} (hL : M 908 1 0 = L) {D : qm} (hB : ∀ i j, B 2212 i j = K 2212 i j) (hs : B 2208 6 0 = K 2208 6 0) (hD : D = wT 2212 2208 6 cs B) (fit : L + cs.length ≤ 2000) (hb : M 6 11 0 ≠ 0) : R_mtextn (qw A 908 1 0 (L + cs.length)) D ∧ R_mtext (qw A 908 1 0 (L + cs.length)) D := by
  unfold R_mtextn R_mtext at *
  obtain ⟨m0, m1, m2, m3⟩ := h_mtextn
  have n1 : (qw A 908 1 0 (L + cs.length)) 908 1 0 = L + cs.length := by rw [qw_ap, if_pos ⟨rfl, rfl, rfl⟩]
  have n2 : D 2208 6 0 = L + cs.length := by
    rw [hD, wT_n (by decide), hs, m2, hL]
  have n3 : (qw A 908 1 0 (L + cs.length)) 6 11 0 = M 6 11 0 := by
    rw [qw_a (by decide), hA.1, wT_o (by decide) (by decide)]
    rfl
  have n4 : ∀ i : Int, (qw A 908 1 0 (L + cs.length)) 909 i 0 = if L ≤ i ∧ i < L + cs.length then cs.getD (i - L).toNat 0 else M 909 i 0 := by
    intro i
    rw [qw_a (by decide), hA.1, wT_T (by decide), show (qw M 908 2 0 (M 908 1 0)) 908 2 0 = L from hL]
    rfl
  have n5 : ∀ i : Int, D 2212 i 0 = if L ≤ i ∧ i < L + cs.length then cs.getD (i - L).toNat 0 else K 2212 i 0 := by
    intro i
    rw [hD, wT_T (by decide), hs, m2, hL, hB]
  rw [n1, n2, n3]
  refine ⟨⟨by omega, by omega, rfl, fun z => absurd z hb⟩, ?_⟩
  intro i i0 i1
  rw [n4, n5]
  by_cases g : L ≤ i ∧ i < L + cs.length
  · rw [if_pos g, if_pos g]
    exact ⟨rfl, okL_d ok _⟩
  · rw [if_neg g, if_neg g]
    exact h_mtext i i0 (by omega)
theorem sent_N (h_mtextn : R_mtextn M K) (h_mtext : R_mtext M K) (hA : CA (qw M 908 2 0 (M 908 1 0)) cs 150 A) {D : qm} (hB : ∀ i j, D 2212 i j = K 2212 i j) (hs : D 2208 6 0 = K 2208 6 0) : R_mtextn A D ∧ R_mtext A D := by
  unfold R_mtextn R_mtext at *
  obtain ⟨m0, m1, m2, m3⟩ := h_mtextn
  have n1 : A 908 1 0 = M 908 1 0 := by
    rw [hA.1, wT_S (by decide) (by decide)]
    rfl
  have n3 : A 6 11 0 = M 6 11 0 := by
    rw [hA.1, wT_o (by decide) (by decide)]
    rfl
  have n4 : ∀ i : Int, i < M 908 1 0 → A 909 i 0 = M 909 i 0 := by
    intro i hi
    rw [hA.1, wT_T (by decide), show (qw M 908 2 0 (M 908 1 0)) 908 2 0 = M 908 1 0 from rfl, if_neg (by omega)]
    rfl
  rw [n1, n3, hs]
  refine ⟨⟨m0, m1, m2, m3⟩, ?_⟩
  intro i i0 i1
  rw [n4 i i1, hB]
  exact h_mtext i i0 i1
end SE
