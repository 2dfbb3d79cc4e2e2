/-! ===== the special values behind the constructors (wip/tools/q/genm1.py) ===== -/
section M1V
variable {L : Nat} {xs w : Nat → Int32} {a n : Nat} {i j : Int} {S : zm_S} {c : zm_C}
theorem m1_c (h : qt a = none) (h2 : qown a = 0 ∧ a < 2333 ∧ (0 : Int) = 0) (hc : S.1 a = c) : qM id S a i 0 = rdv c i := by
  rw [qM_id h, if_pos h2, hc]
theorem m1_v {f : Nat → Int32} {g : Int → Int} (h : qt a = none) (h2 : qown a = 0 ∧ a < 2333 ∧ (0 : Int) = 0) (hc : S.1 a = .inr (0, n, .inl f)) (hv : ∀ k, k < n → (f k).toInt = g (k : Int)) (h3 : 0 ≤ i) (h4 : i < n) : qM id S a i 0 = g i := by
  rw [m1_c h h2 hc]
  show (if 0 ≤ i ∧ i < (n : Int) then (f i.toNat).toInt else if i = -1 then (n : Int) else 0) = g i
  rw [if_pos ⟨h3, h4⟩, hv _ (by omega), Int.toNat_of_nonneg h3]
def rowV (k : Nat) (c : zm_C) : Bool := match c with
  | .inr (_, n, .inl f) => Nat.beq n 10 && (List.range 10).all (fun j => decide ((f j).toInt = (if j = 6 then (k : Int) else if j = 1 ∨ j = 2 ∨ j = 9 then -1 else 0)))
  | _ => false
theorem rowV_v {k : Nat} {c : zm_C} (h : rowV k c = true) (h1 : 0 ≤ j) (h2 : j < 10) : rdv c j = (if j = 6 then (k : Int) else if j = 1 ∨ j = 2 ∨ j = 9 then -1 else 0) := by
  rcases c with p | ⟨t, n, f | f | f⟩
  · cases h
  · have q : (Nat.beq n 10 && (List.range 10).all (fun j => decide ((f j).toInt = (if j = 6 then (k : Int) else if j = 1 ∨ j = 2 ∨ j = 9 then -1 else 0)))) = true := h
    rw [Bool.and_eq_true] at q
    have e := Nat.eq_of_beq_eq_true q.1
    subst e
    show (if 0 ≤ j ∧ j < ((10 : Nat) : Int) then (f j.toNat).toInt else if j = -1 then ((10 : Nat) : Int) else 0) = _
    rw [if_pos ⟨h1, h2⟩]
    have q2 := of_decide_eq_true (List.all_eq_true.mp q.2 j.toNat (List.mem_range.mpr (by omega)))
    rw [q2]
    by_cases e1 : j = 6
    · rw [if_pos e1, if_pos (by omega)]
    · rw [if_neg e1, if_neg (by omega)]
      by_cases e2 : j = 1 ∨ j = 2 ∨ j = 9
      · rw [if_pos e2, if_pos (by omega)]
      · rw [if_neg e2, if_neg (by omega)]
  · cases h
  · cases h
theorem m0_1140 (h1 : 0 ≤ i) (h2 : i < 8) (h3 : 0 ≤ j) (h4 : j < 10) : qM id (fS L xs w) 1140 i j = (if j = 6 then i else if j = 1 ∨ j = 2 ∨ j = 9 then -1 else 0) := by
  have z : ∀ k, k < 8 → rowV k (QF0 (1141 + k)) = true := by decide +kernel
  have e : qM id (fS L xs w) 1140 i j = (if 0 ≤ i ∧ i < ((8 : Nat) : Int) then rdv ((fS L xs w).1 (1141 + i.toNat)) j else 0) := rfl
  rw [e, if_pos ⟨h1, h2⟩, fe_S (1141 + i.toNat) (by omega) (by omega), rowV_v (z _ (by omega)) h3 h4, Int.toNat_of_nonneg h1]
theorem m0_1139_5 : qM id (fS L xs w) 1139 5 0 = 0 := (m1_c rfl (by decide) fc_1139).trans (by decide +kernel)
theorem m0_1139_6 : qM id (fS L xs w) 1139 6 0 = 1000 := (m1_c rfl (by decide) fc_1139).trans (by decide +kernel)
theorem m0_1139_8 : qM id (fS L xs w) 1139 8 0 = 0 := (m1_c rfl (by decide) fc_1139).trans (by decide +kernel)
theorem m0_1139_9 : qM id (fS L xs w) 1139 9 0 = -1 := (m1_c rfl (by decide) fc_1139).trans (by decide +kernel)
theorem m0_1139_10 : qM id (fS L xs w) 1139 10 0 = 0 := (m1_c rfl (by decide) fc_1139).trans (by decide +kernel)
theorem m0_1139_11 : qM id (fS L xs w) 1139 11 0 = 0 := (m1_c rfl (by decide) fc_1139).trans (by decide +kernel)
theorem m0_1139_13 : qM id (fS L xs w) 1139 13 0 = 0 := (m1_c rfl (by decide) fc_1139).trans (by decide +kernel)
theorem m0_1139_15 : qM id (fS L xs w) 1139 15 0 = 0 := (m1_c rfl (by decide) fc_1139).trans (by decide +kernel)
theorem m0_1139_16 : qM id (fS L xs w) 1139 16 0 = -1000 := (m1_c rfl (by decide) fc_1139).trans (by decide +kernel)
theorem m0_1139_17 : qM id (fS L xs w) 1139 17 0 = 0 := (m1_c rfl (by decide) fc_1139).trans (by decide +kernel)
theorem m0_1139_18 : qM id (fS L xs w) 1139 18 0 = -1 := (m1_c rfl (by decide) fc_1139).trans (by decide +kernel)
theorem m0_2184_1 : qM id (fS L xs w) 2184 1 0 = 0 := (m1_c rfl (by decide) fc_2184).trans (by decide +kernel)
theorem m0_2184_2 : qM id (fS L xs w) 2184 2 0 = 0 := (m1_c rfl (by decide) fc_2184).trans (by decide +kernel)
theorem m0_2184_5 : qM id (fS L xs w) 2184 5 0 = 0 := (m1_c rfl (by decide) fc_2184).trans (by decide +kernel)
theorem m0_2184_10 : qM id (fS L xs w) 2184 10 0 = 0 := (m1_c rfl (by decide) fc_2184).trans (by decide +kernel)
theorem m0_2184_15 : qM id (fS L xs w) 2184 15 0 = 0 := (m1_c rfl (by decide) fc_2184).trans (by decide +kernel)
theorem m0_2184_18 : qM id (fS L xs w) 2184 18 0 = -1 := (m1_c rfl (by decide) fc_2184).trans (by decide +kernel)
theorem m0_2184_26 : qM id (fS L xs w) 2184 26 0 = 0 := (m1_c rfl (by decide) fc_2184).trans (by decide +kernel)
theorem m0_2184_27 : qM id (fS L xs w) 2184 27 0 = 0 := (m1_c rfl (by decide) fc_2184).trans (by decide +kernel)
theorem m0_2184_28 : qM id (fS L xs w) 2184 28 0 = 0 := (m1_c rfl (by decide) fc_2184).trans (by decide +kernel)
theorem m0_2184_29 : qM id (fS L xs w) 2184 29 0 = 0 := (m1_c rfl (by decide) fc_2184).trans (by decide +kernel)
theorem m0_2184_30 : qM id (fS L xs w) 2184 30 0 = 0 := (m1_c rfl (by decide) fc_2184).trans (by decide +kernel)
theorem m0_2184_31 : qM id (fS L xs w) 2184 31 0 = 0 := (m1_c rfl (by decide) fc_2184).trans (by decide +kernel)
theorem m0_2184_32 : qM id (fS L xs w) 2184 32 0 = 0 := (m1_c rfl (by decide) fc_2184).trans (by decide +kernel)
theorem m0_2184_33 : qM id (fS L xs w) 2184 33 0 = 0 := (m1_c rfl (by decide) fc_2184).trans (by decide +kernel)
theorem m0_2184_34 : qM id (fS L xs w) 2184 34 0 = 0 := (m1_c rfl (by decide) fc_2184).trans (by decide +kernel)
theorem m0_2184_36 : qM id (fS L xs w) 2184 36 0 = 0 := (m1_c rfl (by decide) fc_2184).trans (by decide +kernel)
theorem m0_2184_39 : qM id (fS L xs w) 2184 39 0 = 0 := (m1_c rfl (by decide) fc_2184).trans (by decide +kernel)
theorem m0_2184_40 : qM id (fS L xs w) 2184 40 0 = 0 := (m1_c rfl (by decide) fc_2184).trans (by decide +kernel)
theorem m0_2184_41 : qM id (fS L xs w) 2184 41 0 = 0 := (m1_c rfl (by decide) fc_2184).trans (by decide +kernel)
theorem m0_2184_42 : qM id (fS L xs w) 2184 42 0 = 0 := (m1_c rfl (by decide) fc_2184).trans (by decide +kernel)
theorem m0_2184_43 : qM id (fS L xs w) 2184 43 0 = 0 := (m1_c rfl (by decide) fc_2184).trans (by decide +kernel)
theorem m0_2252_0 : qM id (fS L xs w) 2252 0 0 = 0 := (m1_c rfl (by decide) fc_2252).trans (by decide +kernel)
theorem m0_2252_3 : qM id (fS L xs w) 2252 3 0 = 0 := (m1_c rfl (by decide) fc_2252).trans (by decide +kernel)
theorem m0_2252_16 : qM id (fS L xs w) 2252 16 0 = 0 := (m1_c rfl (by decide) fc_2252).trans (by decide +kernel)
theorem m0_2252_17 : qM id (fS L xs w) 2252 17 0 = 0 := (m1_c rfl (by decide) fc_2252).trans (by decide +kernel)
theorem m0_2252_19 : qM id (fS L xs w) 2252 19 0 = 0 := (m1_c rfl (by decide) fc_2252).trans (by decide +kernel)
theorem m0_2252_20 : qM id (fS L xs w) 2252 20 0 = 0 := (m1_c rfl (by decide) fc_2252).trans (by decide +kernel)
theorem m0_2252_21 : qM id (fS L xs w) 2252 21 0 = 0 := (m1_c rfl (by decide) fc_2252).trans (by decide +kernel)
theorem m0_2252_23 : qM id (fS L xs w) 2252 23 0 = 0 := (m1_c rfl (by decide) fc_2252).trans (by decide +kernel)
theorem m0_2252_24 : qM id (fS L xs w) 2252 24 0 = 0 := (m1_c rfl (by decide) fc_2252).trans (by decide +kernel)
theorem m0_2252_25 : qM id (fS L xs w) 2252 25 0 = 0 := (m1_c rfl (by decide) fc_2252).trans (by decide +kernel)
theorem m0_2252_26 : qM id (fS L xs w) 2252 26 0 = -1 := (m1_c rfl (by decide) fc_2252).trans (by decide +kernel)
theorem m0_2252_28 : qM id (fS L xs w) 2252 28 0 = 0 := (m1_c rfl (by decide) fc_2252).trans (by decide +kernel)
theorem m0_2255 (h1 : 0 ≤ i) (h2 : i < 8) : qM id (fS L xs w) 2255 i 0 = i := m1_v (g := fun i => i) (n := 8) rfl (by decide) fc_2255 (by decide +kernel) h1 h2
theorem m0_2260 (h1 : 0 ≤ i) (h2 : i < 8) : qM id (fS L xs w) 2260 i 0 = -1 := m1_v (g := fun i => -1) (n := 8) rfl (by decide) fc_2260 (by decide +kernel) h1 h2
theorem m0_2261 (h1 : 0 ≤ i) (h2 : i < 8) : qM id (fS L xs w) 2261 i 0 = -1 := m1_v (g := fun i => -1) (n := 8) rfl (by decide) fc_2261 (by decide +kernel) h1 h2
theorem m0_2262 (h1 : 0 ≤ i) (h2 : i < 8) : qM id (fS L xs w) 2262 i 0 = -1 := m1_v (g := fun i => -1) (n := 8) rfl (by decide) fc_2262 (by decide +kernel) h1 h2
theorem m0_2285 (hw : ∀ j, j < 400 → w j = -1) (h1 : 0 ≤ i) (h2 : i < 400) : qM id (fS L xs w) 2285 i 0 = -1 := m1_v (g := fun _ => -1) (n := 400) rfl (by decide) fc_2285 (fun k hk => by rw [hw k hk]; decide) h1 h2
end M1V
